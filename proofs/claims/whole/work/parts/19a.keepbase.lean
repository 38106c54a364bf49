/-! what is kept: clones, and the class of grids -/
def kC (U : State) : Prop := va_Nw (.castable "[I" "java/lang/Cloneable") U ∧ va_Nw (.castable "[Z" "java/lang/Cloneable") U ∧ (Cond.arrayOver (.array .boolean)).before #[] U = true
theorem kO_moved {u U : State} (hvm : u.vm.Alike U.vm) (h : (Cond.arrayOver (.array .boolean)).before #[] u = true) : (Cond.arrayOver (.array .boolean)).before #[] U = true := by
  obtain ⟨comp, c, k, h1, h2, h3, h4, h5⟩ := arrayOverA_spec h
  obtain ⟨k', hk', he⟩ := hvm.2.2 _ _ h3
  have hi : (U.vm.classes.findIdx? fun (x : Class) => match x.kind with | .array component _ => component == comp | _ => false) = some c := by
    refine (va_idx_bare U.vm comp).symm.trans ?_
    first | rw [hvm.bare_eq] | rw [← hvm.bare_eq]
    exact (va_idx_bare u.vm comp).trans h2
  have hkind : k'.kind = .array comp (.array .boolean) := by rw [he]; exact h4
  have f1 : U.vm.findClass (FieldType.array .boolean).toString = some comp := by rw [hvm.findClass]; exact h1
  have f2 : U.vm.findClass ("[" ++ (FieldType.array .boolean).toString) = some c := by rw [hvm.findClass]; exact h5
  unfold Cond.before Cond.holds
  simp only [Cond.value]
  rw [f1, Option.bind_some]
  refine (congrArg (fun o : Option Nat => (o.bind (fun c => (U.vm.classes[c]?).map fun (k : Class) => match k.kind with | .array _ ty => decide (ty = FieldType.array .boolean) && decide (U.vm.findClass ("[" ++ (FieldType.array .boolean).toString) = some c) | _ => false) == some true)) hi).trans ?_
  simp [hk', hkind, f2]
theorem kC_warm {s U : State} (hW : s.WarmedH U.vm) (h : kC s) : kC U := ⟨h.1.warmC hW, h.2.1.warmC hW, kO_moved hW.alike h.2.2⟩
theorem kC_same {u U : State} (e : u.vm = U.vm) (h : kC u) : kC U := ⟨h.1.same rfl e, h.2.1.same rfl e, kO_moved (by rw [e]; exact Vm.Alike.refl _) h.2.2⟩
theorem kBlind {As : List Value} {D : va_G} {w : va_W} {sz : Nat} {tys : List (ClassId × FieldType)} : FrameBlind (va_Pc As (fun U => wrP D tys w sz U ∧ kC U)) := fun a U g mk q => ⟨q.1, ⟨q.2.1.1, q.2.1.2.1, va_K.moved (u := U) (U := U.calling g mk a) (Vm.Alike.refl U.vm) q.2.1.2.2.1, q.2.1.2.2.2⟩, kC_same (u := U) (U := U.calling g mk a) rfl q.2.2⟩
theorem wk_start {l : Launch} {y : MethodName} {cc : ByteArray} {maxL : Nat} {ret : Option FieldType} {ws ws' : List Cond} {rm : Room} {D : va_G} {tys : List (ClassId × FieldType)} {w : va_W} {sz : Nat} {As : List Value} {mc ms : Nat} {Q0 : (Nat → Prop) → Array Value → State → Outcome → State → Prop} (own : String) (hy : plainName y.cls = true) (hC : y.cls = own) (hw : ws = Cond.code y cc maxL ret :: ws') (hlen : (lg_sl As).length ≤ maxL)
    (body : ∀ (p : Program) (e : Env) (s : State) (m : MethodId) (below : List Frame) (meth : Method) (c : Code), (p.tables.exec = Jvm.exec ∧ c.code = cc ∧ meth.sig.returnType = ret ∧ c.maxLocals = maxL ∧ s.vm.findClass own = some m.cls ∧ (∀ w ∈ ws, w.before As.toArray s = true) ∧ meth.locks = false ∧ (y.name = "<init>" → meth.name = "<init>")) → kC s → va_P D vwCl w s.heap → va_K D vwCl tys s → ∀ A : Nat → Prop, va_D A w → (∀ q : Nat, s.heap.size ≤ q → A q) → va_S A s.heap s.heap [] → ∀ ls : Array Slot, lv_has ls maxL (lv_args 0 As) → W p l e rm s m As.toArray below meth c s.heap [] 0 0 (MQ below (Q0 A) As.toArray s mc ms A) (F0 m 0 ls [])) :
    Met l y ws rm (va_Pc As (fun U => wrP D tys w sz U ∧ kC U)) (Q0 (va_A w sz)) mc ms (va_A w sz) := by
  refine Met.ofW (cc := cc) (maxL := maxL) (ret := ret) hy hw ?_
  intro p e s m args below meth c s₁ B hml hv
  obtain ⟨rfl, ⟨hsz, hP, hK, hD0⟩, hk⟩ := hv
  subst hsz
  rw [lg_entry_eq]
  exact body p e s m below meth c ⟨B.exec, B.bytes, B.returns, hml, by rw [← hC]; exact findClass_of_methodNamed B.named, atoms_spec B.pre, B.notSynchronized, fun h => by rw [← h]; exact (name_of_methodNamed B.named B.method).1⟩ hk hP hK (va_A w s.heap.size) (hD0.self (sz := s.heap.size)) (fun q h => Or.inr h) va_S.rf _ (lv_entry As hlen)
abbrev wrQr {S : Type} (D : va_G) (tys : List (ClassId × FieldType)) (w2 : S → Nat → va_W) (A : Nat → Prop) : Array Value → State → Outcome → State → Prop := va_Qr (fun _ : S => True) (fun u a t => wrB D tys A (w2 u a) t) A
section WK
variable {p : Program} {l : Launch} {e : Env} {R : Room} {s : State} {m : MethodId} {args : Array Value} {below : List Frame} {meth : Method} {c : Code} {H : Heap} {locs : List Loc} {cells slots : Nat} {Q : State → Prop}
variable {cc : ByteArray} {pc : Nat} {ls : Array Slot} {rest : List Value} {D : va_G} {tys : List (ClassId × FieldType)} {A : Nat → Prop}
theorem wr_rret {S : Type} {a : Nat} {u : S} {w2 : S → Nat → va_W} {rt : FieldType} (hx : p.tables.exec = Jvm.exec) (hb : c.code = cc) (hr : meth.sig.returnType = some (.array rt)) (hlocks : meth.locks = false) (hP : va_P D vwCl (w2 u a) H) (hK : va_K D vwCl tys s) (hD : va_D A (w2 u a)) (hS : va_S A s.heap H locs) (hdg : decode cc pc = .ok (.areturn, 1)) : W p l e R s m args below meth c H locs cells slots (MQ below (wrQr D tys w2 A) args s cells slots A) (F0 m pc ls [.ref a]) :=
  W.aret hx hb hr (Or.inr ⟨rt, rfl⟩) (Or.inr ⟨a, rfl⟩) (fun t ht hW => ⟨⟨u, a, rfl, trivial, by rw [ht]; exact hP, va_K.moved hW.alike hK, hD⟩, hS.F ht⟩) hS.2.2 hdg hlocks
variable {y : MethodName} {bytes : ByteArray} {maxL nL n index mc ms : Nat} {ret : Option FieldType} {ws : List Cond} {rm : Room} {Ts : List Cond} {own C : String} {b : Addr} {As st0 : List Value} {ws0 ex w1 : va_W} {H0 : Heap}
theorem wk_cVrE {S : Type} {w2 : S → Nat → va_W} (hk : kC s) (F : CallFix p m c cc nL s args Ts own) (hM : Met l y ws rm (va_Pc (.ref b :: As) (fun U => wrP D tys ws0 H.size U ∧ kC U)) (wrQr D tys w2 (va_A ws0 H.size)) mc ms (va_A ws0 H.size)) (cw : CallW R s args own C index y bytes maxL ret ws rm mc ms n)
    (hP : va_P D vwCl (ws0 ++ ex) H) (hK : va_K D vwCl tys s) (hD : va_D A (ws0 ++ ex)) (hS : va_S A H0 H locs) (hA : ∀ q, H0.size ≤ q → A q)
    (hv : ∃ cell : Cell, H[b]? = some cell ∧ cell.vm.isStatics = false ∧ s.vm.findClass C = some cell.cls) (hn : As.length = n) (hsz : ls.size = nL) (hst : st0 = As.reverse ++ .ref b :: rest) (hW : 2 * (F0 m pc ls st0).monitorRoom + (rest.map fun v => v.category).sum ≤ 8) (hdg : decode cc pc = .ok (.invokevirtual index, 3)) (hf : cells + mc ≤ R.cells ∧ slots + ms ≤ R.slots)
    (kk : ∀ (u : S) (a : Nat) (H1 : Heap) (locs1 : List Loc), va_P D vwCl (w2 u a ++ ex) H1 → va_D A (w2 u a ++ ex) → va_S A H0 H1 locs1 → W p l e R s m args below meth c H1 locs1 (cells + mc) (slots + ms) Q (F0 m (pc + 3) ls (.ref a :: rest))) : W p l e R s m args below meth c H locs cells slots Q (F0 m pc ls st0) := by
  have hFc := wx_free (cl := vwCl) hD.left hS hA
  refine va_callr (va_runV F hM cw ⟨kBlind, hv, fun U hU hW => ⟨rfl, ⟨by rw [hU], by rw [hU]; exact hP.left, va_K.moved hW.alike hK, hD.left.weaken (fun _ _ _ _ => trivial)⟩, kC_warm hW hk⟩⟩ rfl hn hsz hst hW hdg hf) hS (fun q _ h => hFc q h) hFc (fun u a t H1 locs1 ht hvm hw hB hz1 hk1 hS1 => ?_)
  obtain ⟨hP1, hK1, hD1⟩ := hB
  rw [ht] at hP1
  obtain ⟨hP2, hD2⟩ := va_joinE hP hD hk1 hFc hP1 hD1
  exact kk u a H1 locs1 hP2 hD2 hS1
theorem wk_cVi {v : Int32} (hk : kC s) (F : CallFix p m c cc nL s args Ts own) (hM : Met l y ws rm (va_Pc (.ref b :: As) (fun U => wrP D tys ws0 H.size U ∧ kC U)) (wrQi D tys v w1 (va_A ws0 H.size)) mc ms (va_A ws0 H.size)) (cw : CallW R s args own C index y bytes maxL ret ws rm mc ms n)
    (hP : va_P D vwCl (ws0 ++ ex) H) (hK : va_K D vwCl tys s) (hD : va_D A (ws0 ++ ex)) (hS : va_S A H0 H locs) (hA : ∀ q, H0.size ≤ q → A q)
    (hv : ∃ cell : Cell, H[b]? = some cell ∧ cell.vm.isStatics = false ∧ s.vm.findClass C = some cell.cls) (hn : As.length = n) (hsz : ls.size = nL) (hst : st0 = As.reverse ++ .ref b :: rest) (hW : 2 * (F0 m pc ls st0).monitorRoom + (rest.map fun v => v.category).sum ≤ 8) (hdg : decode cc pc = .ok (.invokevirtual index, 3)) (hf : cells + mc ≤ R.cells ∧ slots + ms ≤ R.slots)
    (kk : ∀ (H1 : Heap) (locs1 : List Loc), va_P D vwCl (w1 ++ ex) H1 → va_D A (w1 ++ ex) → va_S A H0 H1 locs1 → W p l e R s m args below meth c H1 locs1 (cells + mc) (slots + ms) Q (F0 m (pc + 3) ls (.int v :: rest))) : W p l e R s m args below meth c H locs cells slots Q (F0 m pc ls st0) := by
  have hFc := wx_free (cl := vwCl) hD.left hS hA
  refine va_calli (va_runV F hM cw ⟨kBlind, hv, fun U hU hW => ⟨rfl, ⟨by rw [hU], by rw [hU]; exact hP.left, va_K.moved hW.alike hK, hD.left.weaken (fun _ _ _ _ => trivial)⟩, kC_warm hW hk⟩⟩ rfl hn hsz hst hW hdg hf) hS (fun q _ h => hFc q h) hFc (fun r u t H1 locs1 ht hvm hw hB hz1 hk1 hS1 => ?_)
  obtain ⟨hP1, hK1, hD1⟩ := hB
  rw [ht] at hP1
  obtain ⟨hP2, hD2⟩ := va_joinE hP hD hk1 hFc hP1 hD1
  subst hw
  exact kk H1 locs1 hP2 hD2 hS1
/-- new boolean[17][], of the class of grids that is known -/
theorem wk_newg (hexec : p.tables.exec = Jvm.exec) (hb : c.code = cc) {own : String} {index : Nat} (hown : s.vm.findClass own = some m.cls) (hclink : (Cond.classLink own index "[Z").before args s = true) (hk : kC s) {cI cZ cY : ClassId} (hK : va_K D vwCl (gTY cI cZ cY) s) {ws0 : va_W} (hP : va_P D vwCl ws0 H) (hD : va_D A ws0) (hS : va_S A H0 H locs) (hA : ∀ q, H0.size ≤ q → A q)
    {n9 : Int32} (hn9 : ¬ n9 < 0) (hN : n9.toNatClampNeg = 17) (hcells : cells + 1 ≤ R.cells) (hslots : slots + 17 ≤ R.slots) (hdg : decode cc pc = .ok (.anewarray index, 3))
    (kk : ∀ (q : Nat) (H1 : Heap) (kA kZ : Class), s.vm.classes[cY]? = some kA → kA.kind = .array cZ (.array .boolean) → s.vm.classes[cZ]? = some kZ → va_P D vwCl (ws0 ++ [(q, .inl (cY, 17, .inr (.inr (.inr (.inr (fun _ => none))))))]) H1 → va_D A (ws0 ++ [(q, .inl (cY, 17, .inr (.inr (.inr (.inr (fun _ => none))))))]) → va_S A H0 H1 locs →
      W p l e R s m args below meth c H1 locs (cells + 1) (slots + 17) Q (F0 m (pc + 3) ls (.ref q :: rest))) : W p l e R s m args below meth c H locs cells slots Q (F0 m pc ls (.int n9 :: rest)) := by
  have eZ : (FieldType.array .boolean).toString = "[Z" := by decide +kernel
  refine W.anewA (t := .boolean) hexec hb hown (by rw [eZ]; exact hclink) (show (Cond.arrayOver (.array .boolean)).before args s = true from hk.2.2) rfl hdg rfl hn9 (by rw [hN]; decide) hcells (by rw [hN]; exact hslots) fun cA kA comp f1 f2 f3 f4 => ?_
  rw [hN]
  have g1 : s.vm.findClass ("[" ++ (FieldType.array .boolean).toString) = some cY := (hK.2 2 (cY, .array .boolean) rfl).2
  cases f1.symm.trans g1
  have g2 : s.vm.findClass "[Z" = some cZ := va_nm_boolean (hK.2 1 (cZ, .boolean) rfl).2
  rw [eZ] at f4
  cases f4.symm.trans g2
  obtain ⟨kZ, hkZ, -⟩ := Vm.findClass_spec g2
  generalize hH1 : H.push ({ cls := cY, slots := Array.replicate 17 .null, vm := .none } : Cell) = H1
  have z1 : H1.size = H.size + 1 := by rw [← hH1, Array.size_push]
  have e1 : H1[H.size]? = some (arrV cY 17 (fun _ => .null)) := by rw [← hH1, Array.getElem?_push_size, ← arrV_new]
  have o1 : ∀ q : Nat, q < H.size → H1[q]? = H[q]? := fun q hq => by rw [← hH1, Array.getElem?_push, if_neg (Nat.ne_of_lt hq)]
  have hkp : ∀ (k : Nat) (x : Nat × va_E), ws0[k]? = some x → H1[x.1]? = H[x.1]? := fun k x hx => o1 x.1 ((hP k x hx).lt)
  refine kk H.size H1 kA kZ f2 f3 hkZ ((hP.kept hkp).app (fun k x hx => ?_)) (hD.push hP rfl (hA _ hS.1)) ⟨Nat.le_trans hS.1 (by omega), fun x h1 h2 => (o1 x (Nat.lt_of_lt_of_le h1 hS.1)).trans (hS.2.1 x h1 h2), hS.2.2⟩
  have hz : k < 1 := (List.getElem?_eq_some_iff.mp hx).1
  rw [show k = 0 by omega] at hx
  cases hx
  show H1[H.size]? = some (vp_cell _ _)
  rw [vp_cell_q]
  exact e1
/-- a row is stored into a grid -/
theorem wk_aast (hexec : p.tables.exec = Jvm.exec) (hb : c.code = cc) {cZ cY : ClassId} {ws0 : va_W} (hP : va_P D vwCl ws0 H) (hD : va_D A ws0) (hS : va_S A H0 H locs) {kA kZ : Class} (k1 : s.vm.classes[cY]? = some kA) (k2 : kA.kind = .array cZ (.array .boolean)) (k3 : s.vm.classes[cZ]? = some kZ) (q0 qk : Nat) {a v N : Nat} {f : Nat → Option Nat} {g : Nat → Int32} (ha : ws0[q0]? = some (a, .inl (cY, 17, .inr (.inr (.inr (.inr f)))))) (hv : ws0[qk]? = some (v, .inl (cZ, N, .inl g))) {i : Int32} (hin : vp_in i 17) (hdg : decode cc pc = .ok (.aastore, 1))
    (kk : ∀ (H1 : Heap) (locs1 : List Loc), va_P D vwCl (ws0.set q0 (a, .inl (cY, 17, .inr (.inr (.inr (.inr (va_up f i.toNatClampNeg (some v)))))))) H1 → va_D A (ws0.set q0 (a, .inl (cY, 17, .inr (.inr (.inr (.inr (va_up f i.toNatClampNeg (some v)))))))) → va_S A H0 H1 locs1 → W p l e R s m args below meth c H1 locs1 cells slots Q (F0 m (pc + 1) ls rest)) : W p l e R s m args below meth c H locs cells slots Q (F0 m pc ls (.ref v :: .int i :: .ref a :: rest)) := by
  have hlt : i.toNatClampNeg < 17 := Nat.not_le.mp fun q => hin (Or.inr q)
  have h0 : ¬ i < 0 := fun q => hin (Or.inl q)
  refine W.aast hexec hb (hP q0 _ ha) (fun q h => by cases h) (fun h => by cases h) k1 k2 rfl k3 ⟨h0, by show _ < (arrV _ _ _).slots.size; rw [arrV_size]; exact hlt⟩ (hP qk _ hv) (fun q h => by cases h) k3 (va_asg _ _) rfl rfl hdg fun H1 e z oq => ?_
  refine kk H1 _ (hP.set hD ha ?_ oq) (hD.set ha) (hS.put z oq (hD.2 q0 _ ha))
  show H1[a]? = some (vp_cell _ _)
  rw [e]
  rw [vp_cell_q, vp_cell_q, arrV_store]
  congr 2
  funext q
  by_cases hq : q = i.toNatClampNeg
  · subst hq
    simp [updV, va_up, va_rf]
  · simp [updV, va_up, hq]
theorem wx_cViE {v : Int32} (F : CallFix p m c cc nL s args Ts own) (hM : Met l y ws rm (va_Pc (.ref b :: As) (wrP D tys ws0 H.size)) (wrQi D tys v w1 (va_A ws0 H.size)) mc ms (va_A ws0 H.size)) (cw : CallW R s args own C index y bytes maxL ret ws rm mc ms n)
    (hP : va_P D vwCl (ws0 ++ ex) H) (hK : va_K D vwCl tys s) (hD : va_D A (ws0 ++ ex)) (hS : va_S A H0 H locs) (hA : ∀ q, H0.size ≤ q → A q)
    (hv : ∃ cell : Cell, H[b]? = some cell ∧ cell.vm.isStatics = false ∧ s.vm.findClass C = some cell.cls) (hn : As.length = n) (hsz : ls.size = nL) (hst : st0 = As.reverse ++ .ref b :: rest) (hW : 2 * (F0 m pc ls st0).monitorRoom + (rest.map fun v => v.category).sum ≤ 8) (hdg : decode cc pc = .ok (.invokevirtual index, 3)) (hf : cells + mc ≤ R.cells ∧ slots + ms ≤ R.slots)
    (kk : ∀ (H1 : Heap) (locs1 : List Loc), va_P D vwCl (w1 ++ ex) H1 → va_D A (w1 ++ ex) → va_S A H0 H1 locs1 → W p l e R s m args below meth c H1 locs1 (cells + mc) (slots + ms) Q (F0 m (pc + 3) ls (.int v :: rest))) : W p l e R s m args below meth c H locs cells slots Q (F0 m pc ls st0) := by
  have hFc := wx_free (cl := vwCl) hD.left hS hA
  refine va_calli (va_runV F hM cw ⟨wBlind, hv, fun U hU hW => ⟨rfl, by rw [hU], by rw [hU]; exact hP.left, va_K.moved hW.alike hK, hD.left.weaken (fun _ _ _ _ => trivial)⟩⟩ rfl hn hsz hst hW hdg hf) hS (fun q _ h => hFc q h) hFc (fun r u t H1 locs1 ht hvm hw hB hz1 hk1 hS1 => ?_)
  obtain ⟨hP1, hK1, hD1⟩ := hB
  rw [ht] at hP1
  obtain ⟨hP2, hD2⟩ := va_joinE hP hD hk1 hFc hP1 hD1
  subst hw
  exact kk H1 locs1 hP2 hD2 hS1
end WK
/-! the kept grid -/
abbrev kGr (rz : Nat → Nat) (k : Nat) : Nat → Option Nat := fun i => if i < k then some (rz i) else none
abbrev kRows (cZ : ClassId) (rz : Nat → Nat) (sg : Nat → Nat → Int32) (k : Nat) : va_W := (List.range k).map (fun i => (rz i, .inl (cZ, 17, .inl (sg i))))
abbrev kX (cZ cY : ClassId) (g : Nat) (rz : Nat → Nat) (sg : Nat → Nat → Int32) (k : Nat) : va_W := (g, .inl (cY, 17, .inr (.inr (.inr (.inr (kGr rz k)))))) :: kRows cZ rz sg k
abbrev wKp (cI cZ cY : ClassId) (q9 : Nat) (kt : Nat → Int32) (g : Nat) (rz : Nat → Nat) (sk : Nat → Nat → Int32) : va_W := kX cZ cY g rz sk 17 ++ [(q9, .inl (cI, 36, .inl kt))]
theorem kX_s {cZ cY : ClassId} {g q : Nat} {rz : Nat → Nat} {sg : Nat → Nat → Int32} {k : Nat} {w : va_W} : (w ++ kX cZ cY g rz sg k ++ ([(q, .inl (cZ, 17, .inl (sg k)))] : va_W)).set w.length ((g, .inl (cY, 17, .inr (.inr (.inr (.inr (va_up (kGr rz k) k (some q)))))))  : Nat × va_E) = w ++ kX cZ cY g (fun i => if i = k then q else rz i) sg (k + 1) := by
  rw [List.append_assoc, List.set_append_right _ _ (Nat.le_refl _), Nat.sub_self]
  congr 1
  show ((g, .inl (cY, 17, .inr (.inr (.inr (.inr (va_up (kGr rz k) k (some q))))))) : Nat × va_E) :: (kRows cZ rz sg k ++ ([(q, .inl (cZ, 17, .inl (sg k)))] : va_W)) = (g, .inl (cY, 17, .inr (.inr (.inr (.inr (kGr (fun i => if i = k then q else rz i) (k + 1))))))) :: kRows cZ (fun i => if i = k then q else rz i) sg (k + 1)
  have e1 : va_up (kGr rz k) k (some q) = kGr (fun i => if i = k then q else rz i) (k + 1) := by
    funext i
    show (if i = k then some q else if i < k then some (rz i) else none) = if i < k + 1 then some (if i = k then q else rz i) else none
    by_cases h : i = k
    · rw [if_pos h, if_pos (by omega), if_pos h]
    · rw [if_neg h, if_neg h]
      by_cases h2 : i < k
      · rw [if_pos h2, if_pos (by omega)]
      · rw [if_neg h2, if_neg (by omega)]
  have e2 : kRows cZ rz sg k ++ ([(q, .inl (cZ, 17, .inl (sg k)))] : va_W) = kRows cZ (fun i => if i = k then q else rz i) sg (k + 1) := by
    show (List.range k).map _ ++ _ = (List.range (k + 1)).map _
    rw [List.range_succ, List.map_append, List.map_singleton, show (fun i => if i = k then q else rz i) k = q from if_pos rfl]
    congr 1
    refine List.map_congr_left (fun i hi => ?_)
    rw [show (fun i => if i = k then q else rz i) i = rz i from if_neg (Nat.ne_of_lt (List.mem_range.mp hi))]
  rw [e1, e2]
theorem fit01 {cZ : ClassId} {f : Nat → Int32} (h : ∀ j, j < 17 → f j = 0 ∨ f j = 1) : ∀ (i : Nat) (v : Value), (vp_cell cZ (17, .inl f)).slots[i]? = some v → fits .boolean v = true := by
  rw [vp_cell_i]
  refine va_fit (fun i hi => ?_)
  rcases h i hi with e | e
  · rw [e]; rfl
  · rw [e]; rfl
theorem fitI {cI : ClassId} {n : Nat} {f : Nat → Int32} : ∀ (i : Nat) (v : Value), (vp_cell cI (n, .inl f)).slots[i]? = some v → fits .int v = true := by
  rw [vp_cell_i]
  exact va_fit (fun i hi => rfl)
section KP
variable {cI cZ cY : ClassId} {h qx qy qh qt qs : Nat} {rw : Nat → Nat} {th : Int32} {n : Nat} {xs ys hs : Nat → Int32} {t : Nat} {tb : Nat → Int32} {sg : Nat → Nat → Int32} {fl : Int32} {ex : va_W} {x y : Nat × va_E} {q9 g : Nat} {kt : Nat → Int32} {rz : Nat → Nat} {sk : Nat → Nat → Int32}
theorem wR_exc : (wR cI cZ cY h qx qy qh qt qs rw th n xs ys hs t tb sg fl ++ (x :: ex))[23]? = some x := by
  rw [List.getElem?_append_right (Nat.le_of_eq wR_len), wR_len]; rfl
theorem wR_kq : (wR cI cZ cY h qx qy qh qt qs rw th n xs ys hs t tb sg fl ++ wKp cI cZ cY q9 kt g rz sk)[41]? = some (q9, .inl (cI, 36, .inl kt)) := by
  rw [List.getElem?_append_right (by rw [wR_len]; omega), wR_len]
  show (kX cZ cY g rz sk 17 ++ _)[18]? = _
  rw [List.getElem?_append_right (Nat.le_refl 18)]
  rfl
theorem wR_kp {i : Nat} (hi : i < 17) : (wR cI cZ cY h qx qy qh qt qs rw th n xs ys hs t tb sg fl ++ wKp cI cZ cY q9 kt g rz sk)[24 + i]? = some (rz i, .inl (cZ, 17, .inl (sk i))) := by
  rw [List.getElem?_append_right (by rw [wR_len]; omega), wR_len, show 24 + i - 23 = i + 1 by omega]
  show (kRows cZ rz sk 17 ++ _)[i]? = _
  rw [List.getElem?_append_left (show i < (kRows cZ rz sk 17).length from hi), List.getElem?_map, List.getElem?_range hi]
  rfl
theorem va_P.cgR {D : va_G} {H : Heap} {tb2 : Nat → Int32} {sg2 : Nat → Nat → Int32} (hP : va_P D vwCl (wR cI cZ cY h qx qy qh qt qs rw th n xs ys hs t tb sg fl ++ ex) H) (ht : ∀ k, k < 36 → tb k = tb2 k) (hs2 : ∀ i j, i < 17 → j < 17 → sg i j = sg2 i j) : va_P D vwCl (wR cI cZ cY h qx qy qh qt qs rw th n xs ys hs t tb2 sg2 fl ++ ex) H := by
  have h1 : va_P D vwCl (wR cI cZ cY h qx qy qh qt qs rw th n xs ys hs t tb2 sg fl ++ ex) H := by
    have := va_P.cg (k := 4) (a := qt) (N := 36) (f := tb) (g := tb2) hP rfl ht
    exact this
  intro k q hq
  by_cases hk : 6 ≤ k ∧ k < 23
  · obtain ⟨i, rfl⟩ : ∃ i, k = 6 + i := ⟨k - 6, by omega⟩
    have hi : i < 17 := by omega
    rw [wR_rowE hi] at hq
    cases hq
    have h2 := h1 (6 + i) _ (wR_rowE hi)
    show H[rw i]? = some (vp_cell cZ (17, .inl (sg2 i)))
    rw [← arr_cg (f := sg i) (g := sg2 i) (fun j hj => hs2 i j hi hj)]
    exact h2
  · refine h1 k q ?_
    rw [← hq]
    by_cases h6 : k < 6
    · show (wRo cI cY h qx qy qh qt qs rw th n xs ys hs t tb2 fl ++ wRr cZ rw sg ++ ex)[k]? = (wRo cI cY h qx qy qh qt qs rw th n xs ys hs t tb2 fl ++ wRr cZ rw sg2 ++ ex)[k]?
      rw [List.append_assoc, List.append_assoc, List.getElem?_append_left (show k < (wRo cI cY h qx qy qh qt qs rw th n xs ys hs t tb2 fl).length from h6), List.getElem?_append_left (show k < (wRo cI cY h qx qy qh qt qs rw th n xs ys hs t tb2 fl).length from h6)]
    · rw [List.getElem?_append_right (by rw [wR_len]; omega), List.getElem?_append_right (by rw [wR_len]; omega), wR_len, wR_len]
theorem va_D.cgR {A : Nat → Prop} {w1 w2 : va_W} (hD : va_D A w1) (h : ∀ (k : Nat) (q : Nat × va_E), w2[k]? = some q → ∃ q2 : Nat × va_E, w1[k]? = some q2 ∧ q2.1 = q.1) : va_D A w2 := by
  refine ⟨fun i j p q hi hj hpq => ?_, fun i q hi => ?_⟩
  · obtain ⟨p2, h1, h2⟩ := h i p hi
    obtain ⟨q2, h3, h4⟩ := h j q hj
    exact hD.1 i j p2 q2 h1 h3 (by rw [h2, h4]; exact hpq)
  · obtain ⟨q2, h1, h2⟩ := h i q hi
    have := hD.2 i q2 h1
    rw [h2] at this
    exact this
theorem va_D.cgR2 {A : Nat → Prop} {tb2 : Nat → Int32} {sg2 : Nat → Nat → Int32} (hD : va_D A (wR cI cZ cY h qx qy qh qt qs rw th n xs ys hs t tb sg fl ++ ex)) : va_D A (wR cI cZ cY h qx qy qh qt qs rw th n xs ys hs t tb2 sg2 fl ++ ex) := by
  refine va_D.cgR hD (fun k q hq => ?_)
  have e : ∀ (tb : Nat → Int32) (sg : Nat → Nat → Int32), ((wR cI cZ cY h qx qy qh qt qs rw th n xs ys hs t tb sg fl ++ ex)[k]?).map (·.1) = ([h, qx, qy, qh, qt, qs] ++ ((List.range 17).map rw) ++ ex.map (·.1))[k]? := by
    intro tb sg
    rw [← List.getElem?_map, List.map_append]
    congr 2
  have e1 := e tb2 sg2
  rw [hq] at e1
  have e2 := (e tb sg).trans e1.symm
  cases h9 : (wR cI cZ cY h qx qy qh qt qs rw th n xs ys hs t tb sg fl ++ ex)[k]? with
  | none => rw [h9] at e2; cases e2
  | some q2 =>
    rw [h9] at e2
    exact ⟨q2, rfl, Option.some.inj e2⟩
end KP
/-- rows brought back, as far as k -/
def r_bb (sk sg : Nat → Nat → Int32) : Nat → Nat → Nat → Int32
  | 0 => sg
  | k + 1 => r_up (r_bb sk sg k) k (va_cpy (sk k) (r_bb sk sg k k) 0 0 17)
theorem r_bb_lt {sk sg : Nat → Nat → Int32} {i j : Nat} (hj : j < 17) : ∀ k, i < k → r_bb sk sg k i j = sk i j
  | 0, h => absurd h (Nat.not_lt_zero _)
  | k + 1, h => by
    show (if i = k then va_cpy (sk k) (r_bb sk sg k k) 0 0 17 else r_bb sk sg k i) j = sk i j
    by_cases e : i = k
    · rw [if_pos e, e]
      show (if 0 ≤ j ∧ j < 0 + 17 then sk k (0 + (j - 0)) else _) = sk k j
      rw [if_pos ⟨Nat.zero_le _, by omega⟩]
      congr 1
      omega
    · rw [if_neg e]
      exact r_bb_lt hj k (by omega)
theorem fits01 {f : Nat → Int32} (h : ∀ j, j < 17 → f j = 0 ∨ f j = 1) {sp : Nat} (hs : sp = 0) {m : Nat} (hm : m = 17) : ∀ i, i < m → fits .boolean (.int (f (sp + i))) = true := by
  subst hs; subst hm
  intro i hi
  rw [Nat.zero_add]
  rcases h i hi with e | e
  · rw [e]; rfl
  · rw [e]; rfl
def r_okO (n : Nat) (xs ys : Nat → Int32) (x y : Int32) : Bool := if r_isPlace x y = true then (if r_cairnAt n xs ys x y = (-1) then true else false) else false
def r_thO (n : Nat) (xs ys : Nat → Int32) (x y : Int32) : Int32 := if r_isPlace x y = true then (if r_cairnAt n xs ys x y = (-1) then 0 else 2) else 1
/-! means -/
abbrev wrQd (D : va_G) (tys : List (ClassId × FieldType)) (v : UInt64) (w2 : va_W) (A : Nat → Prop) : Array Value → State → Outcome → State → Prop := va_Qd (fun (r : UInt64) (_ : Unit) => r = v) (fun _ t => wrB D tys A w2 t) A
theorem wr_dret {p : Program} {l : Launch} {e : Env} {R : Room} {s : State} {m : MethodId} {args : Array Value} {below : List Frame} {meth : Method} {c : Code} {H : Heap} {locs : List Loc} {cells slots : Nat} {cc : ByteArray} {pc : Nat} {ls : Array Slot} {D : va_G} {tys : List (ClassId × FieldType)} {A : Nat → Prop} {v w : UInt64} {w2 : va_W} (hx : p.tables.exec = Jvm.exec) (hb : c.code = cc) (hr : meth.sig.returnType = some .double) (hlocks : meth.locks = false) (he : v = w) (hP : va_P D vwCl w2 H) (hK : va_K D vwCl tys s) (hD : va_D A w2) (hS : va_S A s.heap H locs) (hdg : decode cc pc = .ok (.dreturn, 1)) : W p l e R s m args below meth c H locs cells slots (MQ below (wrQd D tys w w2 A) args s cells slots A) (F0 m pc ls [.double v]) :=
  W.dret hx hb hr (fun t ht hW => ⟨⟨v, (), rfl, he, by rw [ht]; exact hP, va_K.moved hW.alike hK, hD⟩, hS.F ht⟩) hS.2.2 hdg hlocks
theorem dv_all : (List.range 290).all (fun a => (List.range 17).all (fun b => (FP.ddiv (FP.i2d (2 * nI a)) (FP.i2d (nI (b + 1))) &&& 0x7fffffffffffffff) ≤ 0x7ff0000000000000)) = true := by decide +kernel
theorem dv_n64 {a n : Nat} (ha : a ≤ 289) (h1 : 1 ≤ n) (hn : n ≤ 17) : vf_n64 (FP.ddiv (FP.i2d (2 * nI a)) (FP.i2d (nI n))) := by
  have h := List.all_eq_true.mp (List.all_eq_true.mp dv_all a (List.mem_range.mpr (by omega))) (n - 1) (List.mem_range.mpr (by omega))
  rw [show n - 1 + 1 = n by omega] at h
  unfold vf_n64
  exact of_decide_eq_true h
theorem rg_sum_le {f : Nat → Nat} {c : Nat} (h : ∀ k, f k ≤ c) : ∀ k, rg_sum f k ≤ k * c
  | 0 => Nat.zero_le _
  | k + 1 => by
    have h1 := rg_sum_le h k
    have h2 := h k
    show rg_sum f k + f k ≤ (k + 1) * c
    rw [Nat.succ_mul]
    omega
theorem rg_sum17 {f : Nat → Nat} {n : Nat} (hn : n ≤ 17) (h : ∀ k, f k ≤ n) : rg_sum f n ≤ 289 := by
  have h1 := rg_sum_le h n
  have h2 : n * n ≤ 17 * 17 := Nat.mul_le_mul hn hn
  omega
def r_mean (n t : Nat) (xs ys tb : Nat → Int32) (sg : Nat → Nat → Int32) : UInt64 := FP.ddiv (FP.i2d (2 * r_edges n t xs ys tb sg 0)) (FP.i2d (nI n))
