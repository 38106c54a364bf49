/-! the law's own methods: the moor that landed and the law's own, side by side -/
abbrev lX : Type := (Nat → Int32) × Int32 × Nat × Nat × (Nat → Int32) × (Nat → Int32) × (Nat → Int32) × (Nat → Int32) × (Nat → Int32) × Nat × Nat × (Nat → Int32) × (Nat → Int32) × (Nat → Int32) × (Nat → Int32) × (Nat → Int32)
abbrev lS : Type := Nat × (Nat → Nat → Int32) × Nat × (Nat → Nat → Int32) × Nat × (Nat → Nat → Int32) × Int32
abbrev lW (cI : ClassId) (a : Nat → Nat) (u : lX) : va_W := wX cI (a 0) (a 1) u.1 u.2.1 (a 2) (a 3) (a 4) (a 5) (a 6) (a 7) u.2.2.1 u.2.2.2.1 u.2.2.2.2.1 u.2.2.2.2.2.1 u.2.2.2.2.2.2.1 u.2.2.2.2.2.2.2.1 u.2.2.2.2.2.2.2.2.1 (a 8) (a 9) (a 10) (a 11) (a 12) (a 13) u.2.2.2.2.2.2.2.2.2.1 u.2.2.2.2.2.2.2.2.2.2.1 u.2.2.2.2.2.2.2.2.2.2.2.1 u.2.2.2.2.2.2.2.2.2.2.2.2.1 u.2.2.2.2.2.2.2.2.2.2.2.2.2.1 u.2.2.2.2.2.2.2.2.2.2.2.2.2.2.1 u.2.2.2.2.2.2.2.2.2.2.2.2.2.2.2
def lB (B0 h : Nat) : Nat → Prop := fun q => B0 ≤ q ∧ q < h
abbrev lM (D : va_G) (cI cY : ClassId) (h : Nat) (v : lS) (H : Heap) : Prop := sM D cI cY h v.1 v.2.1 v.2.2.1 v.2.2.2.1 v.2.2.2.2.1 v.2.2.2.2.2.1 v.2.2.2.2.2.2 H
def lJ (D : va_G) (cI cY : ClassId) (a : Nat → Nat) (B0 h : Nat) (u : lX) (v : lS) (H : Heap) : Prop := va_P D vwCl (lW cI a u) H ∧ va_D (lB B0 h) (lW cI a u) ∧ lM D cI cY h v H
theorem va_P.hy0 {D : va_G} {cl : List vw_C} {w : va_W} {H H1 : Heap} (x : va_P D cl w H) (e : hy 0 H H1) : va_P D cl w H1 := x.kept fun k q hk => e.2 q.1 (Nat.zero_le _) ((x k q hk).lt)
theorem va_P.hz9 {D : va_G} {cl : List vw_C} {w : va_W} {B0 h : Nat} {H H1 : Heap} (x : va_P D cl w H) (d : va_D (lB B0 h) w) (e : hz h H H1) : va_P D cl w H1 := x.kept fun k q hk => e.2 q.1 (Nat.ne_of_lt (d.2 k q hk).2) ((x k q hk).lt)
theorem va_D.same {A : Nat → Prop} {w w1 : va_W} (x : va_D A w) (e : w1.map Prod.fst = w.map Prod.fst) : va_D A w1 := by
  have key : ∀ (k : Nat) (q : Nat × va_E), w1[k]? = some q → ∃ q0 : Nat × va_E, w[k]? = some q0 ∧ q0.1 = q.1 := by
    intro k q hk
    have h1 : (w1.map Prod.fst)[k]? = some q.1 := by rw [List.getElem?_map, hk]; rfl
    rw [e, List.getElem?_map] at h1
    cases h2 : w[k]? with
    | none => rw [h2] at h1; cases h1
    | some q0 => rw [h2] at h1; exact ⟨q0, rfl, Option.some.inj h1⟩
  refine ⟨fun i j p q hi hj hpq => ?_, fun k q hk => ?_⟩
  · obtain ⟨p0, h1, h2⟩ := key i p hi
    obtain ⟨q0, h3, h4⟩ := key j q hj
    exact x.1 i j p0 q0 h1 h3 (by rw [h2, h4]; exact hpq)
  · obtain ⟨q0, h1, h2⟩ := key k q hk
    rw [← h2]; exact x.2 k q0 h1
abbrev lP (D : va_G) (cI cZ cY : ClassId) (B0 : Nat) (Pic : Heap → Prop) (sz : Nat) : State → Prop := fun U => U.heap.size = sz ∧ B0 ≤ sz ∧ Pic U.heap ∧ kS D cI cZ cY U ∧ xE (fun q => B0 ≤ q) U U.heap
theorem xE_call {A : Nat → Prop} {U : State} (g : JFrame) (mk : MethodId) (a : Array Value) (q : xE A U U.heap) : xE A (U.calling g mk a) (U.calling g mk a).heap := ⟨xW_same (s := U) (U := U.calling g mk a) rfl q.1, xS_same (s := U) (U := U.calling g mk a) rfl q.2.1, q.2.2.1.moved (u := U) (U := U.calling g mk a) (Vm.Alike.refl U.vm), q.2.2.2.moved (u := U) (U := U.calling g mk a) (Vm.Alike.refl U.vm)⟩
theorem lBlind {As : List Value} {D : va_G} {cI cZ cY : ClassId} {B0 : Nat} {Pic : Heap → Prop} {sz : Nat} : FrameBlind (va_Pc As (lP D cI cZ cY B0 Pic sz)) := fun a U g mk q => ⟨q.1, q.2.1, q.2.2.1, q.2.2.2.1, kS.moved (u := U) (U := U.calling g mk a) (Vm.Alike.refl U.vm) q.2.2.2.2.1, xE_call g mk a q.2.2.2.2.2⟩
abbrev lQi {S : Type} (post : Int32 → S → Prop) (Pf : S → Heap → Prop) (B0 : Nat) : Array Value → State → Outcome → State → Prop := va_Qi post (fun u t => Pf u t.heap) (fun q => B0 ≤ q)
theorem la_start {l : Launch} {y : MethodName} {cc : ByteArray} {maxL : Nat} {ret : Option FieldType} {ws ws' : List Cond} {rm : Room} {D : va_G} {cI cZ cY : ClassId} {B0 : Nat} {Pic : Heap → Prop} {sz : Nat} {As : List Value} {mc ms : Nat} {Q0 : Array Value → State → Outcome → State → Prop} (own : String) (hyn : plainName y.cls = true) (hC : y.cls = own) (hw : ws = Cond.code y cc maxL ret :: ws') (hlen : (lg_sl As).length ≤ maxL)
    (body : ∀ (p : Program) (e : Env) (s : State) (m : MethodId) (below : List Frame) (meth : Method) (c : Code), (p.tables.exec = Jvm.exec ∧ c.code = cc ∧ meth.sig.returnType = ret ∧ c.maxLocals = maxL ∧ s.vm.findClass own = some m.cls ∧ (∀ w ∈ ws, w.before As.toArray s = true) ∧ meth.locks = false) → B0 ≤ s.heap.size → Pic s.heap → kS D cI cZ cY s → xE (fun q => B0 ≤ q) s s.heap → va_S (fun q => B0 ≤ q) s.heap s.heap [] → ∀ ls : Array Slot, lv_has ls maxL (lv_args 0 As) → W p l e rm s m As.toArray below meth c s.heap [] 0 0 (MQ below Q0 As.toArray s mc ms (fun q => B0 ≤ q)) (F0 m 0 ls [])) :
    Met l y ws rm (va_Pc As (lP D cI cZ cY B0 Pic sz)) Q0 mc ms (fun q => B0 ≤ q) := by
  refine Met.ofW (cc := cc) (maxL := maxL) (ret := ret) hyn hw ?_
  intro p e s m args below meth c s₁ B hml hv
  obtain ⟨rfl, hsz, hB, hP, hK, hE⟩ := hv
  subst hsz
  rw [lg_entry_eq]
  exact body p e s m below meth c ⟨B.exec, B.bytes, B.returns, hml, by rw [← hC]; exact findClass_of_methodNamed B.named, atoms_spec B.pre, B.notSynchronized⟩ hB hP hK hE va_S.rf _ (lv_entry As hlen)
section LC
variable {p : Program} {l : Launch} {e : Env} {R : Room} {s : State} {m : MethodId} {args : Array Value} {below : List Frame} {meth : Method} {c : Code} {H : Heap} {locs : List Loc} {cells slots : Nat} {Q : State → Prop}
variable {cc : ByteArray} {pc : Nat} {ls : Array Slot} {rest : List Value} {D : va_G} {B0 h : Nat} {cI cZ cY : ClassId} {mc ms : Nat}
theorem la_zret {S : Type} {v : Int32} {b : Bool} {post : Int32 → S → Prop} {Pf : S → Heap → Prop} (u : S) (hx : p.tables.exec = Jvm.exec) (hb : c.code = cc) (hr : meth.sig.returnType = some .boolean) (hlocks : meth.locks = false) (he : v = bI b) (hp : post v u) (hP : Pf u H) (hS : va_S (fun q => B0 ≤ q) s.heap H locs) (hc : cells ≤ mc) (hs : slots ≤ ms) (hdg : decode cc pc = .ok (.ireturn, 1)) : W p l e R s m args below meth c H locs cells slots (MQ below (lQi post Pf B0) args s mc ms (fun q => B0 ≤ q)) (F0 m pc ls [.int v]) :=
  W.widen hc hs (W.zret hx hb hr (by rw [he]; exact bI_narrow b) (fun t ht _ => ⟨⟨v, u, rfl, hp, by show Pf u t.heap; rw [ht]; exact hP⟩, hS.F ht⟩) hS.2.2 hdg hlocks)
variable {y : MethodName} {bytes : ByteArray} {maxL nL n index : Nat} {ret : Option FieldType} {ws : List Cond} {rm : Room} {Ts : List Cond} {own C : String} {b : Addr} {As st0 : List Value} {w w1 : va_W} {ok1 : Bool} {E1 : String}
theorem lD.A {A : Nat → Prop} (d : va_D (lB B0 h) w) (hA : ∀ q, B0 ≤ q → A q) : va_D A w := d.weaken fun _ _ _ z => hA _ z.1
theorem lc_fr (hD : va_D (lB B0 h) w) {H1 : Heap} (hz1 : H.size ≤ H1.size) (hk1 : ∀ q : Nat, q < H.size → ¬ va_A w H.size q → H1[q]? = H[q]?) : hy h H H1 := ⟨hz1, fun q hq hl => hk1 q hl (fun z => by
  rcases z with ⟨k, e, z⟩ | z
  · have := (hD.2 k (q, e) z).2
    show False
    have h9 : q < h := this
    omega
  · omega)⟩
theorem lc_ap (hD : va_D (lB B0 h) w) (hB : B0 ≤ H.size) : ∀ q, va_A w H.size q → B0 ≤ q := fun q z => by
  rcases z with ⟨k, e, z⟩ | z
  · exact (hD.2 k (q, e) z).1
  · omega
/-- a method of the moor that may throw, and here doesn't -/
theorem lc_xi {v : Int32} (hE : xE (fun q => B0 ≤ q) s s.heap) (F : CallFix p m c cc nL s args Ts own) (hM : vx_Met l y ws rm (va_Pc (.ref b :: As) (wrPx D (gTY cI cZ cY) w H.size)) (xQi D (gTY cI cZ cY) ok1 v w1 (va_A w H.size)) (xX D (gTY cI cZ cY) ok1 E1 w (va_A w H.size)) mc ms (va_A w H.size)) (cw : CallW R s args own C index y bytes maxL ret ws rm mc ms n) (hok : ok1 = true) (hsame : w1.map Prod.fst = w.map Prod.fst)
    (hP : va_P D vwCl w H) (hK : kS D cI cZ cY s) (hD : va_D (lB B0 h) w) (hS : va_S (fun q => B0 ≤ q) s.heap H locs) (hB : B0 ≤ s.heap.size)
    (hv : ∃ cell : Cell, H[b]? = some cell ∧ cell.vm.isStatics = false ∧ s.vm.findClass C = some cell.cls) (hn : As.length = n) (hsz : ls.size = nL) (hst : st0 = As.reverse ++ .ref b :: rest) (hW : 2 * (F0 m pc ls st0).monitorRoom + (rest.map fun v => v.category).sum ≤ 8) (hdg : decode cc pc = .ok (.invokevirtual index, 3)) (hf : cells + mc ≤ R.cells ∧ slots + ms ≤ R.slots)
    (kk : ∀ (H1 : Heap) (locs1 : List Loc), va_P D vwCl w1 H1 → va_D (lB B0 h) w1 → hy h H H1 → va_S (fun q => B0 ≤ q) s.heap H1 locs1 → W p l e R s m args below meth c H1 locs1 (cells + mc) (slots + ms) Q (F0 m (pc + 3) ls (.int v :: rest))) : W p l e R s m args below meth c H locs cells slots Q (F0 m pc ls st0) := by
  have hA : ∀ q, s.heap.size ≤ q → B0 ≤ q := fun q z => Nat.le_trans hB z
  have hDA : va_D (fun q => B0 ≤ q) w := lD.A hD (fun _ z => z)
  have hFc := wx_free (cl := vwCl) hDA hS hA
  refine vx_calli (vx_runV F hM cw ⟨xBlind, hv, fun U hU hW => ⟨rfl, xx_pre hE hP hK.1 hDA hS hA U hU hW⟩⟩ rfl hn hsz hst hW hdg hf) hS (fun q _ h => hFc q h) hFc (fun q _ h => hFc q h) (fun E ce q9 u t H1 locs1 ht hvm _ hB1 hz1 hk1 hS1 hce hcv hcl => ?_) (fun r u t H1 locs1 ht hvm hw hB1 hz1 hk1 hS1 => ?_)
  · obtain ⟨h1, -⟩ := hB1
    rw [hok] at h1; cases h1
  · obtain ⟨hP1, hK1, hD1⟩ := hB1
    rw [ht] at hP1
    obtain ⟨-, h2⟩ := hw
    subst h2
    exact kk H1 locs1 hP1 (hD.same hsame) (lc_fr hD hz1 hk1) hS1
/-- one that does not throw -/
theorem lc_wi {v : Int32} (F : CallFix p m c cc nL s args Ts own) (hM : Met l y ws rm (va_Pc (.ref b :: As) (wrP D (gTY cI cZ cY) w H.size)) (wrQi D (gTY cI cZ cY) v w1 (va_A w H.size)) mc ms (va_A w H.size)) (cw : CallW R s args own C index y bytes maxL ret ws rm mc ms n) (hsame : w1.map Prod.fst = w.map Prod.fst)
    (hP : va_P D vwCl w H) (hK : kS D cI cZ cY s) (hD : va_D (lB B0 h) w) (hS : va_S (fun q => B0 ≤ q) s.heap H locs) (hB : B0 ≤ s.heap.size)
    (hv : ∃ cell : Cell, H[b]? = some cell ∧ cell.vm.isStatics = false ∧ s.vm.findClass C = some cell.cls) (hn : As.length = n) (hsz : ls.size = nL) (hst : st0 = As.reverse ++ .ref b :: rest) (hW : 2 * (F0 m pc ls st0).monitorRoom + (rest.map fun v => v.category).sum ≤ 8) (hdg : decode cc pc = .ok (.invokevirtual index, 3)) (hf : cells + mc ≤ R.cells ∧ slots + ms ≤ R.slots)
    (kk : ∀ (H1 : Heap) (locs1 : List Loc), va_P D vwCl w1 H1 → va_D (lB B0 h) w1 → hy h H H1 → va_S (fun q => B0 ≤ q) s.heap H1 locs1 → W p l e R s m args below meth c H1 locs1 (cells + mc) (slots + ms) Q (F0 m (pc + 3) ls (.int v :: rest))) : W p l e R s m args below meth c H locs cells slots Q (F0 m pc ls st0) := by
  have hFc := lc_ap hD (Nat.le_trans hB hS.1)
  refine va_calli (va_runV F hM cw ⟨wBlind, hv, fun U hU hW => ⟨rfl, by rw [hU], by rw [hU]; exact hP, va_K.moved hW.alike hK.1, hD.weaken (fun _ _ _ _ => trivial)⟩⟩ rfl hn hsz hst hW hdg hf) hS (fun q _ h => hFc q h) hFc (fun r u t H1 locs1 ht hvm hw hB1 hz1 hk1 hS1 => ?_)
  obtain ⟨hP1, hK1, hD1⟩ := hB1
  rw [ht] at hP1
  subst hw
  exact kk H1 locs1 hP1 (hD.same hsame) (lc_fr hD hz1 hk1) hS1
theorem lc_rd {v : UInt64} (F : CallFix p m c cc nL s args Ts own) (hM : Met l y ws rm (va_Pc (.ref b :: As) (fun U => va_P D vwCl w U.heap ∧ va_K D vwCl (gTY cI cZ cY) U)) (vp_Sd (fun r => r = v)) 0 0 (fun _ => False)) (cw : CallW R s args own C index y bytes maxL ret ws rm 0 0 n) (hP : va_P D vwCl w H) (hK : kS D cI cZ cY s)
    (hv : ∃ cell : Cell, H[b]? = some cell ∧ cell.vm.isStatics = false ∧ s.vm.findClass C = some cell.cls) (hn : As.length = n) (hsz : ls.size = nL) (hst : st0 = As.reverse ++ .ref b :: rest) (hW : 2 * (F0 m pc ls st0).monitorRoom + (rest.map fun v => v.category).sum ≤ 8) (hdg : decode cc pc = .ok (.invokevirtual index, 3)) (hf : cells + 0 ≤ R.cells ∧ slots + 0 ≤ R.slots)
    (kk : W p l e R s m args below meth c H locs cells slots Q (F0 m (pc + 3) ls (.double v :: rest))) : W p l e R s m args below meth c H locs cells slots Q (F0 m pc ls st0) :=
  vp_callSd (W.runV F hM cw ⟨gBlind, hv, fun U hU hW => ⟨rfl, by rw [hU]; exact hP, va_K.moved hW.alike hK.1⟩⟩ rfl hn hsz hst hW hdg hf) (fun r hr => by subst hr; exact kk)
end LC
theorem lW_recv {D : va_G} {cI cZ cY : ClassId} {a : Nat → Nat} {u : lX} {H : Heap} {s : State} (hK : va_K D vwCl (gTY cI cZ cY) s) (hP : va_P D vwCl (lW cI a u) H) : ∃ cell : Cell, H[a 0]? = some cell ∧ cell.vm.isStatics = false ∧ s.vm.findClass RX1 = some cell.cls := va_recv hK hP (ci := 1) (q0 := 0) rfl rfl
/-! sums of 32 bits, and what is told -/
def s_acc (f : Nat → Int32) (d : Int32) : Nat → Int32
  | 0 => d
  | k + 1 => s_acc f d k + f k
def s_isB (nT : Nat) (T : Nat → Nat → Int32) (a b : Int32) : Bool := if nI (s_fa T a b nT).1 ≤ 0 then false else true
def s_one (nT : Nat) (T : Nat → Nat → Int32) (a b : Int32) : Bool := if nI (s_fa T a b nT).1 = 1 then true else false
def s_isS (nT : Nat) (T : Nat → Nat → Int32) (nS : Nat) (S : Nat → Nat → Int32) (a b : Int32) : Bool := if s_isB nT T a b = true then s_stay nS S a b else false
def s_eRow (C : Nat → Nat → Int32) (nT : Nat) (T : Nat → Nat → Int32) (nS : Nat) (S : Nat → Nat → Int32) (a b : Int32) : Nat → Int32 := upd (upd (upd (upd (upd (fun _ => 0) 0 (bI (s_isB nT T a b))) 1 (bI (s_one nT T a b))) 2 (bI (s_isS nT T nS S a b))) 3 (bI (s_unf C nT T a b))) 4 (bI (s_flp C nT T nS S a b))
def s_hasN (C : Nat → Nat → Int32) (nT : Nat) (T : Nat → Nat → Int32) (nS : Nat) (S : Nat → Nat → Int32) (i : Nat) : Nat → Int32 := s_acc (fun b => s_eRow C nT T nS S (nI i) (nI b) 0) 0
def s_bdN (C : Nat → Nat → Int32) (nT : Nat) (T : Nat → Nat → Int32) (nS : Nat) (S : Nat → Nat → Int32) (d : Int32) (i : Nat) : Nat → Int32 := s_acc (fun b => s_eRow C nT T nS S (nI i) (nI b) 1) d
def s_bdO (nC : Nat) (C : Nat → Nat → Int32) (nT : Nat) (T : Nat → Nat → Int32) (nS : Nat) (S : Nat → Nat → Int32) : Nat → Int32
  | 0 => 0
  | i + 1 => s_bdN C nT T nS S (s_bdO nC C nT T nS S i) i nC
def s_eO (nC : Nat) (C : Nat → Nat → Int32) (nT : Nat) (T : Nat → Nat → Int32) (nS : Nat) (S : Nat → Nat → Int32) : Nat → Int32 := s_acc (fun i => s_hasN C nT T nS S i nC) 0
def s_inP (T : Nat → Nat → Int32) (i k : Nat) : Bool := s_has (T k) (nI i)
def s_tRow (nC : Nat) (C : Nat → Nat → Int32) (nT : Nat) (T : Nat → Nat → Int32) (nS : Nat) (S : Nat → Nat → Int32) (i : Nat) : Nat → Int32 := upd (upd (upd (upd (upd (fun _ => 0) 0 (C i 0)) 1 (C i 1)) 2 (C i 2)) 3 (s_hasN C nT T nS S i nC)) 4 (nI (rg_ct (s_inP T i) nT))
def s_trI (C : Nat → Nat → Int32) (T : Nat → Nat → Int32) (k w : Nat) : Int32 := if 3 ≤ nI w then s_area C (T k) else T k w
def s_cRow (nC : Nat) (C : Nat → Nat → Int32) (nT : Nat) (T : Nat → Nat → Int32) (nS : Nat) (S : Nat → Nat → Int32) (fl : Int32) : Nat → Int32 := upd (upd (upd (upd (upd (upd (upd (fun _ => 0) 0 (nI nC)) 1 (nI nT)) 2 (s_eO nC C nT T nS S nC / 2)) 3 (s_bdO nC C nT T nS S nC / 2)) 4 (nI nS)) 5 (nI (s_uN C nT T nC))) 6 fl
