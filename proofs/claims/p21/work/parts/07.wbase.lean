/-! my own rows: methods that write, and make nothing -/
abbrev wrP (D : va_G) (tys : List (ClassId × FieldType)) (w : va_W) (sz : Nat) : State → Prop := fun U => U.heap.size = sz ∧ va_P D vwCl w U.heap ∧ va_K D vwCl tys U ∧ va_D (fun _ => True) w
abbrev wrB (D : va_G) (tys : List (ClassId × FieldType)) (A : Nat → Prop) (w2 : va_W) (t : State) : Prop := va_P D vwCl w2 t.heap ∧ va_K D vwCl tys t ∧ va_D A w2
abbrev wrQv (D : va_G) (tys : List (ClassId × FieldType)) (w2 : va_W) (A : Nat → Prop) : Array Value → State → Outcome → State → Prop := va_Qv (fun _ : Unit => True) (fun _ t => wrB D tys A w2 t) A
abbrev wrQi (D : va_G) (tys : List (ClassId × FieldType)) (v : Int32) (w2 : va_W) (A : Nat → Prop) : Array Value → State → Outcome → State → Prop := va_Qi (fun (r : Int32) (_ : Unit) => r = v) (fun _ t => wrB D tys A w2 t) A
theorem wBlind {As : List Value} {D : va_G} {w : va_W} {sz : Nat} {tys : List (ClassId × FieldType)} : FrameBlind (va_Pc As (wrP D tys w sz)) := fun a U g mk q => ⟨q.1, q.2.1, q.2.2.1, va_K.moved (u := U) (U := U.calling g mk a) (Vm.Alike.refl U.vm) q.2.2.2.1, q.2.2.2.2⟩
theorem wr_start {l : Launch} {y : MethodName} {cc : ByteArray} {maxL : Nat} {ret : Option FieldType} {ws ws' : List Cond} {rm : Room} {D : va_G} {tys : List (ClassId × FieldType)} {w : va_W} {sz : Nat} {As : List Value} {mc ms : Nat} {Q0 : (Nat → Prop) → Array Value → State → Outcome → State → Prop} (own : String) (hy : plainName y.cls = true) (hC : y.cls = own) (hw : ws = Cond.code y cc maxL ret :: ws') (hlen : (lg_sl As).length ≤ maxL)
    (body : ∀ (p : Program) (e : Env) (s : State) (m : MethodId) (below : List Frame) (meth : Method) (c : Code), (p.tables.exec = Jvm.exec ∧ c.code = cc ∧ meth.sig.returnType = ret ∧ c.maxLocals = maxL ∧ s.vm.findClass own = some m.cls ∧ (∀ w ∈ ws, w.before As.toArray s = true) ∧ meth.locks = false ∧ (y.name = "<init>" → meth.name = "<init>")) → va_P D vwCl w s.heap → va_K D vwCl tys s → ∀ A : Nat → Prop, va_D A w → (∀ q : Nat, s.heap.size ≤ q → A q) → va_S A s.heap s.heap [] → ∀ ls : Array Slot, lv_has ls maxL (lv_args 0 As) → W p l e rm s m As.toArray below meth c s.heap [] 0 0 (MQ below (Q0 A) As.toArray s mc ms A) (F0 m 0 ls [])) :
    Met l y ws rm (va_Pc As (wrP D tys w sz)) (Q0 (va_A w sz)) mc ms (va_A w sz) := by
  refine Met.ofW (cc := cc) (maxL := maxL) (ret := ret) hy hw ?_
  intro p e s m args below meth c s₁ B hml hv
  obtain ⟨rfl, hsz, hP, hK, hD0⟩ := hv
  subst hsz
  rw [lg_entry_eq]
  exact body p e s m below meth c ⟨B.exec, B.bytes, B.returns, hml, by rw [← hC]; exact findClass_of_methodNamed B.named, atoms_spec B.pre, B.notSynchronized, fun h => by rw [← h]; exact (name_of_methodNamed B.named B.method).1⟩ hP hK (va_A w s.heap.size) (hD0.self (sz := s.heap.size)) (fun q h => Or.inr h) va_S.rf _ (lv_entry As hlen)
section WR
variable {p : Program} {l : Launch} {e : Env} {R : Room} {s : State} {m : MethodId} {args : Array Value} {below : List Frame} {meth : Method} {c : Code} {H : Heap} {locs : List Loc} {cells slots : Nat} {Q : State → Prop}
variable {cc : ByteArray} {pc : Nat} {ls : Array Slot} {rest : List Value} {D : va_G} {tys : List (ClassId × FieldType)} {A : Nat → Prop}
theorem wr_vret {w2 : va_W} (hx : p.tables.exec = Jvm.exec) (hb : c.code = cc) (hr : meth.sig.returnType = none) (hlocks : meth.locks = false) (hP : va_P D vwCl w2 H) (hK : va_K D vwCl tys s) (hD : va_D A w2) (hS : va_S A s.heap H locs) (hdg : decode cc pc = .ok (.return_, 1)) : W p l e R s m args below meth c H locs cells slots (MQ below (wrQv D tys w2 A) args s cells slots A) (F0 m pc ls []) :=
  W.vret hx hb hr (fun t ht hW => ⟨⟨(), rfl, trivial, by rw [ht]; exact hP, va_K.moved hW.alike hK, hD⟩, hS.F ht⟩) hS.2.2 hdg hlocks
theorem wr_iret {v w : Int32} {w2 : va_W} (hx : p.tables.exec = Jvm.exec) (hb : c.code = cc) (hr : meth.sig.returnType = some .int) (hlocks : meth.locks = false) (he : v = w) (hP : va_P D vwCl w2 H) (hK : va_K D vwCl tys s) (hD : va_D A w2) (hS : va_S A s.heap H locs) (hdg : decode cc pc = .ok (.ireturn, 1)) : W p l e R s m args below meth c H locs cells slots (MQ below (wrQi D tys w w2 A) args s cells slots A) (F0 m pc ls [.int v]) :=
  W.iret hx hb hr (fun t ht hW => ⟨⟨v, (), rfl, he, by rw [ht]; exact hP, va_K.moved hW.alike hK, hD⟩, hS.F ht⟩) hS.2.2 hdg hlocks
theorem wr_zret {v : Int32} {B : Bool} {w2 : va_W} (hx : p.tables.exec = Jvm.exec) (hb : c.code = cc) (hr : meth.sig.returnType = some .boolean) (hlocks : meth.locks = false) (he : v = bI B) (hP : va_P D vwCl w2 H) (hK : va_K D vwCl tys s) (hD : va_D A w2) (hS : va_S A s.heap H locs) (hdg : decode cc pc = .ok (.ireturn, 1)) : W p l e R s m args below meth c H locs cells slots (MQ below (wrQi D tys (bI B) w2 A) args s cells slots A) (F0 m pc ls [.int v]) :=
  W.zret hx hb hr (by rw [he]; exact bI_narrow B) (fun t ht hW => ⟨⟨v, (), rfl, he, by rw [ht]; exact hP, va_K.moved hW.alike hK, hD⟩, hS.F ht⟩) hS.2.2 hdg hlocks
theorem lv_cvi {x y : Int32} (h : x = y) (k : W p l e R s m args below meth c H locs cells slots Q (F0 m pc ls (.int y :: rest))) : W p l e R s m args below meth c H locs cells slots Q (F0 m pc ls (.int x :: rest)) := by
  rw [h]; exact k
variable {y : MethodName} {bytes : ByteArray} {maxL nL n index mc ms : Nat} {ret : Option FieldType} {ws : List Cond} {rm : Room} {Ts : List Cond} {own C : String} {b : Addr} {As st0 : List Value} {wc ws0 wr w1 : va_W} {lv : List (Nat × Value)} {H0 : Heap}
theorem wr_cVv (F : CallFix p m c cc nL s args Ts own) (hM : Met l y ws rm (va_Pc (.ref b :: As) (wrP D tys wc H.size)) (wrQv D tys w1 (va_A wc H.size)) mc ms (va_A wc H.size)) (cw : CallW R s args own C index y bytes maxL ret ws rm mc ms n)
    (hP : va_P D vwCl ws0 H) (hK : va_K D vwCl tys s) (hD : va_D A ws0) (hS : va_S A H0 H locs) (hA : ∀ q, H0.size ≤ q → A q) (isC isR : List Nat) (hC : isC.map (fun i => ws0[i]?) = wc.map some) (hCs : isC.filterMap (fun i => ws0[i]?) = wc) (hCn : va_nd isC = true) (hR : isR.map (fun i => ws0[i]?) = wr.map some) (hRn : va_nd isR = true) (hdis : ∀ i ∈ isR, i ∉ isC)
    (hv : ∃ cell : Cell, H[b]? = some cell ∧ cell.vm.isStatics = false ∧ s.vm.findClass C = some cell.cls) (hn : As.length = n) (hsz : ls.size = nL) (hst : st0 = As.reverse ++ .ref b :: rest) (hW : 2 * (F0 m pc ls st0).monitorRoom + (rest.map fun v => v.category).sum ≤ 8) (hdg : decode cc pc = .ok (.invokevirtual index, 3)) (hf : cells + mc ≤ R.cells ∧ slots + ms ≤ R.slots)
    (kk : ∀ (H1 : Heap) (locs1 : List Loc), va_P D vwCl (wr ++ w1) H1 → va_D A (wr ++ w1) → va_S A H0 H1 locs1 → W p l e R s m args below meth c H1 locs1 (cells + mc) (slots + ms) Q (F0 m (pc + 3) ls rest)) : W p l e R s m args below meth c H locs cells slots Q (F0 m pc ls st0) := by
  have hFc := va_free (wc := wc) hD hS hA isC hC
  refine va_callv (va_runV F hM cw ⟨wBlind, hv, fun U hU hW => ⟨rfl, by rw [hU], by rw [hU]; exact hP.sub isC hCs, va_K.moved hW.alike hK, (hD.sub isC hCn hC).weaken (fun _ _ _ _ => trivial)⟩⟩ rfl hn hsz hst hW hdg hf) hS (fun q _ h => hFc q h) hFc (fun u t H1 locs1 ht hvm hw hB hz1 hk1 hS1 => ?_)
  obtain ⟨hP1, hK1, hD1⟩ := hB
  rw [ht] at hP1
  obtain ⟨hP2, hD2⟩ := va_join (wr := wr) (w1 := w1) hP hD isC isR hC hR hRn hdis hk1 hFc hP1 hD1
  exact kk H1 locs1 hP2 hD2 hS1
theorem wr_cVi {v : Int32} (F : CallFix p m c cc nL s args Ts own) (hM : Met l y ws rm (va_Pc (.ref b :: As) (wrP D tys wc H.size)) (wrQi D tys v w1 (va_A wc H.size)) mc ms (va_A wc H.size)) (cw : CallW R s args own C index y bytes maxL ret ws rm mc ms n)
    (hP : va_P D vwCl ws0 H) (hK : va_K D vwCl tys s) (hD : va_D A ws0) (hS : va_S A H0 H locs) (hA : ∀ q, H0.size ≤ q → A q) (isC isR : List Nat) (hC : isC.map (fun i => ws0[i]?) = wc.map some) (hCs : isC.filterMap (fun i => ws0[i]?) = wc) (hCn : va_nd isC = true) (hR : isR.map (fun i => ws0[i]?) = wr.map some) (hRn : va_nd isR = true) (hdis : ∀ i ∈ isR, i ∉ isC)
    (hv : ∃ cell : Cell, H[b]? = some cell ∧ cell.vm.isStatics = false ∧ s.vm.findClass C = some cell.cls) (hn : As.length = n) (hsz : ls.size = nL) (hst : st0 = As.reverse ++ .ref b :: rest) (hW : 2 * (F0 m pc ls st0).monitorRoom + (rest.map fun v => v.category).sum ≤ 8) (hdg : decode cc pc = .ok (.invokevirtual index, 3)) (hf : cells + mc ≤ R.cells ∧ slots + ms ≤ R.slots)
    (kk : ∀ (H1 : Heap) (locs1 : List Loc), va_P D vwCl (wr ++ w1) H1 → va_D A (wr ++ w1) → va_S A H0 H1 locs1 → W p l e R s m args below meth c H1 locs1 (cells + mc) (slots + ms) Q (F0 m (pc + 3) ls (.int v :: rest))) : W p l e R s m args below meth c H locs cells slots Q (F0 m pc ls st0) := by
  have hFc := va_free (wc := wc) hD hS hA isC hC
  refine va_calli (va_runV F hM cw ⟨wBlind, hv, fun U hU hW => ⟨rfl, by rw [hU], by rw [hU]; exact hP.sub isC hCs, va_K.moved hW.alike hK, (hD.sub isC hCn hC).weaken (fun _ _ _ _ => trivial)⟩⟩ rfl hn hsz hst hW hdg hf) hS (fun q _ h => hFc q h) hFc (fun r u t H1 locs1 ht hvm hw hB hz1 hk1 hS1 => ?_)
  obtain ⟨hP1, hK1, hD1⟩ := hB
  rw [ht] at hP1
  obtain ⟨hP2, hD2⟩ := va_join (wr := wr) (w1 := w1) hP hD isC isR hC hR hRn hdis hk1 hFc hP1 hD1
  subst hw
  exact kk H1 locs1 hP2 hD2 hS1
end WR
/-! the mesh's writing methods, in numbers of 32 bits -/
def m_01 (z : Int32) : Int32 := if z = 0 then 0 else 1
def m_setSt (n : Nat) (sy : Nat → Int32) (a b z : Int32) : Nat → Int32 := if m_isCairn n a = true then (if m_isCairn n b = true then upd (upd sy (a * 17 + b).toNatClampNeg (m_01 z)) (b * 17 + a).toNatClampNeg (m_01 z) else sy) else sy
def m_setL (n : Nat) (lf : Nat → Int32) (a b c x y z : Int32) : Nat → Int32 := if m_isCairn n a = true then (if m_isCairn n b = true then (if m_isCairn n c = true then upd (upd (upd lf (a * 17 + b).toNatClampNeg x) (b * 17 + c).toNatClampNeg y) (c * 17 + a).toNatClampNeg z else lf) else lf) else lf
def m_addT (n : Nat) (xs ys lf : Nat → Int32) (a b c : Int32) : Nat → Int32 := if m_turn xs ys a b (m_xOf xs c) (m_xOf ys c) ≤ 0 then m_setL n lf a c b b a c else m_setL n lf a b c c a b
def m_remT (n : Nat) (xs ys lf : Nat → Int32) (a b c : Int32) : Nat → Int32 := if m_turn xs ys a b (m_xOf xs c) (m_xOf ys c) ≤ 0 then m_setL n lf a c b (-1) (-1) (-1) else m_setL n lf a b c (-1) (-1) (-1)
def m_cutT (n : Nat) (xs ys lf : Nat → Int32) (a b f p : Int32) : Nat → Int32 := if f = (-1) then lf else m_addT n xs ys (m_addT n xs ys (m_remT n xs ys lf a b f) p f a) p f b
def m_lt1 (st : Nat × (Nat → Int32)) (a b c : Int32) : Nat × (Nat → Int32) := if c ≤ b then st else if nI st.1 < 28 then (st.1 + 1, upd (upd (upd st.2 (3 * nI st.1).toNatClampNeg a) (3 * nI st.1 + 1).toNatClampNeg b) (3 * nI st.1 + 2).toNatClampNeg c) else st
theorem m_lt1_le {st : Nat × (Nat → Int32)} {a b c : Int32} (h : st.1 ≤ 28) : (m_lt1 st a b c).1 ≤ 28 := by
  unfold m_lt1
  split
  · exact h
  · split
    · rename_i h2
      have h3 : st.1 < 28 := by
        rw [show (28 : Int32) = nI 28 from rfl, nI_ltI (by omega) (by decide)] at h2
        exact h2
      show st.1 + 1 ≤ 28
      omega
    · exact h
def m_ltS (lf : Nat → Int32) (a b : Nat) (st : Nat × (Nat → Int32)) : Nat × (Nat → Int32) := m_lt1 (m_lt1 st (nI a) (nI b) (min32 (m_leftOf lf (nI a) (nI b)) (m_leftOf lf (nI b) (nI a)))) (nI a) (nI b) (max32 (m_leftOf lf (nI a) (nI b)) (m_leftOf lf (nI b) (nI a)))
def m_ltI (lf : Nat → Int32) (a : Nat) (st : Nat × (Nat → Int32)) : Nat → Nat × (Nat → Int32)
  | 0 => st
  | b + 1 => if b ≤ a then m_ltI lf a st b else m_ltS lf a b (m_ltI lf a st b)
def m_ltO (lf : Nat → Int32) (n : Nat) (st : Nat × (Nat → Int32)) : Nat → Nat × (Nat → Int32)
  | 0 => st
  | a + 1 => m_ltI lf a (m_ltO lf n st a) n
def m_list (n : Nat) (lf co : Nat → Int32) : Nat × (Nat → Int32) := m_ltO lf n (0, co) n
theorem m_ltS_le {lf : Nat → Int32} {a b : Nat} {st : Nat × (Nat → Int32)} (h : st.1 ≤ 28) : (m_ltS lf a b st).1 ≤ 28 := m_lt1_le (m_lt1_le h)
theorem m_ltI_le {lf : Nat → Int32} {a : Nat} {st : Nat × (Nat → Int32)} (h : st.1 ≤ 28) : ∀ b, (m_ltI lf a st b).1 ≤ 28
  | 0 => h
  | b + 1 => by
    unfold m_ltI
    split
    · exact m_ltI_le h b
    · exact m_ltS_le (m_ltI_le h b)
theorem m_ltO_le {lf : Nat → Int32} {n : Nat} {st : Nat × (Nat → Int32)} (h : st.1 ≤ 28) : ∀ a, (m_ltO lf n st a).1 ≤ 28
  | 0 => h
  | a + 1 => by unfold m_ltO; exact m_ltI_le (m_ltO_le h a) n
theorem m_ltI_lo {lf : Nat → Int32} {a : Nat} {st : Nat × (Nat → Int32)} : ∀ {b : Nat}, b ≤ a + 1 → m_ltI lf a st b = st
  | 0, _ => rfl
  | b + 1, h => by
    unfold m_ltI
    rw [if_pos (by omega)]
    exact m_ltI_lo (by omega)
theorem m_ltI_hi {lf : Nat → Int32} {a b : Nat} {st : Nat × (Nat → Int32)} (h : a < b) : m_ltI lf a st (b + 1) = m_ltS lf a b (m_ltI lf a st b) := by
  show (if b ≤ a then m_ltI lf a st b else m_ltS lf a b (m_ltI lf a st b)) = _
  rw [if_neg (by omega)]
theorem m_list_le (n : Nat) (lf co : Nat → Int32) : (m_list n lf co).1 ≤ 28 := m_ltO_le (Nat.zero_le 28) n
def m_tE (n : Nat) (xs ys lf : Nat → Int32) (a b : Int32) : Nat → Int32 := m_addT n xs ys (m_addT n xs ys (m_remT n xs ys (m_remT n xs ys lf a b (m_leftOf lf a b)) a b (m_leftOf lf b a)) (m_leftOf lf a b) (m_leftOf lf b a) a) (m_leftOf lf a b) (m_leftOf lf b a) b
theorem in_three {t : Nat} {k : Int32} (hk : k = 0 ∨ k = 1 ∨ k = 2) (h : t < 28) : vp_in (3 * nI t + k) 84 := by
  rw [show (3 : Int32) = nI 3 from rfl, pk_mul]
  rcases hk with rfl | rfl | rfl
  · rw [show (0 : Int32) = nI 0 from rfl, nI_add]; exact vp_in_nI (by omega) (by decide)
  · rw [show (1 : Int32) = nI 1 from rfl, nI_add]; exact vp_in_nI (by omega) (by decide)
  · rw [show (2 : Int32) = nI 2 from rfl, nI_add]; exact vp_in_nI (by omega) (by decide)
theorem in_three0 {t : Nat} (h : t < 28) : vp_in (3 * nI t) 84 := by
  rw [show (3 : Int32) = nI 3 from rfl, pk_mul]
  exact vp_in_nI (by omega) (by decide)
