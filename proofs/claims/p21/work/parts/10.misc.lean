/-! rows of my own for whole that serve here too -/
theorem va_P0 {D : va_G} {cl : List vw_C} {H : Heap} : va_P D cl [] H := fun k q h => by simp at h
theorem in_lt {x : Int32} {N : Nat} (h : vp_in x N) : x.toNatClampNeg < N := Nat.not_le.mp fun q => h (Or.inr q)
theorem in_le {x : Int32} {N M : Nat} (h : vp_in x N) (hM : N ≤ M) : vp_in x M := fun q => q.elim (fun z => h (Or.inl z)) (fun z => h (Or.inr (Nat.le_trans hM z)))
theorem va_P.left {D : va_G} {cl : List vw_C} {w ex : va_W} {H : Heap} (h : va_P D cl (w ++ ex) H) : va_P D cl w H := fun k q hk => h k q (by rw [List.getElem?_append_left (List.getElem?_eq_some_iff.mp hk).1]; exact hk)
theorem va_D.left {A : Nat → Prop} {w ex : va_W} (h : va_D A (w ++ ex)) : va_D A w := by
  have e : ∀ (k : Nat) (q : Nat × va_E), w[k]? = some q → (w ++ ex)[k]? = some q := fun k q hk => by rw [List.getElem?_append_left (List.getElem?_eq_some_iff.mp hk).1]; exact hk
  exact ⟨fun i j p q hi hj hpq => h.1 i j p q (e i p hi) (e j q hj) hpq, fun k q hk => h.2 k q (e k q hk)⟩
theorem va_ex {w ex : va_W} {k : Nat} {q : Nat × va_E} (hk : ex[k]? = some q) : (w ++ ex)[w.length + k]? = some q := by
  rw [List.getElem?_append_right (Nat.le_add_right _ _), Nat.add_sub_cancel_left]; exact hk
theorem va_joinE {A0 : Nat → Prop} {D : va_G} {cl : List vw_C} {ws ex w1 : va_W} {H H1 : Heap} (hP : va_P D cl (ws ++ ex) H) (hD : va_D A0 (ws ++ ex)) (hk : ∀ q : Nat, q < H.size → ¬ va_A ws H.size q → H1[q]? = H[q]?) (hF : ∀ q, va_A ws H.size q → A0 q) (hP1 : va_P D cl w1 H1) (hD1 : va_D (va_A ws H.size) w1) : va_P D cl (w1 ++ ex) H1 ∧ va_D A0 (w1 ++ ex) := by
  have apart : ∀ (k : Nat) (q : Nat × va_E), ex[k]? = some q → q.1 < H.size ∧ ¬ va_A ws H.size q.1 := by
    intro k q hq
    have h2 := va_ex (w := ws) hq
    have hl := (hP _ q h2).lt
    refine ⟨hl, fun h => ?_⟩
    rcases h with ⟨k2, e, h⟩ | h
    · have h4 : (ws ++ ex)[k2]? = some (q.1, e) := by rw [List.getElem?_append_left (List.getElem?_eq_some_iff.mp h).1]; exact h
      have hij := hD.1 _ _ _ _ h4 h2 rfl
      have := (List.getElem?_eq_some_iff.mp h).1
      omega
    · omega
  refine ⟨hP1.app (fun k q hq => ?_), (hD1.weaken (fun k q _ h => hF q.1 h)).app ⟨fun i j p q hi hj hpq => ?_, fun k q hq => hD.2 _ q (va_ex hq)⟩ (fun i j x y hx hy hxy => ?_)⟩
  · obtain ⟨g1, g2⟩ := apart k q hq
    exact (hP _ q (va_ex hq)).kept (hk q.1 g1 g2)
  · have := hD.1 _ _ p q (va_ex hi) (va_ex hj) hpq
    omega
  · exact (apart j y hy).2 (by rw [← hxy]; exact hD1.2 i x hx)
section WX
variable {p : Program} {l : Launch} {e : Env} {R : Room} {s : State} {m : MethodId} {args : Array Value} {below : List Frame} {meth : Method} {c : Code} {H : Heap} {locs : List Loc} {cells slots : Nat} {Q : State → Prop}
variable {cc : ByteArray} {pc : Nat} {ls : Array Slot} {rest : List Value} {D : va_G} {tys : List (ClassId × FieldType)} {A : Nat → Prop}
variable {y : MethodName} {bytes : ByteArray} {maxL nL n index mc ms : Nat} {ret : Option FieldType} {ws : List Cond} {rm : Room} {Ts : List Cond} {own C : String} {b : Addr} {As st0 : List Value} {ws0 ex w1 : va_W} {H0 : Heap}
theorem wx_free {cl : List vw_C} (hD : va_D A ws0) (hS : va_S A H0 H locs) (hA : ∀ q, H0.size ≤ q → A q) : ∀ q, va_A ws0 H.size q → A q := by
  intro q h
  rcases h with ⟨k, e, h⟩ | h
  · exact hD.2 k (q, e) h
  · exact hA q (Nat.le_trans hS.1 h)
theorem wx_cVv (F : CallFix p m c cc nL s args Ts own) (hM : Met l y ws rm (va_Pc (.ref b :: As) (wrP D tys ws0 H.size)) (wrQv D tys w1 (va_A ws0 H.size)) mc ms (va_A ws0 H.size)) (cw : CallW R s args own C index y bytes maxL ret ws rm mc ms n)
    (hP : va_P D vwCl ws0 H) (hK : va_K D vwCl tys s) (hD : va_D A ws0) (hS : va_S A H0 H locs) (hA : ∀ q, H0.size ≤ q → A q)
    (hv : ∃ cell : Cell, H[b]? = some cell ∧ cell.vm.isStatics = false ∧ s.vm.findClass C = some cell.cls) (hn : As.length = n) (hsz : ls.size = nL) (hst : st0 = As.reverse ++ .ref b :: rest) (hW : 2 * (F0 m pc ls st0).monitorRoom + (rest.map fun v => v.category).sum ≤ 8) (hdg : decode cc pc = .ok (.invokevirtual index, 3)) (hf : cells + mc ≤ R.cells ∧ slots + ms ≤ R.slots)
    (kk : ∀ (H1 : Heap) (locs1 : List Loc), va_P D vwCl w1 H1 → va_D A w1 → va_S A H0 H1 locs1 → W p l e R s m args below meth c H1 locs1 (cells + mc) (slots + ms) Q (F0 m (pc + 3) ls rest)) : W p l e R s m args below meth c H locs cells slots Q (F0 m pc ls st0) := by
  have hFc := wx_free (cl := vwCl) hD hS hA
  refine va_callv (va_runV F hM cw ⟨wBlind, hv, fun U hU hW => ⟨rfl, by rw [hU], by rw [hU]; exact hP, va_K.moved hW.alike hK, hD.weaken (fun _ _ _ _ => trivial)⟩⟩ rfl hn hsz hst hW hdg hf) hS (fun q _ h => hFc q h) hFc (fun u t H1 locs1 ht hvm hw hB hz1 hk1 hS1 => ?_)
  obtain ⟨hP1, hK1, hD1⟩ := hB
  rw [ht] at hP1
  exact kk H1 locs1 hP1 (hD1.weaken (fun k q _ h => hFc q.1 h)) hS1
theorem wx_cVi {v : Int32} (F : CallFix p m c cc nL s args Ts own) (hM : Met l y ws rm (va_Pc (.ref b :: As) (wrP D tys ws0 H.size)) (wrQi D tys v w1 (va_A ws0 H.size)) mc ms (va_A ws0 H.size)) (cw : CallW R s args own C index y bytes maxL ret ws rm mc ms n)
    (hP : va_P D vwCl ws0 H) (hK : va_K D vwCl tys s) (hD : va_D A ws0) (hS : va_S A H0 H locs) (hA : ∀ q, H0.size ≤ q → A q)
    (hv : ∃ cell : Cell, H[b]? = some cell ∧ cell.vm.isStatics = false ∧ s.vm.findClass C = some cell.cls) (hn : As.length = n) (hsz : ls.size = nL) (hst : st0 = As.reverse ++ .ref b :: rest) (hW : 2 * (F0 m pc ls st0).monitorRoom + (rest.map fun v => v.category).sum ≤ 8) (hdg : decode cc pc = .ok (.invokevirtual index, 3)) (hf : cells + mc ≤ R.cells ∧ slots + ms ≤ R.slots)
    (kk : ∀ (H1 : Heap) (locs1 : List Loc), va_P D vwCl w1 H1 → va_D A w1 → va_S A H0 H1 locs1 → W p l e R s m args below meth c H1 locs1 (cells + mc) (slots + ms) Q (F0 m (pc + 3) ls (.int v :: rest))) : W p l e R s m args below meth c H locs cells slots Q (F0 m pc ls st0) := by
  have hFc := wx_free (cl := vwCl) hD hS hA
  refine va_calli (va_runV F hM cw ⟨wBlind, hv, fun U hU hW => ⟨rfl, by rw [hU], by rw [hU]; exact hP, va_K.moved hW.alike hK, hD.weaken (fun _ _ _ _ => trivial)⟩⟩ rfl hn hsz hst hW hdg hf) hS (fun q _ h => hFc q h) hFc (fun r u t H1 locs1 ht hvm hw hB hz1 hk1 hS1 => ?_)
  obtain ⟨hP1, hK1, hD1⟩ := hB
  rw [ht] at hP1
  subst hw
  exact kk H1 locs1 hP1 (hD1.weaken (fun k q _ h => hFc q.1 h)) hS1
/-- the same, with cells beside the callee's world -/
theorem wx_cVvE (F : CallFix p m c cc nL s args Ts own) (hM : Met l y ws rm (va_Pc (.ref b :: As) (wrP D tys ws0 H.size)) (wrQv D tys w1 (va_A ws0 H.size)) mc ms (va_A ws0 H.size)) (cw : CallW R s args own C index y bytes maxL ret ws rm mc ms n)
    (hP : va_P D vwCl (ws0 ++ ex) H) (hK : va_K D vwCl tys s) (hD : va_D A (ws0 ++ ex)) (hS : va_S A H0 H locs) (hA : ∀ q, H0.size ≤ q → A q)
    (hv : ∃ cell : Cell, H[b]? = some cell ∧ cell.vm.isStatics = false ∧ s.vm.findClass C = some cell.cls) (hn : As.length = n) (hsz : ls.size = nL) (hst : st0 = As.reverse ++ .ref b :: rest) (hW : 2 * (F0 m pc ls st0).monitorRoom + (rest.map fun v => v.category).sum ≤ 8) (hdg : decode cc pc = .ok (.invokevirtual index, 3)) (hf : cells + mc ≤ R.cells ∧ slots + ms ≤ R.slots)
    (kk : ∀ (H1 : Heap) (locs1 : List Loc), va_P D vwCl (w1 ++ ex) H1 → va_D A (w1 ++ ex) → va_S A H0 H1 locs1 → W p l e R s m args below meth c H1 locs1 (cells + mc) (slots + ms) Q (F0 m (pc + 3) ls rest)) : W p l e R s m args below meth c H locs cells slots Q (F0 m pc ls st0) := by
  have hFc := wx_free (cl := vwCl) hD.left hS hA
  refine va_callv (va_runV F hM cw ⟨wBlind, hv, fun U hU hW => ⟨rfl, by rw [hU], by rw [hU]; exact hP.left, va_K.moved hW.alike hK, hD.left.weaken (fun _ _ _ _ => trivial)⟩⟩ rfl hn hsz hst hW hdg hf) hS (fun q _ h => hFc q h) hFc (fun u t H1 locs1 ht hvm hw hB hz1 hk1 hS1 => ?_)
  obtain ⟨hP1, hK1, hD1⟩ := hB
  rw [ht] at hP1
  obtain ⟨hP2, hD2⟩ := va_joinE hP hD hk1 hFc hP1 hD1
  exact kk H1 locs1 hP2 hD2 hS1
theorem wx_cVk {arg : List Value} {v : Int32} (F : CallFix p m c cc nL s args Ts own) (hM : Met l y ws rm (va_Pc (.ref b :: As) (fun U => va_P D vwCl ws0 U.heap ∧ va_K D vwCl tys U)) (vp_Si (fun r => r = v)) 0 0 (fun _ => False)) (cw : CallW R s args own C index y bytes maxL ret ws rm 0 0 n) (hP : va_P D vwCl (ws0 ++ ex) H) (hK : va_K D vwCl tys s)
    (hv : ∃ cell : Cell, H[b]? = some cell ∧ cell.vm.isStatics = false ∧ s.vm.findClass C = some cell.cls) (hn : As.length = n) (hsz : ls.size = nL) (hst : st0 = As.reverse ++ .ref b :: rest) (hW : 2 * (F0 m pc ls st0).monitorRoom + (rest.map fun v => v.category).sum ≤ 8) (hdg : decode cc pc = .ok (.invokevirtual index, 3)) (hf : cells + 0 ≤ R.cells ∧ slots + 0 ≤ R.slots)
    (kk : W p l e R s m args below meth c H locs cells slots Q (F0 m (pc + 3) ls (.int v :: rest))) : W p l e R s m args below meth c H locs cells slots Q (F0 m pc ls st0) :=
  rd_cVi F hM cw hP.left hK hv hn hsz hst hW hdg hf kk
end WX
section NW
variable {p : Program} {l : Launch} {e : Env} {R : Room} {s : State} {m : MethodId} {args : Array Value} {below : List Frame} {meth : Method} {c : Code} {H : Heap} {locs : List Loc} {cells slots : Nat} {Q : State → Prop}
variable {cc : ByteArray} {pc : Nat} {ls : Array Slot} {rest : List Value} {D : va_G} {cl : List vw_C} {A : Nat → Prop} {a : Nat} {tys : List (ClassId × FieldType)} {ws : va_W} {H0 : Heap}
/-- new int[n], of the class of int arrays that is known -/
theorem rg_newi (hexec : p.tables.exec = Jvm.exec) (hb : c.code = cc) (harr : (Cond.arrayClass .int).before args s = true) {cA : ClassId} (hK : va_K D cl tys s) (t0 : Nat) (ht : tys[t0]? = some (cA, .int)) (hP : va_P D cl ws H) (hD : va_D A ws) (hS : va_S A H0 H locs) (hA : ∀ q, H0.size ≤ q → A q)
    {n : Int32} {N' : Nat} (hn : ¬ n < 0) (hN : n.toNatClampNeg = N') (hbytes : N' * 4 ≤ 536870912) (hcells : cells + 1 ≤ R.cells) (hslots : slots + N' ≤ R.slots) (hdg : decode cc pc = .ok (.newarray .int, 2))
    (kk : ∀ (q : Nat) (H1 : Heap), va_P D cl (ws ++ [(q, .inl (cA, N', .inl (fun _ => 0)))]) H1 → va_D A (ws ++ [(q, .inl (cA, N', .inl (fun _ => 0)))]) → va_S A H0 H1 locs → W p l e R s m args below meth c H1 locs (cells + 1) (slots + N') Q (F0 m (pc + 2) ls (.ref q :: rest))) : W p l e R s m args below meth c H locs cells slots Q (F0 m pc ls (.int n :: rest)) := by
  refine va_newa (atype := .int) (ty := .int) (a0 := (N', .inl (fun _ => 0))) hexec hb harr rfl hK hP hD hS hA (fun _ => rfl) hn hN hbytes hcells hslots hdg (fun q cB H1 hK1 hP1 hD1 hS1 => ?_)
  have e1 : s.vm.findClass ("[" ++ (FieldType.int).toString) = some cA := (hK.2 t0 _ ht).2
  have e2 : s.vm.findClass ("[" ++ (FieldType.int).toString) = some cB := (hK1.2 tys.length (cB, .int) (by rw [List.getElem?_append_right (Nat.le_refl _), Nat.sub_self]; rfl)).2
  have e3 : cB = cA := Option.some.inj (e2.symm.trans e1)
  subst e3
  exact kk q H1 hP1 hD1 hS1
end NW
theorem nI_mod3 {k : Nat} (h : k < 100) : (nI k + 1) - (nI k + 1) / 3 * 3 = nI ((k + 1) % 3) := by
  rw [nI_1, show (3 : Int32) = nI 3 from rfl]
  exact pk_rem (by omega) (by decide) (by decide)
theorem nI_nlt_le {a b : Nat} (ha : a < 2 ^ 31) (hb : b < 2 ^ 31) (h : ¬ nI b < nI a) : a ≤ b := by
  rw [nI_ltI hb ha] at h; omega
theorem nI_lt_lt {a b : Nat} (ha : a < 2 ^ 31) (hb : b < 2 ^ 31) (h : nI b < nI a) : b < a := (nI_ltI hb ha).mp h
theorem rg_ct_mono {p : Nat → Bool} {a : Nat} : ∀ {b : Nat}, a ≤ b → rg_ct p a ≤ rg_ct p b
  | 0, h => by rw [Nat.le_zero.mp h]; exact Nat.le_refl _
  | b + 1, h => by
    rcases Nat.lt_or_ge a (b + 1) with q | q
    · have h1 := rg_ct_mono (p := p) (a := a) (b := b) (by omega)
      show _ ≤ rg_ct p b + _
      omega
    · have e : a = b + 1 := by omega
      rw [e]; exact Nat.le_refl _
theorem rg_ct_lt {p : Nat → Bool} {i t : Nat} (hi : i < t) (h : p i = true) : rg_ct p i < rg_ct p t := by
  have h1 := rg_ct_mono (p := p) (a := i + 1) (b := t) hi
  rw [rg_ct_t h] at h1
  omega

/-- a checksum goes on over k numbers -/
def dgF (f : Nat → Int32) (d : Int64) : Nat → Int64
  | 0 => d
  | k + 1 => dgF f d k * 31 + (f k).toInt64
/-- over rows of numbers -/
def dgO (f : Nat → Nat → Int32) (w : Nat) (d : Int64) : Nat → Int64
  | 0 => d
  | k + 1 => dgF (f k) (dgO f w d k) w
/-- over the edges of i -/
def dgI (has : Nat → Nat → Bool) (f : Nat → Nat → Nat → Int32) (i : Nat) (d : Int64) : Nat → Int64
  | 0 => d
  | j + 1 => if j ≤ i then dgI has f i d j else if has i j = true then dgF (f i j) ((dgI has f i d j * 31 + (nI i).toInt64) * 31 + (nI j).toInt64) 3 else dgI has f i d j
def dgE (has : Nat → Nat → Bool) (f : Nat → Nat → Nat → Int32) (n : Nat) (d : Int64) : Nat → Int64
  | 0 => d
  | i + 1 => dgI has f i (dgE has f n d i) n
theorem dv_all : (List.range 290).all (fun a => (List.range 17).all (fun b => (FP.ddiv (FP.i2d (2 * nI a)) (FP.i2d (nI (b + 1))) &&& 0x7fffffffffffffff) ≤ 0x7ff0000000000000)) = true := by decide +kernel
theorem dv_n64 {a n : Nat} (ha : a ≤ 289) (h1 : 1 ≤ n) (hn : n ≤ 17) : vf_n64 (FP.ddiv (FP.i2d (2 * nI a)) (FP.i2d (nI n))) := by
  have h := List.all_eq_true.mp (List.all_eq_true.mp dv_all a (List.mem_range.mpr (by omega))) (n - 1) (List.mem_range.mpr (by omega))
  rw [show n - 1 + 1 = n by omega] at h
  unfold vf_n64
  exact of_decide_eq_true h
theorem rg_sum_le {f : Nat → Nat} {c : Nat} (h : ∀ k, f k ≤ c) : ∀ k, rg_sum f k ≤ k * c
  | 0 => Nat.zero_le _
  | k + 1 => by
    have h1 := rg_sum_le h k
    have h2 := h k
    show rg_sum f k + f k ≤ (k + 1) * c
    rw [Nat.succ_mul]
    omega
theorem rg_sum17 {f : Nat → Nat} {n : Nat} (hn : n ≤ 17) (h : ∀ k, f k ≤ n) : rg_sum f n ≤ 289 := by
  have h1 := rg_sum_le h n
  have h2 : n * n ≤ 17 * 17 := Nat.mul_le_mul hn hn
  omega
