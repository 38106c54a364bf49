/-! calls that see some cells of the world: the world comes back in its order -/
theorem va_D.cg {A : Nat → Prop} {ws : va_W} {k : Nat} {a : Nat} {e e' : va_E} (hD : va_D A ws) (hk : ws[k]? = some (a, e)) : va_D A (ws.set k (a, e')) := by
  have hs : ∀ (i : Nat) (q : Nat × va_E), (ws.set k (a, e'))[i]? = some q → ∃ q2, ws[i]? = some q2 ∧ q2.1 = q.1 := by
    intro i q hq
    by_cases h : i = k
    · subst h
      rw [List.getElem?_set_self (List.getElem?_eq_some_iff.mp hk).1] at hq
      cases hq
      exact ⟨_, hk, rfl⟩
    · rw [List.getElem?_set_ne (Ne.symm h)] at hq
      exact ⟨q, hq, rfl⟩
  refine ⟨fun i j p q hi hj hpq => ?_, fun i q hi => ?_⟩
  · obtain ⟨p2, h1, h2⟩ := hs i p hi
    obtain ⟨q2, h3, h4⟩ := hs j q hj
    exact hD.1 i j p2 q2 h1 h3 (by rw [h2, h4]; exact hpq)
  · obtain ⟨q2, h1, h2⟩ := hs i q hi
    have := hD.2 i q2 h1
    rw [h2] at this
    exact this
theorem arr_cg {cA : ClassId} {N : Nat} {f g : Nat → Int32} (h : ∀ k, k < N → f k = g k) : vp_cell cA (N, .inl f) = vp_cell cA (N, .inl g) := by
  rw [vp_cell_i, vp_cell_i]
  have e : (Array.ofFn (n := N) fun j => Value.int (f j.val)) = Array.ofFn (n := N) fun j => Value.int (g j.val) := by
    congr 1
    funext j
    rw [h j.val j.isLt]
  show ({ cls := cA, slots := Array.ofFn (n := N) fun j => Value.int (f j.val), vm := .none } : Cell) = { cls := cA, slots := Array.ofFn (n := N) fun j => Value.int (g j.val), vm := .none }
  rw [e]
theorem va_P.cg {D : va_G} {cl : List vw_C} {ws : va_W} {H : Heap} {k a N : Nat} {cA : ClassId} {f g : Nat → Int32} (hP : va_P D cl ws H) (hk : ws[k]? = some (a, .inl (cA, N, .inl f))) (h : ∀ j, j < N → f j = g j) : va_P D cl (ws.set k (a, .inl (cA, N, .inl g))) H := by
  intro i q hq
  by_cases e : i = k
  · subst e
    rw [List.getElem?_set_self (List.getElem?_eq_some_iff.mp hk).1] at hq
    cases hq
    have h1 := hP i _ hk
    show H[a]? = some (vp_cell cA (N, .inl g))
    rw [← arr_cg h]
    exact h1
  · rw [List.getElem?_set_ne (Ne.symm e)] at hq
    exact hP i q hq
section CB
variable {p : Program} {l : Launch} {e : Env} {R : Room} {s : State} {m : MethodId} {args : Array Value} {below : List Frame} {meth : Method} {c : Code} {H : Heap} {locs : List Loc} {cells slots : Nat} {Q : State → Prop}
variable {cc : ByteArray} {pc : Nat} {ls : Array Slot} {rest : List Value} {D : va_G} {tys : List (ClassId × FieldType)} {A : Nat → Prop}
variable {y : MethodName} {bytes : ByteArray} {maxL nL n index mc ms : Nat} {ret : Option FieldType} {ws : List Cond} {rm : Room} {Ts : List Cond} {own C : String} {b : Addr} {As st0 : List Value} {wc ws0 w1 w2 : va_W} {H0 : Heap}
theorem wp_cSv (F : CallFix p m c cc nL s args Ts own) (hM : Met l y ws rm (va_Pc As (wrP D tys wc H.size)) (wrQv D tys w1 (va_A wc H.size)) mc ms (va_A wc H.size)) (cw : CallB R s args own index y bytes maxL ret ws rm mc ms n ∧ (Cond.static y).before args s = true)
    (hP : va_P D vwCl ws0 H) (hK : va_K D vwCl tys s) (hD : va_D A ws0) (hS : va_S A H0 H locs) (hA : ∀ q, H0.size ≤ q → A q) (isC isR perm : List Nat) (hC : isC.map (fun i => ws0[i]?) = wc.map some) (hCs : isC.filterMap (fun i => ws0[i]?) = wc) (hCn : va_nd isC = true) (hR : isR.map (fun i => ws0[i]?) = (isR.filterMap (fun i => ws0[i]?)).map some) (hRn : va_nd isR = true) (hdis : ∀ i ∈ isR, i ∉ isC)
    (hpf : perm.filterMap (fun i => (isR.filterMap (fun i => ws0[i]?) ++ w1)[i]?) = w2) (hpm : perm.map (fun i => (isR.filterMap (fun i => ws0[i]?) ++ w1)[i]?) = w2.map some) (hpn : va_nd perm = true)
    (hn : As.length = n) (hsz : ls.size = nL) (hst : st0 = As.reverse ++ rest) (hW : 2 * (F0 m pc ls st0).monitorRoom + (rest.map fun v => v.category).sum ≤ 8) (hdg : decode cc pc = .ok (.invokestatic index, 3)) (hf : cells + mc ≤ R.cells ∧ slots + ms ≤ R.slots)
    (kk : ∀ (H1 : Heap) (locs1 : List Loc), va_P D vwCl w2 H1 → va_D A w2 → va_S A H0 H1 locs1 → W p l e R s m args below meth c H1 locs1 (cells + mc) (slots + ms) Q (F0 m (pc + 3) ls rest)) : W p l e R s m args below meth c H locs cells slots Q (F0 m pc ls st0) := by
  have hFc := va_free (wc := wc) hD hS hA isC hC
  refine va_callv (va_runS F hM cw ⟨wBlind, fun U hU hW => ⟨rfl, by rw [hU], by rw [hU]; exact hP.sub isC hCs, va_K.moved hW.alike hK, (hD.sub isC hCn hC).weaken (fun _ _ _ _ => trivial)⟩⟩ rfl hn hsz hst hW hdg hf) hS (fun q _ h => hFc q h) hFc (fun u t H1 locs1 ht hvm hw hB hz1 hk1 hS1 => ?_)
  obtain ⟨hP1, hK1, hD1⟩ := hB
  rw [ht] at hP1
  obtain ⟨hP2, hD2⟩ := va_join (wr := isR.filterMap (fun i => ws0[i]?)) (w1 := w1) hP hD isC isR hC hR hRn hdis hk1 hFc hP1 hD1
  exact kk H1 locs1 (hP2.sub perm hpf) (hD2.sub perm hpn hpm) hS1
theorem wp_cVv (F : CallFix p m c cc nL s args Ts own) (hM : Met l y ws rm (va_Pc (.ref b :: As) (wrP D tys wc H.size)) (wrQv D tys w1 (va_A wc H.size)) mc ms (va_A wc H.size)) (cw : CallW R s args own C index y bytes maxL ret ws rm mc ms n)
    (hP : va_P D vwCl ws0 H) (hK : va_K D vwCl tys s) (hD : va_D A ws0) (hS : va_S A H0 H locs) (hA : ∀ q, H0.size ≤ q → A q) (isC isR perm : List Nat) (hC : isC.map (fun i => ws0[i]?) = wc.map some) (hCs : isC.filterMap (fun i => ws0[i]?) = wc) (hCn : va_nd isC = true) (hR : isR.map (fun i => ws0[i]?) = (isR.filterMap (fun i => ws0[i]?)).map some) (hRn : va_nd isR = true) (hdis : ∀ i ∈ isR, i ∉ isC)
    (hpf : perm.filterMap (fun i => (isR.filterMap (fun i => ws0[i]?) ++ w1)[i]?) = w2) (hpm : perm.map (fun i => (isR.filterMap (fun i => ws0[i]?) ++ w1)[i]?) = w2.map some) (hpn : va_nd perm = true)
    (hv : ∃ cell : Cell, H[b]? = some cell ∧ cell.vm.isStatics = false ∧ s.vm.findClass C = some cell.cls) (hn : As.length = n) (hsz : ls.size = nL) (hst : st0 = As.reverse ++ .ref b :: rest) (hW : 2 * (F0 m pc ls st0).monitorRoom + (rest.map fun v => v.category).sum ≤ 8) (hdg : decode cc pc = .ok (.invokevirtual index, 3)) (hf : cells + mc ≤ R.cells ∧ slots + ms ≤ R.slots)
    (kk : ∀ (H1 : Heap) (locs1 : List Loc), va_P D vwCl w2 H1 → va_D A w2 → va_S A H0 H1 locs1 → W p l e R s m args below meth c H1 locs1 (cells + mc) (slots + ms) Q (F0 m (pc + 3) ls rest)) : W p l e R s m args below meth c H locs cells slots Q (F0 m pc ls st0) := by
  have hFc := va_free (wc := wc) hD hS hA isC hC
  refine va_callv (va_runV F hM cw ⟨wBlind, hv, fun U hU hW => ⟨rfl, by rw [hU], by rw [hU]; exact hP.sub isC hCs, va_K.moved hW.alike hK, (hD.sub isC hCn hC).weaken (fun _ _ _ _ => trivial)⟩⟩ rfl hn hsz hst hW hdg hf) hS (fun q _ h => hFc q h) hFc (fun u t H1 locs1 ht hvm hw hB hz1 hk1 hS1 => ?_)
  obtain ⟨hP1, hK1, hD1⟩ := hB
  rw [ht] at hP1
  obtain ⟨hP2, hD2⟩ := va_join (wr := isR.filterMap (fun i => ws0[i]?)) (w1 := w1) hP hD isC isR hC hR hRn hdis hk1 hFc hP1 hD1
  exact kk H1 locs1 (hP2.sub perm hpf) (hD2.sub perm hpn hpm) hS1
theorem wp_cVi {v : Int32} (F : CallFix p m c cc nL s args Ts own) (hM : Met l y ws rm (va_Pc (.ref b :: As) (wrP D tys wc H.size)) (wrQi D tys v w1 (va_A wc H.size)) mc ms (va_A wc H.size)) (cw : CallW R s args own C index y bytes maxL ret ws rm mc ms n)
    (hP : va_P D vwCl ws0 H) (hK : va_K D vwCl tys s) (hD : va_D A ws0) (hS : va_S A H0 H locs) (hA : ∀ q, H0.size ≤ q → A q) (isC isR perm : List Nat) (hC : isC.map (fun i => ws0[i]?) = wc.map some) (hCs : isC.filterMap (fun i => ws0[i]?) = wc) (hCn : va_nd isC = true) (hR : isR.map (fun i => ws0[i]?) = (isR.filterMap (fun i => ws0[i]?)).map some) (hRn : va_nd isR = true) (hdis : ∀ i ∈ isR, i ∉ isC)
    (hpf : perm.filterMap (fun i => (isR.filterMap (fun i => ws0[i]?) ++ w1)[i]?) = w2) (hpm : perm.map (fun i => (isR.filterMap (fun i => ws0[i]?) ++ w1)[i]?) = w2.map some) (hpn : va_nd perm = true)
    (hv : ∃ cell : Cell, H[b]? = some cell ∧ cell.vm.isStatics = false ∧ s.vm.findClass C = some cell.cls) (hn : As.length = n) (hsz : ls.size = nL) (hst : st0 = As.reverse ++ .ref b :: rest) (hW : 2 * (F0 m pc ls st0).monitorRoom + (rest.map fun v => v.category).sum ≤ 8) (hdg : decode cc pc = .ok (.invokevirtual index, 3)) (hf : cells + mc ≤ R.cells ∧ slots + ms ≤ R.slots)
    (kk : ∀ (H1 : Heap) (locs1 : List Loc), va_P D vwCl w2 H1 → va_D A w2 → va_S A H0 H1 locs1 → W p l e R s m args below meth c H1 locs1 (cells + mc) (slots + ms) Q (F0 m (pc + 3) ls (.int v :: rest))) : W p l e R s m args below meth c H locs cells slots Q (F0 m pc ls st0) := by
  have hFc := va_free (wc := wc) hD hS hA isC hC
  refine va_calli (va_runV F hM cw ⟨wBlind, hv, fun U hU hW => ⟨rfl, by rw [hU], by rw [hU]; exact hP.sub isC hCs, va_K.moved hW.alike hK, (hD.sub isC hCn hC).weaken (fun _ _ _ _ => trivial)⟩⟩ rfl hn hsz hst hW hdg hf) hS (fun q _ h => hFc q h) hFc (fun r u t H1 locs1 ht hvm hw hB hz1 hk1 hS1 => ?_)
  obtain ⟨hP1, hK1, hD1⟩ := hB
  rw [ht] at hP1
  obtain ⟨hP2, hD2⟩ := va_join (wr := isR.filterMap (fun i => ws0[i]?)) (w1 := w1) hP hD isC isR hC hR hRn hdis hk1 hFc hP1 hD1
  subst hw
  exact kk H1 locs1 (hP2.sub perm hpf) (hD2.sub perm hpn hpm) hS1
end CB
def cp_row (f g : Nat → Int32) (i : Nat) : Nat → Int32 := fun k => if k < i then f k else g k
theorem cp_row_0 (f g : Nat → Int32) : cp_row f g 0 = g := by funext k; simp [cp_row]
theorem cp_row_s (f g : Nat → Int32) (i : Nat) : cp_row f g (i + 1) = upd (cp_row f g i) i (f i) := by
  funext k
  unfold cp_row upd
  by_cases h : k = i
  · subst h; simp
  · rw [if_neg h]
    show (if k < i + 1 then f k else g k) = (if k < i then f k else g k)
    by_cases q : k < i
    · rw [if_pos q, if_pos (by omega)]
    · rw [if_neg q, if_neg (by omega)]
theorem cp_row_n {f g : Nat → Int32} {N : Nat} : ∀ k, k < N → cp_row f g N k = f k := fun k h => if_pos h
abbrev wMM (cI : ClassId) (h qx qy ql qs qc n t : Nat) (xs ys lf sy co : Nat → Int32) (h2 qx2 qy2 ql2 qs2 qc2 n2 t2 : Nat) (xs2 ys2 lf2 sy2 co2 : Nat → Int32) : va_W := wM cI h qx qy ql qs qc n t xs ys lf sy co ++ wM cI h2 qx2 qy2 ql2 qs2 qc2 n2 t2 xs2 ys2 lf2 sy2 co2
