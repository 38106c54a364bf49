/-! the reference's writing methods: the grid, and calls on the whole world -/
def r_up (sg : Nat → Nat → Int32) (i : Nat) (f : Nat → Int32) : Nat → Nat → Int32 := fun k => if k = i then f else sg k
theorem wR_set {cI cZ cY : ClassId} {h qx qy qh qt qs : Nat} {rw : Nat → Nat} {th : Int32} {n : Nat} {xs ys hs : Nat → Int32} {t : Nat} {tb : Nat → Int32} {sg : Nat → Nat → Int32} {fl : Int32} {i : Nat} {f : Nat → Int32} (hi : i < 17) : (wR cI cZ cY h qx qy qh qt qs rw th n xs ys hs t tb sg fl).set (6 + i) (rw i, .inl (cZ, 17, .inl f)) = wR cI cZ cY h qx qy qh qt qs rw th n xs ys hs t tb (r_up sg i f) fl := by
  show (wRo cI cY h qx qy qh qt qs rw th n xs ys hs t tb fl ++ wRr cZ rw sg).set (6 + i) _ = wRo cI cY h qx qy qh qt qs rw th n xs ys hs t tb fl ++ wRr cZ rw (r_up sg i f)
  rw [List.set_append_right _ _ (show (wRo cI cY h qx qy qh qt qs rw th n xs ys hs t tb fl).length ≤ 6 + i from Nat.le_add_right 6 i), show 6 + i - (wRo cI cY h qx qy qh qt qs rw th n xs ys hs t tb fl).length = i from Nat.add_sub_cancel_left 6 i]
  congr 1
  apply List.ext_getElem
  · simp
  · intro k h1 h2
    rw [List.getElem_set, List.getElem_map, List.getElem_map, List.getElem_range]
    by_cases e : i = k
    · subst e
      rw [if_pos rfl]
      show _ = (rw i, Sum.inl (cZ, 17, Sum.inl (if i = i then f else sg i)))
      rw [if_pos rfl]
    · rw [if_neg e]
      show _ = (rw k, Sum.inl (cZ, 17, Sum.inl (if k = i then f else sg k)))
      rw [if_neg (fun q => e q.symm)]
theorem va_P.left {D : va_G} {cl : List vw_C} {w ex : va_W} {H : Heap} (h : va_P D cl (w ++ ex) H) : va_P D cl w H := fun k q hk => h k q (by rw [List.getElem?_append_left (List.getElem?_eq_some_iff.mp hk).1]; exact hk)
theorem va_D.left {A : Nat → Prop} {w ex : va_W} (h : va_D A (w ++ ex)) : va_D A w := by
  have e : ∀ (k : Nat) (q : Nat × va_E), w[k]? = some q → (w ++ ex)[k]? = some q := fun k q hk => by rw [List.getElem?_append_left (List.getElem?_eq_some_iff.mp hk).1]; exact hk
  exact ⟨fun i j p q hi hj hpq => h.1 i j p q (e i p hi) (e j q hj) hpq, fun k q hk => h.2 k q (e k q hk)⟩
theorem va_ex {w ex : va_W} {k : Nat} {q : Nat × va_E} (hk : ex[k]? = some q) : (w ++ ex)[w.length + k]? = some q := by
  rw [List.getElem?_append_right (Nat.le_add_right _ _), Nat.add_sub_cancel_left]; exact hk
theorem va_joinE {A0 : Nat → Prop} {D : va_G} {cl : List vw_C} {ws ex w1 : va_W} {H H1 : Heap} (hP : va_P D cl (ws ++ ex) H) (hD : va_D A0 (ws ++ ex)) (hk : ∀ q : Nat, q < H.size → ¬ va_A ws H.size q → H1[q]? = H[q]?) (hF : ∀ q, va_A ws H.size q → A0 q) (hP1 : va_P D cl w1 H1) (hD1 : va_D (va_A ws H.size) w1) : va_P D cl (w1 ++ ex) H1 ∧ va_D A0 (w1 ++ ex) := by
  have apart : ∀ (k : Nat) (q : Nat × va_E), ex[k]? = some q → q.1 < H.size ∧ ¬ va_A ws H.size q.1 := by
    intro k q hq
    have h2 := va_ex (w := ws) hq
    have hl := (hP _ q h2).lt
    refine ⟨hl, fun h => ?_⟩
    rcases h with ⟨k2, e, h⟩ | h
    · have h4 : (ws ++ ex)[k2]? = some (q.1, e) := by rw [List.getElem?_append_left (List.getElem?_eq_some_iff.mp h).1]; exact h
      have hij := hD.1 _ _ _ _ h4 h2 rfl
      have := (List.getElem?_eq_some_iff.mp h).1
      omega
    · omega
  refine ⟨hP1.app (fun k q hq => ?_), (hD1.weaken (fun k q _ h => hF q.1 h)).app ⟨fun i j p q hi hj hpq => ?_, fun k q hq => hD.2 _ q (va_ex hq)⟩ (fun i j x y hx hy hxy => ?_)⟩
  · obtain ⟨g1, g2⟩ := apart k q hq
    exact (hP _ q (va_ex hq)).kept (hk q.1 g1 g2)
  · have := hD.1 _ _ p q (va_ex hi) (va_ex hj) hpq
    omega
  · exact (apart j y hy).2 (by rw [← hxy]; exact hD1.2 i x hx)
section WX
variable {p : Program} {l : Launch} {e : Env} {R : Room} {s : State} {m : MethodId} {args : Array Value} {below : List Frame} {meth : Method} {c : Code} {H : Heap} {locs : List Loc} {cells slots : Nat} {Q : State → Prop}
variable {cc : ByteArray} {pc : Nat} {ls : Array Slot} {rest : List Value} {D : va_G} {tys : List (ClassId × FieldType)} {A : Nat → Prop}
variable {y : MethodName} {bytes : ByteArray} {maxL nL n index mc ms : Nat} {ret : Option FieldType} {ws : List Cond} {rm : Room} {Ts : List Cond} {own C : String} {b : Addr} {As st0 : List Value} {ws0 ex w1 : va_W} {H0 : Heap}
theorem wx_free {cl : List vw_C} (hD : va_D A ws0) (hS : va_S A H0 H locs) (hA : ∀ q, H0.size ≤ q → A q) : ∀ q, va_A ws0 H.size q → A q := by
  intro q h
  rcases h with ⟨k, e, h⟩ | h
  · exact hD.2 k (q, e) h
  · exact hA q (Nat.le_trans hS.1 h)
theorem wx_cVv (F : CallFix p m c cc nL s args Ts own) (hM : Met l y ws rm (va_Pc (.ref b :: As) (wrP D tys ws0 H.size)) (wrQv D tys w1 (va_A ws0 H.size)) mc ms (va_A ws0 H.size)) (cw : CallW R s args own C index y bytes maxL ret ws rm mc ms n)
    (hP : va_P D vwCl ws0 H) (hK : va_K D vwCl tys s) (hD : va_D A ws0) (hS : va_S A H0 H locs) (hA : ∀ q, H0.size ≤ q → A q)
    (hv : ∃ cell : Cell, H[b]? = some cell ∧ cell.vm.isStatics = false ∧ s.vm.findClass C = some cell.cls) (hn : As.length = n) (hsz : ls.size = nL) (hst : st0 = As.reverse ++ .ref b :: rest) (hW : 2 * (F0 m pc ls st0).monitorRoom + (rest.map fun v => v.category).sum ≤ 8) (hdg : decode cc pc = .ok (.invokevirtual index, 3)) (hf : cells + mc ≤ R.cells ∧ slots + ms ≤ R.slots)
    (kk : ∀ (H1 : Heap) (locs1 : List Loc), va_P D vwCl w1 H1 → va_D A w1 → va_S A H0 H1 locs1 → W p l e R s m args below meth c H1 locs1 (cells + mc) (slots + ms) Q (F0 m (pc + 3) ls rest)) : W p l e R s m args below meth c H locs cells slots Q (F0 m pc ls st0) := by
  have hFc := wx_free (cl := vwCl) hD hS hA
  refine va_callv (va_runV F hM cw ⟨wBlind, hv, fun U hU hW => ⟨rfl, by rw [hU], by rw [hU]; exact hP, va_K.moved hW.alike hK, hD.weaken (fun _ _ _ _ => trivial)⟩⟩ rfl hn hsz hst hW hdg hf) hS (fun q _ h => hFc q h) hFc (fun u t H1 locs1 ht hvm hw hB hz1 hk1 hS1 => ?_)
  obtain ⟨hP1, hK1, hD1⟩ := hB
  rw [ht] at hP1
  exact kk H1 locs1 hP1 (hD1.weaken (fun k q _ h => hFc q.1 h)) hS1
theorem wx_cVi {v : Int32} (F : CallFix p m c cc nL s args Ts own) (hM : Met l y ws rm (va_Pc (.ref b :: As) (wrP D tys ws0 H.size)) (wrQi D tys v w1 (va_A ws0 H.size)) mc ms (va_A ws0 H.size)) (cw : CallW R s args own C index y bytes maxL ret ws rm mc ms n)
    (hP : va_P D vwCl ws0 H) (hK : va_K D vwCl tys s) (hD : va_D A ws0) (hS : va_S A H0 H locs) (hA : ∀ q, H0.size ≤ q → A q)
    (hv : ∃ cell : Cell, H[b]? = some cell ∧ cell.vm.isStatics = false ∧ s.vm.findClass C = some cell.cls) (hn : As.length = n) (hsz : ls.size = nL) (hst : st0 = As.reverse ++ .ref b :: rest) (hW : 2 * (F0 m pc ls st0).monitorRoom + (rest.map fun v => v.category).sum ≤ 8) (hdg : decode cc pc = .ok (.invokevirtual index, 3)) (hf : cells + mc ≤ R.cells ∧ slots + ms ≤ R.slots)
    (kk : ∀ (H1 : Heap) (locs1 : List Loc), va_P D vwCl w1 H1 → va_D A w1 → va_S A H0 H1 locs1 → W p l e R s m args below meth c H1 locs1 (cells + mc) (slots + ms) Q (F0 m (pc + 3) ls (.int v :: rest))) : W p l e R s m args below meth c H locs cells slots Q (F0 m pc ls st0) := by
  have hFc := wx_free (cl := vwCl) hD hS hA
  refine va_calli (va_runV F hM cw ⟨wBlind, hv, fun U hU hW => ⟨rfl, by rw [hU], by rw [hU]; exact hP, va_K.moved hW.alike hK, hD.weaken (fun _ _ _ _ => trivial)⟩⟩ rfl hn hsz hst hW hdg hf) hS (fun q _ h => hFc q h) hFc (fun r u t H1 locs1 ht hvm hw hB hz1 hk1 hS1 => ?_)
  obtain ⟨hP1, hK1, hD1⟩ := hB
  rw [ht] at hP1
  subst hw
  exact kk H1 locs1 hP1 (hD1.weaken (fun k q _ h => hFc q.1 h)) hS1
/-- the same, with cells beside the callee's world -/
theorem wx_cVvE (F : CallFix p m c cc nL s args Ts own) (hM : Met l y ws rm (va_Pc (.ref b :: As) (wrP D tys ws0 H.size)) (wrQv D tys w1 (va_A ws0 H.size)) mc ms (va_A ws0 H.size)) (cw : CallW R s args own C index y bytes maxL ret ws rm mc ms n)
    (hP : va_P D vwCl (ws0 ++ ex) H) (hK : va_K D vwCl tys s) (hD : va_D A (ws0 ++ ex)) (hS : va_S A H0 H locs) (hA : ∀ q, H0.size ≤ q → A q)
    (hv : ∃ cell : Cell, H[b]? = some cell ∧ cell.vm.isStatics = false ∧ s.vm.findClass C = some cell.cls) (hn : As.length = n) (hsz : ls.size = nL) (hst : st0 = As.reverse ++ .ref b :: rest) (hW : 2 * (F0 m pc ls st0).monitorRoom + (rest.map fun v => v.category).sum ≤ 8) (hdg : decode cc pc = .ok (.invokevirtual index, 3)) (hf : cells + mc ≤ R.cells ∧ slots + ms ≤ R.slots)
    (kk : ∀ (H1 : Heap) (locs1 : List Loc), va_P D vwCl (w1 ++ ex) H1 → va_D A (w1 ++ ex) → va_S A H0 H1 locs1 → W p l e R s m args below meth c H1 locs1 (cells + mc) (slots + ms) Q (F0 m (pc + 3) ls rest)) : W p l e R s m args below meth c H locs cells slots Q (F0 m pc ls st0) := by
  have hFc := wx_free (cl := vwCl) hD.left hS hA
  refine va_callv (va_runV F hM cw ⟨wBlind, hv, fun U hU hW => ⟨rfl, by rw [hU], by rw [hU]; exact hP.left, va_K.moved hW.alike hK, hD.left.weaken (fun _ _ _ _ => trivial)⟩⟩ rfl hn hsz hst hW hdg hf) hS (fun q _ h => hFc q h) hFc (fun u t H1 locs1 ht hvm hw hB hz1 hk1 hS1 => ?_)
  obtain ⟨hP1, hK1, hD1⟩ := hB
  rw [ht] at hP1
  obtain ⟨hP2, hD2⟩ := va_joinE hP hD hk1 hFc hP1 hD1
  exact kk H1 locs1 hP2 hD2 hS1
theorem wx_cVk {arg : List Value} {v : Int32} (F : CallFix p m c cc nL s args Ts own) (hM : Met l y ws rm (va_Pc (.ref b :: As) (fun U => va_P D vwCl ws0 U.heap ∧ va_K D vwCl tys U)) (vp_Si (fun r => r = v)) 0 0 (fun _ => False)) (cw : CallW R s args own C index y bytes maxL ret ws rm 0 0 n) (hP : va_P D vwCl (ws0 ++ ex) H) (hK : va_K D vwCl tys s)
    (hv : ∃ cell : Cell, H[b]? = some cell ∧ cell.vm.isStatics = false ∧ s.vm.findClass C = some cell.cls) (hn : As.length = n) (hsz : ls.size = nL) (hst : st0 = As.reverse ++ .ref b :: rest) (hW : 2 * (F0 m pc ls st0).monitorRoom + (rest.map fun v => v.category).sum ≤ 8) (hdg : decode cc pc = .ok (.invokevirtual index, 3)) (hf : cells + 0 ≤ R.cells ∧ slots + 0 ≤ R.slots)
    (kk : W p l e R s m args below meth c H locs cells slots Q (F0 m (pc + 3) ls (.int v :: rest))) : W p l e R s m args below meth c H locs cells slots Q (F0 m pc ls st0) :=
  rd_cVi F hM cw hP.left hK hv hn hsz hst hW hdg hf kk
end WX
/-! models of what it writes -/
def r_let (sg : Nat → Nat → Int32) (a b z : Int32) : Nat → Nat → Int32 := r_up (r_up sg a.toNatClampNeg (upd (sg a.toNatClampNeg) b.toNatClampNeg z)) b.toNatClampNeg (upd (r_up sg a.toNatClampNeg (upd (sg a.toNatClampNeg) b.toNatClampNeg z) b.toNatClampNeg) a.toNatClampNeg z)
/-- a new code goes to its place -/
def r_ins (tb : Nat → Int32) (its : Int32) : Nat → Nat → Int32
  | 0 => upd tb 0 its
  | k + 1 => if tb k ≤ its then upd tb (k + 1) its else r_ins (upd tb (k + 1) (tb k)) its k
def r_put (t : Nat) (tb : Nat → Int32) (a b k : Int32) : Nat → Int32 := r_ins tb (r_code a b k) t
/-- the code at place i goes away; u behind it are left in all -/
def r_take (u i : Nat) (tb : Nat → Int32) : Nat → Int32 := va_cpy tb tb (i + 1) i (u - i)
