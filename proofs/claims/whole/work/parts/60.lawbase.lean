/-! the law: its calls -/
theorem va_P.comm {D : va_G} {cl : List vw_C} {a b : va_W} {H : Heap} (h : va_P D cl (a ++ b) H) : va_P D cl (b ++ a) H := by
  intro k q hq
  have hm : q ∈ a ++ b := by
    rcases List.mem_append.mp (List.mem_of_getElem? hq) with z | z
    · exact List.mem_append_right _ z
    · exact List.mem_append_left _ z
  obtain ⟨j, hj⟩ := List.getElem?_of_mem hm
  exact h j q hj
theorem app_swap {α : Type} {a b : List α} {i : Nat} {q : α} (h : (b ++ a)[i]? = some q) : (a ++ b)[if i < b.length then a.length + i else i - b.length]? = some q := by
  by_cases w : i < b.length
  · rw [if_pos w]
    rw [List.getElem?_append_left w] at h
    rw [List.getElem?_append_right (by omega), Nat.add_sub_cancel_left]
    exact h
  · rw [if_neg w]
    rw [List.getElem?_append_right (by omega)] at h
    have : i - b.length < a.length := by
      rcases Nat.lt_or_ge (i - b.length) a.length with z | z
      · exact z
      · rw [List.getElem?_eq_none z] at h; cases h
    rw [List.getElem?_append_left this]
    exact h
theorem va_D.comm {A : Nat → Prop} {a b : va_W} (h : va_D A (a ++ b)) : va_D A (b ++ a) := by
  refine ⟨fun i j p q hi hj e => ?_, fun k q hk => h.2 _ q (app_swap hk)⟩
  have := h.1 _ _ p q (app_swap hi) (app_swap hj) e
  have li : i < (b ++ a).length := by
    rcases Nat.lt_or_ge i (b ++ a).length with z | z
    · exact z
    · rw [List.getElem?_eq_none z] at hi; cases hi
  have lj : j < (b ++ a).length := by
    rcases Nat.lt_or_ge j (b ++ a).length with z | z
    · exact z
    · rw [List.getElem?_eq_none z] at hj; cases hj
  rw [List.length_append] at li lj
  split at this <;> split at this <;> omega
theorem lg_cmp_self (x : Int64) : lg_cmp x x = 0 := by
  unfold lg_cmp
  simp
theorem x_k_0 {ok : Bool} {E c1 : String} (h : x_k ok E c1 = 0) : ok = true := by
  unfold x_k at h
  split at h
  · assumption
  · split at h
    · exact absurd h (by decide)
    · exact absurd h (by decide)
theorem sc_in {i j L : Nat} (h : i + j < L) (hL : L ≤ 2048) : vp_in (nI i + nI j) L := by
  rw [nI_add]; exact vp_in_nI h (by omega)
section LW
variable {p : Program} {l : Launch} {e : Env} {R : Room} {s : State} {m : MethodId} {args : Array Value} {below : List Frame} {meth : Method} {c : Code} {H : Heap} {locs : List Loc} {cells slots : Nat} {Q : State → Prop}
variable {cc : ByteArray} {pc : Nat} {ls : Array Slot} {rest : List Value} {D : va_G} {A : Nat → Prop}
variable {y : MethodName} {bytes : ByteArray} {maxL nL n index mc1 ms1 : Nat} {ret : Option FieldType} {ws : List Cond} {rm : Room} {Ts : List Cond} {own C : String} {b : Addr} {As st0 : List Value} {wz wr w1 wa wb : va_W} {cI cZ cY cL : ClassId}
/-- a small method of the law -/
theorem lw_cS {ok : Bool} {kv : Int32} {hh : List (Nat × Nat × Nat × Nat)} (hE : xE A s s.heap) (hN : xN s) (F : CallFix p m c cc nL s args Ts own) (hM : vx_Met l y ws rm (va_Pc As (wrPw D (gT4 cI cZ cY cL) wz H.size)) (whQ D (gT4 cI cZ cY cL) ok kv wa wb (va_A wz H.size)) whX mc1 ms1 (va_A wz H.size)) (cw : vx_CSW R s args own index y bytes maxL ret hh ws rm mc1 ms1 n)
    (hP : va_P D vwCl (wz ++ wr) H) (hK : va_K D vwCl (gT4 cI cZ cY cL) s) (hD : va_D A (wz ++ wr)) (hS : va_S A s.heap H locs) (hA : ∀ q, s.heap.size ≤ q → A q)
    (hn : As.length = n) (hsz : ls.size = nL) (hst : st0 = As.reverse ++ rest) (hW : 2 * (F0 m pc ls st0).monitorRoom + (rest.map fun v => v.category).sum ≤ 8) (hdg : decode cc pc = .ok (.invokestatic index, 3)) (hf : cells + mc1 ≤ R.cells ∧ slots + ms1 ≤ R.slots)
    (kk : ∀ (H1 : Heap) (locs1 : List Loc), va_P D vwCl ((bif ok then wa else wb) ++ wr) H1 → va_D A ((bif ok then wa else wb) ++ wr) → va_S A s.heap H1 locs1 → W p l e R s m args below meth c H1 locs1 (cells + mc1) (slots + ms1) Q (F0 m (pc + 3) ls (.int kv :: rest))) : W p l e R s m args below meth c H locs cells slots Q (F0 m pc ls st0) := by
  have hFc := wx_free (cl := vwCl) hD.left hS hA
  refine vx_calli (vx_runSX F hM cw ⟨wBlindN, fun U hU hW => ⟨rfl, ⟨(xx_pre hE hP.left hK hD.left hS hA U hU hW).1, (xx_pre hE hP.left hK hD.left hS hA U hU hW).2, xN_moved hW.alike hN⟩⟩⟩ rfl hn hsz hst hW hdg hf) hS (fun q _ h => hFc q h) hFc (fun q _ h => h.elim) (fun E ce q9 u t H1 locs1 ht hvm hpx => hpx.elim) (fun r u t H1 locs1 ht hvm hw hB hz1 hk1 hS1 => ?_)
  obtain ⟨hP1, hK1, hD1⟩ := hB
  rw [ht] at hP1
  obtain ⟨hP2, hD2⟩ := va_joinE hP hD hk1 hFc hP1 hD1
  obtain ⟨h1, h2⟩ := hw
  subst h1 h2
  exact kk H1 locs1 hP2 hD2 hS1
/-- a method of the reference that answers a number -/
theorem lw_cR {v : Int32} (F : CallFix p m c cc nL s args Ts own) (hM : Met l y ws rm (va_Pc (.ref b :: As) (wrP D (gTY cI cZ cY) wr H.size)) (wrQi D (gTY cI cZ cY) v w1 (va_A wr H.size)) mc1 ms1 (va_A wr H.size)) (cw : CallW R s args own C index y bytes maxL ret ws rm mc1 ms1 n)
    (hP : va_P D vwCl (wz ++ wr) H) (hK : va_K D vwCl (gT4 cI cZ cY cL) s) (hD : va_D A (wz ++ wr)) (hS : va_S A s.heap H locs) (hA : ∀ q, s.heap.size ≤ q → A q)
    (hv : ∃ cell : Cell, H[b]? = some cell ∧ cell.vm.isStatics = false ∧ s.vm.findClass C = some cell.cls) (hn : As.length = n) (hsz : ls.size = nL) (hst : st0 = As.reverse ++ .ref b :: rest) (hW : 2 * (F0 m pc ls st0).monitorRoom + (rest.map fun v => v.category).sum ≤ 8) (hdg : decode cc pc = .ok (.invokevirtual index, 3)) (hf : cells + mc1 ≤ R.cells ∧ slots + ms1 ≤ R.slots)
    (kk : ∀ (H1 : Heap) (locs1 : List Loc), va_P D vwCl (wz ++ w1) H1 → va_D A (wz ++ w1) → va_S A s.heap H1 locs1 → W p l e R s m args below meth c H1 locs1 (cells + mc1) (slots + ms1) Q (F0 m (pc + 3) ls (.int v :: rest))) : W p l e R s m args below meth c H locs cells slots Q (F0 m pc ls st0) :=
  wx_cViE (ws0 := wr) (ex := wz) F hM cw hP.comm (gT4_sub hK) hD.comm hS hA hv hn hsz hst hW hdg hf (fun H1 locs1 hP hD hS => kk H1 locs1 hP.comm hD.comm hS)
theorem lw_cRk {v : Int32} (hk : kC s) (F : CallFix p m c cc nL s args Ts own) (hM : Met l y ws rm (va_Pc (.ref b :: As) (fun U => wrP D (gTY cI cZ cY) wr H.size U ∧ kC U)) (wrQi D (gTY cI cZ cY) v w1 (va_A wr H.size)) mc1 ms1 (va_A wr H.size)) (cw : CallW R s args own C index y bytes maxL ret ws rm mc1 ms1 n)
    (hP : va_P D vwCl (wz ++ wr) H) (hK : va_K D vwCl (gT4 cI cZ cY cL) s) (hD : va_D A (wz ++ wr)) (hS : va_S A s.heap H locs) (hA : ∀ q, s.heap.size ≤ q → A q)
    (hv : ∃ cell : Cell, H[b]? = some cell ∧ cell.vm.isStatics = false ∧ s.vm.findClass C = some cell.cls) (hn : As.length = n) (hsz : ls.size = nL) (hst : st0 = As.reverse ++ .ref b :: rest) (hW : 2 * (F0 m pc ls st0).monitorRoom + (rest.map fun v => v.category).sum ≤ 8) (hdg : decode cc pc = .ok (.invokevirtual index, 3)) (hf : cells + mc1 ≤ R.cells ∧ slots + ms1 ≤ R.slots)
    (kk : ∀ (H1 : Heap) (locs1 : List Loc), va_P D vwCl (wz ++ w1) H1 → va_D A (wz ++ w1) → va_S A s.heap H1 locs1 → W p l e R s m args below meth c H1 locs1 (cells + mc1) (slots + ms1) Q (F0 m (pc + 3) ls (.int v :: rest))) : W p l e R s m args below meth c H locs cells slots Q (F0 m pc ls st0) := by
  have hP' := hP.comm
  have hD' := hD.comm
  have hFc := wx_free (cl := vwCl) hD'.left hS hA
  refine va_calli (va_runV F hM cw ⟨kBlind, hv, fun U hU hW => ⟨rfl, ⟨by rw [hU], by rw [hU]; exact hP'.left, va_K.moved hW.alike (gT4_sub hK), hD'.left.weaken (fun _ _ _ _ => trivial)⟩, kC_warm hW hk⟩⟩ rfl hn hsz hst hW hdg hf) hS (fun q _ h => hFc q h) hFc (fun r u t H1 locs1 ht hvm hw hB hz1 hk1 hS1 => ?_)
  obtain ⟨hP1, hK1, hD1⟩ := hB
  rw [ht] at hP1
  obtain ⟨hP2, hD2⟩ := va_joinE hP' hD' hk1 hFc hP1 hD1
  subst hw
  exact kk H1 locs1 hP2.comm hD2.comm hS1
/-- what the reference threw -/
theorem lw_cT {v : Int32} (F : CallFix p m c cc nL s args Ts own) (hM : Met l y ws rm (va_Pc (.ref b :: As) (fun U => va_P D vwCl wr U.heap ∧ va_K D vwCl (gTY cI cZ cY) U)) (vp_Si (fun r => r = v)) 0 0 (fun _ => False)) (cw : CallW R s args own C index y bytes maxL ret ws rm 0 0 n) (hP : va_P D vwCl (wz ++ wr) H) (hK : va_K D vwCl (gT4 cI cZ cY cL) s)
    (hv : ∃ cell : Cell, H[b]? = some cell ∧ cell.vm.isStatics = false ∧ s.vm.findClass C = some cell.cls) (hn : As.length = n) (hsz : ls.size = nL) (hst : st0 = As.reverse ++ .ref b :: rest) (hW : 2 * (F0 m pc ls st0).monitorRoom + (rest.map fun v => v.category).sum ≤ 8) (hdg : decode cc pc = .ok (.invokevirtual index, 3)) (hf : cells + 0 ≤ R.cells ∧ slots + 0 ≤ R.slots)
    (kk : W p l e R s m args below meth c H locs cells slots Q (F0 m (pc + 3) ls (.int v :: rest))) : W p l e R s m args below meth c H locs cells slots Q (F0 m pc ls st0) :=
  rd_cVi F hM cw hP.comm.left (gT4_sub hK) hv hn hsz hst hW hdg hf kk
/-- a method of the class that answers a number and does not throw -/
theorem lw_cX {v : Int32} (F : CallFix p m c cc nL s args Ts own) (hM : Met l y ws rm (va_Pc (.ref b :: As) (wrP D (gTY cI cZ cY) wz H.size)) (wrQi D (gTY cI cZ cY) v w1 (va_A wz H.size)) mc1 ms1 (va_A wz H.size)) (cw : CallW R s args own C index y bytes maxL ret ws rm mc1 ms1 n)
    (hP : va_P D vwCl (wz ++ wr) H) (hK : va_K D vwCl (gT4 cI cZ cY cL) s) (hD : va_D A (wz ++ wr)) (hS : va_S A s.heap H locs) (hA : ∀ q, s.heap.size ≤ q → A q)
    (hv : ∃ cell : Cell, H[b]? = some cell ∧ cell.vm.isStatics = false ∧ s.vm.findClass C = some cell.cls) (hn : As.length = n) (hsz : ls.size = nL) (hst : st0 = As.reverse ++ .ref b :: rest) (hW : 2 * (F0 m pc ls st0).monitorRoom + (rest.map fun v => v.category).sum ≤ 8) (hdg : decode cc pc = .ok (.invokevirtual index, 3)) (hf : cells + mc1 ≤ R.cells ∧ slots + ms1 ≤ R.slots)
    (kk : ∀ (H1 : Heap) (locs1 : List Loc), va_P D vwCl (w1 ++ wr) H1 → va_D A (w1 ++ wr) → va_S A s.heap H1 locs1 → W p l e R s m args below meth c H1 locs1 (cells + mc1) (slots + ms1) Q (F0 m (pc + 3) ls (.int v :: rest))) : W p l e R s m args below meth c H locs cells slots Q (F0 m pc ls st0) :=
  wx_cViE (ws0 := wz) (ex := wr) F hM cw hP (gT4_sub hK) hD hS hA hv hn hsz hst hW hdg hf kk
theorem lw_cXl {v : Int64} (F : CallFix p m c cc nL s args Ts own) (hM : Met l y ws rm (va_Pc (.ref b :: As) (fun U => va_P D vwCl wz U.heap ∧ va_K D vwCl (gTY cI cZ cY) U)) (vp_Sl (fun r => r = v)) 0 0 (fun _ => False)) (cw : CallW R s args own C index y bytes maxL ret ws rm 0 0 n) (hP : va_P D vwCl (wz ++ wr) H) (hK : va_K D vwCl (gT4 cI cZ cY cL) s)
    (hv : ∃ cell : Cell, H[b]? = some cell ∧ cell.vm.isStatics = false ∧ s.vm.findClass C = some cell.cls) (hn : As.length = n) (hsz : ls.size = nL) (hst : st0 = As.reverse ++ .ref b :: rest) (hW : 2 * (F0 m pc ls st0).monitorRoom + (rest.map fun v => v.category).sum ≤ 8) (hdg : decode cc pc = .ok (.invokevirtual index, 3)) (hf : cells + 0 ≤ R.cells ∧ slots + 0 ≤ R.slots)
    (kk : W p l e R s m args below meth c H locs cells slots Q (F0 m (pc + 3) ls (.long v :: rest))) : W p l e R s m args below meth c H locs cells slots Q (F0 m pc ls st0) :=
  rd_cVl F hM cw hP.left (gT4_sub hK) hv hn hsz hst hW hdg hf kk
theorem lw_cXd {v : UInt64} (F : CallFix p m c cc nL s args Ts own) (hM : Met l y ws rm (va_Pc (.ref b :: As) (fun U => va_P D vwCl wz U.heap ∧ va_K D vwCl (gTY cI cZ cY) U)) (vp_Sd (fun r => r = v)) 0 0 (fun _ => False)) (cw : CallW R s args own C index y bytes maxL ret ws rm 0 0 n) (hP : va_P D vwCl (wz ++ wr) H) (hK : va_K D vwCl (gT4 cI cZ cY cL) s)
    (hv : ∃ cell : Cell, H[b]? = some cell ∧ cell.vm.isStatics = false ∧ s.vm.findClass C = some cell.cls) (hn : As.length = n) (hsz : ls.size = nL) (hst : st0 = As.reverse ++ .ref b :: rest) (hW : 2 * (F0 m pc ls st0).monitorRoom + (rest.map fun v => v.category).sum ≤ 8) (hdg : decode cc pc = .ok (.invokevirtual index, 3)) (hf : cells + 0 ≤ R.cells ∧ slots + 0 ≤ R.slots)
    (kk : W p l e R s m args below meth c H locs cells slots Q (F0 m (pc + 3) ls (.double v :: rest))) : W p l e R s m args below meth c H locs cells slots Q (F0 m pc ls st0) :=
  vp_callSd (W.runV F hM cw ⟨gBlind, hv, fun U hU hW => ⟨rfl, by rw [hU]; exact hP.left, va_K.moved hW.alike (gT4_sub hK)⟩⟩ rfl hn hsz hst hW hdg hf) (fun r hr => by subst hr; exact kk)
theorem lw_cRl {v : Int64} (F : CallFix p m c cc nL s args Ts own) (hM : Met l y ws rm (va_Pc (.ref b :: As) (wrP D (gTY cI cZ cY) wr H.size)) (wrQl D (gTY cI cZ cY) v w1 (va_A wr H.size)) mc1 ms1 (va_A wr H.size)) (cw : CallW R s args own C index y bytes maxL ret ws rm mc1 ms1 n)
    (hP : va_P D vwCl (wz ++ wr) H) (hK : va_K D vwCl (gT4 cI cZ cY cL) s) (hD : va_D A (wz ++ wr)) (hS : va_S A s.heap H locs) (hA : ∀ q, s.heap.size ≤ q → A q)
    (hv : ∃ cell : Cell, H[b]? = some cell ∧ cell.vm.isStatics = false ∧ s.vm.findClass C = some cell.cls) (hn : As.length = n) (hsz : ls.size = nL) (hst : st0 = As.reverse ++ .ref b :: rest) (hW : 2 * (F0 m pc ls st0).monitorRoom + (rest.map fun v => v.category).sum ≤ 8) (hdg : decode cc pc = .ok (.invokevirtual index, 3)) (hf : cells + mc1 ≤ R.cells ∧ slots + ms1 ≤ R.slots)
    (kk : ∀ (H1 : Heap) (locs1 : List Loc), va_P D vwCl (wz ++ w1) H1 → va_D A (wz ++ w1) → va_S A s.heap H1 locs1 → W p l e R s m args below meth c H1 locs1 (cells + mc1) (slots + ms1) Q (F0 m (pc + 3) ls (.long v :: rest))) : W p l e R s m args below meth c H locs cells slots Q (F0 m pc ls st0) := by
  have hP' := hP.comm
  have hD' := hD.comm
  have hFc := wx_free (cl := vwCl) hD'.left hS hA
  refine va_calll (va_runV F hM cw ⟨wBlind, hv, fun U hU hW => ⟨rfl, by rw [hU], by rw [hU]; exact hP'.left, va_K.moved hW.alike (gT4_sub hK), hD'.left.weaken (fun _ _ _ _ => trivial)⟩⟩ rfl hn hsz hst hW hdg hf) hS (fun q _ h => hFc q h) hFc (fun r u t H1 locs1 ht hvm hw hB hz1 hk1 hS1 => ?_)
  obtain ⟨hP1, hK1, hD1⟩ := hB
  rw [ht] at hP1
  obtain ⟨hP2, hD2⟩ := va_joinE hP' hD' hk1 hFc hP1 hD1
  subst hw
  exact kk H1 locs1 hP2.comm hD2.comm hS1
theorem lw_cRd {v : UInt64} (F : CallFix p m c cc nL s args Ts own) (hM : Met l y ws rm (va_Pc (.ref b :: As) (wrP D (gTY cI cZ cY) wr H.size)) (wrQd D (gTY cI cZ cY) v w1 (va_A wr H.size)) mc1 ms1 (va_A wr H.size)) (cw : CallW R s args own C index y bytes maxL ret ws rm mc1 ms1 n)
    (hP : va_P D vwCl (wz ++ wr) H) (hK : va_K D vwCl (gT4 cI cZ cY cL) s) (hD : va_D A (wz ++ wr)) (hS : va_S A s.heap H locs) (hA : ∀ q, s.heap.size ≤ q → A q)
    (hv : ∃ cell : Cell, H[b]? = some cell ∧ cell.vm.isStatics = false ∧ s.vm.findClass C = some cell.cls) (hn : As.length = n) (hsz : ls.size = nL) (hst : st0 = As.reverse ++ .ref b :: rest) (hW : 2 * (F0 m pc ls st0).monitorRoom + (rest.map fun v => v.category).sum ≤ 8) (hdg : decode cc pc = .ok (.invokevirtual index, 3)) (hf : cells + mc1 ≤ R.cells ∧ slots + ms1 ≤ R.slots)
    (kk : ∀ (H1 : Heap) (locs1 : List Loc), va_P D vwCl (wz ++ w1) H1 → va_D A (wz ++ w1) → va_S A s.heap H1 locs1 → W p l e R s m args below meth c H1 locs1 (cells + mc1) (slots + ms1) Q (F0 m (pc + 3) ls (.double v :: rest))) : W p l e R s m args below meth c H locs cells slots Q (F0 m pc ls st0) := by
  have hP' := hP.comm
  have hD' := hD.comm
  have hFc := wx_free (cl := vwCl) hD'.left hS hA
  refine va_calld (va_runV F hM cw ⟨wBlind, hv, fun U hU hW => ⟨rfl, by rw [hU], by rw [hU]; exact hP'.left, va_K.moved hW.alike (gT4_sub hK), hD'.left.weaken (fun _ _ _ _ => trivial)⟩⟩ rfl hn hsz hst hW hdg hf) hS (fun q _ h => hFc q h) hFc (fun r u t H1 locs1 ht hvm hw hB hz1 hk1 hS1 => ?_)
  obtain ⟨hP1, hK1, hD1⟩ := hB
  rw [ht] at hP1
  obtain ⟨hP2, hD2⟩ := va_joinE hP' hD' hk1 hFc hP1 hD1
  subst hw
  exact kk H1 locs1 hP2.comm hD2.comm hS1
end LW
