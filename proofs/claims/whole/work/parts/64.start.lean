/-! the law, from its entry -/
theorem va_P.mid {D : va_G} {cl : List vw_C} {a b c : va_W} {H : Heap} (h : va_P D cl ((a ++ b) ++ c) H) : va_P D cl ((a ++ c) ++ b) H := by
  intro k q hq
  have hm : q ∈ (a ++ b) ++ c := by
    have := List.mem_of_getElem? hq
    simp only [List.mem_append] at this ⊢
    rcases this with (z | z) | z
    · exact Or.inl (Or.inl z)
    · exact Or.inr z
    · exact Or.inl (Or.inr z)
  obtain ⟨j, hj⟩ := List.getElem?_of_mem hm
  exact h j q hj
theorem mid_get {α : Type} {a b c : List α} {k : Nat} {q : α} (h : ((a ++ c) ++ b)[k]? = some q) : ((a ++ b) ++ c)[if k < a.length then k else a.length + (if k - a.length < c.length then b.length + (k - a.length) else k - a.length - c.length)]? = some q := by
  rw [List.append_assoc] at h ⊢
  by_cases w : k < a.length
  · rw [if_pos w, List.getElem?_append_left w]
    rw [List.getElem?_append_left w] at h
    exact h
  · rw [if_neg w]
    rw [List.getElem?_append_right (by omega)] at h
    rw [List.getElem?_append_right (by omega), Nat.add_sub_cancel_left]
    exact app_swap h
theorem va_D.mid {A : Nat → Prop} {a b c : va_W} (h : va_D A ((a ++ b) ++ c)) : va_D A ((a ++ c) ++ b) := by
  refine ⟨fun i j p q hi hj e => ?_, fun k q hk => h.2 _ q (mid_get hk)⟩
  have := h.1 _ _ p q (mid_get hi) (mid_get hj) e
  have li : i < ((a ++ c) ++ b).length := by
    rcases Nat.lt_or_ge i ((a ++ c) ++ b).length with z | z
    · exact z
    · rw [List.getElem?_eq_none z] at hi; cases hi
  have lj : j < ((a ++ c) ++ b).length := by
    rcases Nat.lt_or_ge j ((a ++ c) ++ b).length with z | z
    · exact z
    · rw [List.getElem?_eq_none z] at hj; cases hj
  simp only [List.length_append] at li lj
  split at this <;> split at this <;> (try split at this) <;> (try split at this) <;> omega
section LI
variable {p : Program} {l : Launch} {e : Env} {R : Room} {s : State} {m : MethodId} {args : Array Value} {below : List Frame} {meth : Method} {c : Code} {H : Heap} {locs : List Loc} {cells slots : Nat} {Q : State → Prop}
variable {cc : ByteArray} {pc : Nat} {ls : Array Slot} {rest : List Value} {D : va_G} {A : Nat → Prop}
variable {y : MethodName} {bytes : ByteArray} {maxL nL n index mc1 ms1 : Nat} {ws : List Cond} {rm : Room} {Ts : List Cond} {own : String} {b : Addr} {As st0 : List Value} {wz wr : va_W} {cI cZ cY cL : ClassId}
/-- a constructor, over the last cells of the world -/
theorem lw_cI {S : Type} {w1 : S → va_W} {X : State → Prop} (hX : ∀ U : State, s.WarmedH U.vm → X U) (hB : FrameBlind (va_Pc (.ref b :: As) (fun U => wrP D (gTY cI cZ cY) wr H.size U ∧ X U))) (F : CallFix p m c cc nL s args Ts own) (hM : Met l y ws rm (va_Pc (.ref b :: As) (fun U => wrP D (gTY cI cZ cY) wr H.size U ∧ X U)) (va_Qv (fun _ : S => True) (fun u t => wrB D (gTY cI cZ cY) (va_A wr H.size) (w1 u) t) (va_A wr H.size)) mc1 ms1 (va_A wr H.size)) (cw : CallB R s args own index y bytes maxL none ws rm mc1 ms1 n ∧ y.name = "<init>" ∧ (Cond.instanceMethod y).before args s = true)
    (hP : va_P D vwCl (wz ++ wr) H) (hK : va_K D vwCl (gT4 cI cZ cY cL) s) (hD : va_D A (wz ++ wr)) (hS : va_S A s.heap H locs) (hA : ∀ q, s.heap.size ≤ q → A q)
    (hn : As.length = n) (hsz : ls.size = nL) (hst : st0 = As.reverse ++ .ref b :: rest) (hW : 2 * (F0 m pc ls st0).monitorRoom + (rest.map fun v => v.category).sum ≤ 8) (hdg : decode cc pc = .ok (.invokespecial index, 3)) (hf : cells + mc1 ≤ R.cells ∧ slots + ms1 ≤ R.slots)
    (kk : ∀ (u : S) (H1 : Heap) (locs1 : List Loc), va_P D vwCl (wz ++ w1 u) H1 → va_D A (wz ++ w1 u) → va_S A s.heap H1 locs1 → W p l e R s m args below meth c H1 locs1 (cells + mc1) (slots + ms1) Q (F0 m (pc + 3) ls rest)) : W p l e R s m args below meth c H locs cells slots Q (F0 m pc ls st0) := by
  have hP' := hP.comm
  have hD' := hD.comm
  have hFc := wx_free (cl := vwCl) hD'.left hS hA
  refine va_callv (va_runI F hM cw ⟨hB, fun U hU hW => ⟨rfl, ⟨by rw [hU], by rw [hU]; exact hP'.left, va_K.moved hW.alike (gT4_sub hK), hD'.left.weaken (fun _ _ _ _ => trivial)⟩, hX U hW⟩⟩ rfl hn hsz hst hW hdg hf) hS (fun q _ h => hFc q h) hFc (fun u t H1 locs1 ht hvm hw hB hz1 hk1 hS1 => ?_)
  obtain ⟨hP1, hK1, hD1⟩ := hB
  rw [ht] at hP1
  obtain ⟨hP2, hD2⟩ := va_joinE hP' hD' hk1 hFc hP1 hD1
  exact kk u H1 locs1 hP2.comm hD2.comm hS1
theorem lw_newl (hexec : p.tables.exec = Jvm.exec) (hb : c.code = cc) (harr : (Cond.arrayClass .long).before args s = true) {tys : List (ClassId × FieldType)} {cl : List vw_C} {H0 : Heap} {cA : ClassId} (hK : va_K D cl tys s) (t0 : Nat) (ht : tys[t0]? = some (cA, .long)) (hP : va_P D cl wz H) (hD : va_D A wz) (hS : va_S A H0 H locs) (hA : ∀ q, H0.size ≤ q → A q)
    {n : Int32} {N' : Nat} (hn : ¬ n < 0) (hN : n.toNatClampNeg = N') (hbytes : N' * 8 ≤ 536870912) (hcells : cells + 1 ≤ R.cells) (hslots : slots + N' ≤ R.slots) (hdg : decode cc pc = .ok (.newarray .long, 2))
    (kk : ∀ (q : Nat) (H1 : Heap), va_P D cl (wz ++ [(q, .inl (cA, N', .inr (.inl (fun _ => 0))))]) H1 → va_D A (wz ++ [(q, .inl (cA, N', .inr (.inl (fun _ => 0))))]) → va_S A H0 H1 locs → W p l e R s m args below meth c H1 locs (cells + 1) (slots + N') Q (F0 m (pc + 2) ls (.ref q :: rest))) : W p l e R s m args below meth c H locs cells slots Q (F0 m pc ls (.int n :: rest)) := by
  refine va_newa (atype := .long) (ty := .long) (a0 := (N', .inr (.inl (fun _ => 0)))) hexec hb harr rfl hK hP hD hS hA (fun _ => rfl) hn hN hbytes hcells hslots hdg (fun q cB H1 hK1 hP1 hD1 hS1 => ?_)
  have e1 : s.vm.findClass ("[" ++ (FieldType.long).toString) = some cA := (hK.2 t0 _ ht).2
  have e2 : s.vm.findClass ("[" ++ (FieldType.long).toString) = some cB := (hK1.2 tys.length (cB, .long) (by rw [List.getElem?_append_right (Nat.le_refl _), Nat.sub_self]; rfl)).2
  have e3 : cB = cA := Option.some.inj (e2.symm.trans e1)
  subst e3
  exact kk q H1 hP1 hD1 hS1
end LI
theorem lw_arr {args : Array Value} {s : State} {ty : FieldType} (h : (Cond.arrayClass ty).before args s = true) : ∃ cA, ArrOfT s cA ty ∧ s.vm.findClass ("[" ++ ty.toString) = some cA := by
  obtain ⟨cA, k, comp, h1, h2, h3⟩ := Cond.arrayClass_spec h
  exact ⟨cA, fun n z => ⟨(fun k h => by cases h), k, h2, comp, h3⟩, h1⟩
theorem lw_str {args : Array Value} {s : State} {k : Nat} {tx : String} (h1 : (Cond.stringRef RX1 k tx).before args s = true) (h2 : (Cond.exactly (.string RX1 k) "java/lang/String").before args s = true) : ∃ a, vk_R RX1 k tx a s := by
  obtain ⟨a, -, -, -, q1, -⟩ := Cond.exactly_spec h2
  exact ⟨a, vk_R.of h1 q1⟩
/-- what the Statement gives of the start -/
theorem lw_given {args : Array Value} {s : State} {A : Nat → Prop} (hts : ∀ w ∈ lw_tbl, w.before args s = true) (hgv : (Jvm.Cond.and given_1 narrow_1).before args s = true) (hA : ∀ a : Nat, a < s.heap.size → ¬ A a) : xE A s s.heap ∧ xN s ∧ kC s := by
  have hg := flat_of_before _ hgv
  refine ⟨⟨⟨?_, ?_, ?_, ?_, ?_, ?_⟩, ?_, ?_, ?_⟩, ⟨?_, ?_, ?_⟩, ?_, ?_, ?_⟩
  · exact va_Nw.of rfl (hts (.castable xIAE xIAE) (by decide +kernel))
  · exact va_Nw.of rfl (hts (.castable xISE xISE) (by decide +kernel))
  · exact va_Nw.of rfl (hts (.castable xIOB xIOB) (by decide +kernel))
  · exact va_Nw.of rfl (hts (.declares (Bundle.initS "java/lang/RuntimeException")) (by decide +kernel))
  · exact va_Nw.of rfl (hts (.declares (Bundle.initS "java/lang/Exception")) (by decide +kernel))
  · exact va_Nw.of rfl (hts (.declares (Bundle.initS Bundle.tN)) (by decide +kernel))
  · obtain ⟨a1, h1⟩ := lw_str (hts (.stringRef RX1 177 "x and y are 0 to 30") (by decide +kernel)) (hg (.exactly (.string RX1 177) "java/lang/String") (by decide +kernel))
    obtain ⟨a2, h2⟩ := lw_str (hts (.stringRef RX1 180 "a height is 0 to 99") (by decide +kernel)) (hg (.exactly (.string RX1 180) "java/lang/String") (by decide +kernel))
    obtain ⟨a3, h3⟩ := lw_str (hts (.stringRef RX1 40 "there are 16 cairns") (by decide +kernel)) (hg (.exactly (.string RX1 40) "java/lang/String") (by decide +kernel))
    obtain ⟨a4, h4⟩ := lw_str (hts (.stringRef RX1 185 "a cairn is there") (by decide +kernel)) (hg (.exactly (.string RX1 185) "java/lang/String") (by decide +kernel))
    obtain ⟨a5, h5⟩ := lw_str (hts (.stringRef RX1 191 "there is no such cairn") (by decide +kernel)) (hg (.exactly (.string RX1 191) "java/lang/String") (by decide +kernel))
    obtain ⟨a6, h6⟩ := lw_str (hts (.stringRef RX1 193 "there is no edge between them") (by decide +kernel)) (hg (.exactly (.string RX1 193) "java/lang/String") (by decide +kernel))
    obtain ⟨a7, h7⟩ := lw_str (hts (.stringRef RX1 76 "the edge cannot be flipped") (by decide +kernel)) (hg (.exactly (.string RX1 76) "java/lang/String") (by decide +kernel))
    obtain ⟨a8, h8⟩ := lw_str (hts (.stringRef RX1 195 "nothing is told under this number") (by decide +kernel)) (hg (.exactly (.string RX1 195) "java/lang/String") (by decide +kernel))
    obtain ⟨a9, h9⟩ := lw_str (hts (.stringRef RX1 107 "there is no such triangle") (by decide +kernel)) (hg (.exactly (.string RX1 107) "java/lang/String") (by decide +kernel))
    refine ⟨fun k => if k = 177 then a1 else if k = 180 then a2 else if k = 40 then a3 else if k = 185 then a4 else if k = 191 then a5 else if k = 193 then a6 else if k = 76 then a7 else if k = 195 then a8 else a9, fun q hq => ?_⟩
    unfold xTx at hq
    simp only [List.mem_cons, List.not_mem_nil, or_false] at hq
    rcases hq with rfl | rfl | rfl | rfl | rfl | rfl | rfl | rfl | rfl
    · exact h1
    · exact h2
    · exact h3
    · exact h4
    · exact h5
    · exact h6
    · exact h7
    · exact h8
    · exact h9
  · exact vx_Zqof (hts (.laysStatic Bundle.tN "UNASSIGNED_STACK" Bundle.steD) (by decide +kernel)) (hts (.initialized Bundle.tN) (by decide +kernel)) (hg (.isRef (.static Bundle.tN "UNASSIGNED_STACK" Bundle.steD)) (by decide +kernel)) hA
  · exact vx_Zqof (hts (.laysStatic Bundle.tN "SUPPRESSED_SENTINEL" Bundle.listD) (by decide +kernel)) (hts (.initialized Bundle.tN) (by decide +kernel)) (hg (.isRef (.static Bundle.tN "SUPPRESSED_SENTINEL" Bundle.listD)) (by decide +kernel)) hA
  · exact va_Nc.of (hg (.not (.castable xISE xIAE)) (by decide +kernel))
  · exact va_Nc.of (hg (.not (.castable xIAE xIOB)) (by decide +kernel))
  · exact va_Nc.of (hg (.not (.castable xISE xIOB)) (by decide +kernel))
  · exact va_Nw.of rfl (hts (.castable "[I" "java/lang/Cloneable") (by decide +kernel))
  · exact va_Nw.of rfl (hts (.castable "[Z" "java/lang/Cloneable") (by decide +kernel))
  · have h := hts (.arrayOver (.array .boolean)) (by decide +kernel)
    simpa [Cond.before, Cond.holds, Cond.value] using h
