/-! the law's smallest methods -/
def l_bel (v : Int32) (n : Nat) : Nat := (v &&& 2147483647).toNatClampNeg % n
theorem l_bel_lt {v : Int32} {n : Nat} (h : 0 < n) : l_bel v n < n := Nat.mod_lt _ h
theorem l_and {v : Int32} : ¬ (v &&& 2147483647) < 0 := by
  rw [Int32.lt_iff_toInt_lt]
  have h : (v &&& 2147483647).toBitVec.msb = false := by
    rw [Int32.toBitVec_and, BitVec.msb_and, show (2147483647 : Int32).toBitVec.msb = false from by decide, Bool.and_false]
  rw [BitVec.msb_eq_toInt] at h
  have h2 : ¬ (v &&& 2147483647).toBitVec.toInt < 0 := of_decide_eq_false h
  exact h2
theorem nI_of_nn {x : Int32} (h : ¬ x < 0) : x = nI x.toNatClampNeg := by
  rcases pk_ix (n := 2147483647) x (by decide) with z | z | ⟨j, hj, z⟩
  · exact absurd z h
  · have e : x = 2147483647 := by
      rw [← Int32.toInt_inj]
      have h1 := Int32.toInt_le x
      rw [Int32.le_iff_toInt_le] at z
      have h3 : (nI 2147483647).toInt = 2147483647 := by decide
      have h4 : (2147483647 : Int32).toInt = 2147483647 := by decide
      rw [h3] at z
      rw [h4]
      have h5 : Int32.maxValue.toInt = 2147483647 := by decide
      omega
    subst e; rfl
  · subst z; rw [nI_clamp (by omega)]
theorem l_bel_eq {v : Int32} {n : Nat} (h0 : 0 < n) (h1 : n < 1000) : (v &&& 2147483647) - (v &&& 2147483647) / nI n * nI n = nI (l_bel v n) := by
  have h := nI_of_nn (l_and (v := v))
  have h2 : (v &&& 2147483647).toNatClampNeg < 2 ^ 31 := by
    have h3 := Int32.toInt_le (v &&& 2147483647)
    have h5 : Int32.maxValue.toInt = 2147483647 := by decide
    unfold Int32.toNatClampNeg
    omega
  unfold l_bel
  generalize (v &&& 2147483647).toNatClampNeg = k at h h2 ⊢
  rw [h]
  exact pk_rem h2 h0 (by omega)
def l_cell (xs : Nat → Int32) (L k : Nat) : Int32 := if nI L ≤ nI k then 790386105 * (nI k + 3) else xs k
theorem hd_L_below : yL_below.cls = RL ∧ yL_below.cls ≠ "java/lang/invoke/MethodHandle" ∧ yL_below.cls ≠ "java/lang/invoke/VarHandle" ∧ (parseMethodDescriptor yL_below.desc).map (fun d => d.parameters.length) = some 2 := by decide +kernel
theorem hd_L_cell : yL_cell.cls = RL ∧ yL_cell.cls ≠ "java/lang/invoke/MethodHandle" ∧ yL_cell.cls ≠ "java/lang/invoke/VarHandle" ∧ (parseMethodDescriptor yL_cell.desc).map (fun d => d.parameters.length) = some 2 := by decide +kernel
theorem ct_L_below : (Cond.constant RL 7 2147483647) ∈ wsL_below := by decide +kernel
theorem ct_L_cell : (Cond.constant RL 8 790386105) ∈ wsL_cell := by decide +kernel
set_option maxHeartbeats 4000000 in
set_option maxRecDepth 100000 in
theorem c_L_below (l : Launch) (dC : Nat → ClassId) (dI : Nat → Nat → Nat) (cI cZ cY : ClassId) (v : Int32) (n : Nat) (hn : 0 < n ∧ n < 1000) : Met l yL_below wsL_below ({ frames := 0, cells := 0, slots := 0, locals := 0 }) (va_Pc [.int v, .int (nI n)] (sP (dC, dI) cI cZ cY (fun _ => True))) (vp_Si (fun r => r = nI (l_bel v n))) 0 0 (fun _ => False) := by
  refine sr_start (cc := cL_below) (maxL := 2) (ret := (some .int)) RL (by decide) rfl rfl (Nat.le_of_ble_eq_true rfl) ?_
  intro p e s m below meth c ⟨hx, hb, hr, hml, hown, hts, hlocks⟩ hM0 hK ls hl
  have hl : lv_has ls 2 [(0, .int v), (1, .int (nI n))] := hl
  refine lv_iload_n hx hb dL_below_0 rfl (lv_at hl 0 rfl) ?_
  refine lv_ldc hx hb hown (hts _ ct_L_below) dL_below_1 ?_
  refine lv_iand hx hb dL_below_3 ?_
  refine lv_iload_n hx hb dL_below_4 rfl (lv_at hl 1 rfl) ?_
  refine lv_irem hx hb dL_below_5 (nI_ne0 hn.1 (by omega)) ?_
  exact rd_iret hx hb hr hlocks (l_bel_eq hn.1 hn.2) dL_below_6
abbrev cP (D : va_G) (cI cZ cY : ClassId) (b L : Nat) (xs : Nat → Int32) : State → Prop := fun U => va_X b L xs U U.heap ∧ b < U.heap.size ∧ kS D cI cZ cY U
theorem cBlind {As : List Value} {D : va_G} {cI cZ cY : ClassId} {b L : Nat} {xs : Nat → Int32} : FrameBlind (va_Pc As (cP D cI cZ cY b L xs)) := fun a U g mk q => ⟨q.1, va_X.moved (u := U) (U := U.calling g mk a) (Vm.Alike.refl U.vm) q.2.1, q.2.2.1, kS.moved (u := U) (U := U.calling g mk a) (Vm.Alike.refl U.vm) q.2.2.2⟩
set_option maxHeartbeats 4000000 in
set_option maxRecDepth 100000 in
theorem c_L_cell (l : Launch) (dC : Nat → ClassId) (dI : Nat → Nat → Nat) (cI cZ cY : ClassId) (b L k : Nat) (xs : Nat → Int32) (hk : k < 1000) (hL : L < 100000) : Met l yL_cell wsL_cell ({ frames := 0, cells := 0, slots := 0, locals := 0 }) (va_Pc [.ref b, .int (nI k)] (cP (dC, dI) cI cZ cY b L xs)) (vp_Si (fun r => r = l_cell xs L k)) 0 0 (fun _ => False) := by
  refine Met.ofW (cc := cL_cell) (maxL := 2) (ret := (some .int)) (by decide) rfl ?_
  intro p e s m args below meth c s₁ B hml hv
  obtain ⟨rfl, hX, hbl, hK⟩ := hv
  rw [lg_entry_eq]
  have hx := B.exec
  have hb := B.bytes
  have hr := B.returns
  have hown : s.vm.findClass RL = some m.cls := findClass_of_methodNamed B.named
  have hts := atoms_spec B.pre
  have hlocks := B.notSynchronized
  have hl := lv_entry ([.ref b, .int (nI k)]) (n := 2) (Nat.le_of_ble_eq_true rfl)
  generalize (lg_sl ([.ref b, .int (nI k)]) ++ List.replicate (2 - (lg_sl ([.ref b, .int (nI k)])).length) Slot.unset).toArray = ls at hl ⊢
  have hl : lv_has ls 2 [(0, .ref b), (1, .int (nI k))] := hl
  have hS : va_S (fun _ => False) s.heap s.heap [] := va_S.rf
  refine lv_iload_n hx hb dL_cell_0 rfl (lv_at hl 1 rfl) ?_
  refine lv_aload_n hx hb dL_cell_1 rfl (lv_at hl 0 rfl) ?_
  refine va_slen hx hb hX hbl (fun z => z) hS dL_cell_2 ?_
  refine lv_icmp_ge (tgt := 12) hx hb dL_cell_3 (by decide) (fun c1 => ?_) (fun c1 => ?_)
  · refine lv_ldc hx hb hown (hts _ ct_L_cell) dL_cell_12 ?_
    refine lv_iload_n hx hb dL_cell_14 rfl (lv_at hl 1 rfl) ?_
    refine lv_iconst (v := 3) hx hb dL_cell_15 (by decide) ?_
    refine lv_iadd hx hb dL_cell_16 ?_
    refine lv_imul hx hb dL_cell_17 ?_
    exact rd_iret hx hb hr hlocks (by rw [l_cell, if_pos (show nI L ≤ nI k from c1)]) dL_cell_18
  · have hkL : k < L := nI_nle_lt (by omega) (by omega) (show ¬ nI L ≤ nI k from c1)
    refine lv_aload_n hx hb dL_cell_6 rfl (lv_at hl 0 rfl) ?_
    refine lv_iload_n hx hb dL_cell_7 rfl (lv_at hl 1 rfl) ?_
    refine va_sld hx hb hX hbl (fun z => z) hS (vp_in_nI hkL (by omega)) dL_cell_8 ?_
    refine lv_goto (tgt := 18) hx hb dL_cell_9 (by decide) ?_
    exact rd_iret hx hb hr hlocks (by rw [l_cell, if_neg (show ¬ nI L ≤ nI k from c1), nI_clamp (by omega)]) dL_cell_18
