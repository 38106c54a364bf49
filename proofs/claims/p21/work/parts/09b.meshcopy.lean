theorem hd_X0_copyRow : yX0_copyRow.cls = RX0 ∧ yX0_copyRow.cls ≠ "java/lang/invoke/MethodHandle" ∧ yX0_copyRow.cls ≠ "java/lang/invoke/VarHandle" ∧ (parseMethodDescriptor yX0_copyRow.desc).map (fun d => d.parameters.length) = some 2 := by decide +kernel
theorem hd_X0_become : yX0_become.cls = RX0 ∧ yX0_become.cls ≠ "java/lang/invoke/MethodHandle" ∧ yX0_become.cls ≠ "java/lang/invoke/VarHandle" ∧ (parseMethodDescriptor yX0_become.desc).map (fun d => d.parameters.length) = some 1 := by decide +kernel
set_option maxHeartbeats 4000000 in
set_option maxRecDepth 100000 in
theorem c_X0_copyRow (l : Launch) (dC : Nat → ClassId) (dI : Nat → Nat → Nat) (cI cZ cY : ClassId) (p1 p2 N : Nat) (f g : Nat → Int32) (sz : Nat) (hN : N ≤ 1000) : Met l yX0_copyRow wsX0_copyRow ({ frames := 0, cells := 0, slots := 0, locals := 0 }) (va_Pc [.ref p1, .ref p2] (wrP (dC, dI) (gTY cI cZ cY) ([(p1, .inl (cI, N, .inl f)), (p2, .inl (cI, N, .inl g))]) sz)) (wrQv (dC, dI) (gTY cI cZ cY) ([(p1, .inl (cI, N, .inl f)), (p2, .inl (cI, N, .inl f))]) (va_A ([(p1, .inl (cI, N, .inl f)), (p2, .inl (cI, N, .inl g))]) sz)) 0 0 (va_A ([(p1, .inl (cI, N, .inl f)), (p2, .inl (cI, N, .inl g))]) sz) := by
  refine wr_start (cc := cX0_copyRow) (maxL := 3) (ret := none) (Q0 := wrQv (dC, dI) (gTY cI cZ cY) ([(p1, .inl (cI, N, .inl f)), (p2, .inl (cI, N, .inl f))])) RX0 (by decide) rfl rfl (Nat.le_of_ble_eq_true rfl) ?_
  intro p e s m below meth c ⟨hx, hb, hr, hml, hown, hts, hlocks, hin⟩ hP hK A hD hA hS ls hl
  have hl : lv_has ls 3 [(0, .ref p1), (1, .ref p2)] := hl
  refine lv_iconst (v := 0) hx hb dX0_copyRow_0 (by decide) ?_
  refine lv_istore_n (lv' := [(2, .int 0), (0, .ref p1), (1, .ref p2)]) hx hb dX0_copyRow_1 rfl hl (by decide) rfl (fun ls hl => ?_)
  have hL2 : ∀ (k_1 : Nat) (i : Nat), (N - i) < k_1 → (i ≤ N) → ∀ ls : Array Slot, lv_has ls 3 [(2, .int (nI i)), (0, .ref p1), (1, .ref p2)] → ∀ (H : Heap) (locs : List Loc), va_P (dC, dI) vwCl ([(p1, .inl (cI, N, .inl f)), (p2, .inl (cI, N, .inl (cp_row f g i)))]) H → va_D A ([(p1, .inl (cI, N, .inl f)), (p2, .inl (cI, N, .inl (cp_row f g i)))]) → va_S A s.heap H locs → W p l e ({ frames := 0, cells := 0, slots := 0, locals := 0 } : Room) s m ([.ref p1, .ref p2] : List Value).toArray below meth c H locs 0 0 (MQ below (wrQv (dC, dI) (gTY cI cZ cY) ([(p1, .inl (cI, N, .inl f)), (p2, .inl (cI, N, .inl f))]) A) ([.ref p1, .ref p2] : List Value).toArray s 0 0 A) (F0 m 2 ls []) := by
    intro k_1
    induction k_1 with
    | zero => intro i hk; exact absurd hk (Nat.not_lt_zero _)
    | succ k_1 ih_2 =>
      intro i hk_2 hi_i ls hl H locs hP hD hS
      refine lv_iload_n hx hb dX0_copyRow_2 rfl (lv_at hl 0 rfl) ?_
      refine lv_aload_n hx hb dX0_copyRow_3 rfl (lv_at hl 2 rfl) ?_
      refine va_alen (D := (dC, dI)) hx hb hK hP 1 0 rfl rfl (v := nI N) (by rfl) dX0_copyRow_4 ?_
      refine lv_icmp_ge (tgt := 26) hx hb dX0_copyRow_5 (by decide) (fun c_3 => ?_) (fun c_3 => ?_)
      · have hge_i : N ≤ i := nI_le_le (by omega) (by omega) c_3
        have heq_i : i = N := by omega
        have hl : lv_has ls 3 [(2, .int (nI N)), (0, .ref p1), (1, .ref p2)] := by rw [heq_i] at hl; exact hl
        have hP : va_P (dC, dI) vwCl ([(p1, .inl (cI, N, .inl f)), (p2, .inl (cI, N, .inl (cp_row f g N)))]) H := by rw [heq_i] at hP; exact hP
        have hD : va_D A ([(p1, .inl (cI, N, .inl f)), (p2, .inl (cI, N, .inl (cp_row f g N)))]) := by rw [heq_i] at hD; exact hD
        have hP : va_P (dC, dI) vwCl [(p1, .inl (cI, N, .inl f)), (p2, .inl (cI, N, .inl f))] H := hP.cg (k := 1) (g := f) rfl cp_row_n
        have hD : va_D A [(p1, .inl (cI, N, .inl f)), (p2, .inl (cI, N, .inl f))] := hD.cg (k := 1) (e' := .inl (cI, N, .inl f)) rfl
        exact wr_vret hx hb hr hlocks hP hK hD hS dX0_copyRow_26
      · have hlt_i : i < N := nI_nle_lt (by omega) (by omega) c_3
        refine lv_iload_n hx hb dX0_copyRow_8 rfl (lv_at hl 0 rfl) ?_
        refine lv_aload_n hx hb dX0_copyRow_9 rfl (lv_at hl 1 rfl) ?_
        refine va_alen (D := (dC, dI)) hx hb hK hP 0 0 rfl rfl (v := nI N) (by rfl) dX0_copyRow_10 ?_
        refine lv_icmp_ge (tgt := 26) hx hb dX0_copyRow_11 (by decide) (fun c_4 => ?_) (fun c_4 => ?_)
        · have hq : N ≤ i := nI_le_le (by omega) (by omega) c_4
          exact absurd hlt_i (by omega)
        · refine lv_aload_n hx hb dX0_copyRow_14 rfl (lv_at hl 2 rfl) ?_
          refine lv_iload_n hx hb dX0_copyRow_15 rfl (lv_at hl 0 rfl) ?_
          refine lv_aload_n hx hb dX0_copyRow_16 rfl (lv_at hl 1 rfl) ?_
          refine lv_iload_n hx hb dX0_copyRow_17 rfl (lv_at hl 0 rfl) ?_
          refine va_iald (D := (dC, dI)) hx hb hK hP 0 0 rfl rfl (vp_in_nI (by omega) (by omega)) dX0_copyRow_18 ?_
          refine lv_cvi (congrArg f (nI_clamp (by omega))) ?_
          refine va_iast (D := (dC, dI)) hx hb hK hP hD hS 1 0 rfl rfl (vp_in_nI (by omega) (by omega)) dX0_copyRow_19 (fun H locs hP hD hS => ?_)
          have hP : va_P (dC, dI) vwCl [(p1, .inl (cI, N, .inl f)), (p2, .inl (cI, N, .inl (upd (cp_row f g i) (nI i).toNatClampNeg (f i))))] H := hP
          have hD : va_D A [(p1, .inl (cI, N, .inl f)), (p2, .inl (cI, N, .inl (upd (cp_row f g i) (nI i).toNatClampNeg (f i))))] := hD
          refine lv_iinc (v := nI (i + 1)) (lv' := [(2, .int (nI (i + 1))), (0, .ref p1), (1, .ref p2)]) hx hb dX0_copyRow_20 hl (k := 0) rfl (nI_1 _) (by decide) rfl (fun ls hl => ?_)
          refine lv_goto (tgt := 2) hx hb dX0_copyRow_23 (by decide) ?_
          have hl := lv_sub (l' := [(2, .int (nI (i + 1))), (0, .ref p1), (1, .ref p2)]) hl [0, 1, 2] rfl
          have hl : lv_has ls 3 [(2, .int (nI (i + 1))), (0, .ref p1), (1, .ref p2)] := by
            have e9 : [(2, .int (nI (i + 1))), (0, .ref p1), (1, .ref p2)] = ([(2, .int (nI (i + 1))), (0, .ref p1), (1, .ref p2)] : List (Nat × Value)) := by rfl
            rw [← e9]; exact hl
          have e_g : ((cp_row f g (i + 1)) : Nat → Int32) = (upd (cp_row f g i) (nI i).toNatClampNeg (f i)) := by rw [nI_clamp (by omega)]; exact cp_row_s f g i
          have hP : va_P (dC, dI) vwCl ([(p1, .inl (cI, N, .inl f)), (p2, .inl (cI, N, .inl (cp_row f g (i + 1))))]) H := by rw [e_g]; exact hP
          have hD : va_D A ([(p1, .inl (cI, N, .inl f)), (p2, .inl (cI, N, .inl (cp_row f g (i + 1))))]) := by rw [e_g]; exact hD
          exact ih_2 (i + 1) (by omega) (by omega) _ hl _ _ hP hD hS
  have hl := lv_sub (l' := [(2, .int 0), (0, .ref p1), (1, .ref p2)]) hl [0, 1, 2] rfl
  have hl : lv_has ls 3 [(2, .int (nI 0)), (0, .ref p1), (1, .ref p2)] := by
    have e9 : [(2, .int 0), (0, .ref p1), (1, .ref p2)] = ([(2, .int (nI 0)), (0, .ref p1), (1, .ref p2)] : List (Nat × Value)) := by rfl
    rw [← e9]; exact hl
  have e_g : ((cp_row f g 0) : Nat → Int32) = g := cp_row_0 f g
  have hP : va_P (dC, dI) vwCl ([(p1, .inl (cI, N, .inl f)), (p2, .inl (cI, N, .inl (cp_row f g 0)))]) s.heap := by rw [e_g]; exact hP
  have hD : va_D A ([(p1, .inl (cI, N, .inl f)), (p2, .inl (cI, N, .inl (cp_row f g 0)))]) := by rw [e_g]; exact hD
  exact hL2 _ 0 (Nat.lt_succ_self _) (by omega) _ hl _ _ hP hD hS
theorem in_X0_become_X0 : ∀ w ∈ wsX00, w ∈ wsX0_become := by decide +kernel
theorem fl_X0_become_38 : (Cond.fieldLink RX0 38 "MoorTriangles$Mesh" "cairns" "I") ∈ wsX0_become := by decide +kernel
theorem fl_X0_become_42 : (Cond.fieldLink RX0 42 "MoorTriangles$Mesh" "triangles" "I") ∈ wsX0_become := by decide +kernel
theorem fl_X0_become_11 : (Cond.fieldLink RX0 11 "MoorTriangles$Mesh" "xs" "[I") ∈ wsX0_become := by decide +kernel
theorem fl_X0_become_15 : (Cond.fieldLink RX0 15 "MoorTriangles$Mesh" "ys" "[I") ∈ wsX0_become := by decide +kernel
theorem fl_X0_become_18 : (Cond.fieldLink RX0 18 "MoorTriangles$Mesh" "lefts" "[I") ∈ wsX0_become := by decide +kernel
theorem fl_X0_become_21 : (Cond.fieldLink RX0 21 "MoorTriangles$Mesh" "stays" "[I") ∈ wsX0_become := by decide +kernel
theorem fl_X0_become_24 : (Cond.fieldLink RX0 24 "MoorTriangles$Mesh" "corners" "[I") ∈ wsX0_become := by decide +kernel
set_option maxHeartbeats 4000000 in
set_option maxRecDepth 100000 in
theorem c_X0_become (l : Launch) (dC : Nat → ClassId) (dI : Nat → Nat → Nat) (cI cZ cY : ClassId) (h qx qy ql qs qc : Nat) (n t : Nat) (xs ys lf sy co : Nat → Int32) (h2 qx2 qy2 ql2 qs2 qc2 : Nat) (n2 t2 : Nat) (xs2 ys2 lf2 sy2 co2 : Nat → Int32) (sz : Nat) : Met l yX0_become wsX0_become ({ frames := 1, cells := 0, slots := 0, locals := 22 }) (va_Pc [.ref h, .ref h2] (wrP (dC, dI) (gTY cI cZ cY) (wMM cI h qx qy ql qs qc n t xs ys lf sy co h2 qx2 qy2 ql2 qs2 qc2 n2 t2 xs2 ys2 lf2 sy2 co2) sz)) (wrQv (dC, dI) (gTY cI cZ cY) (wMM cI h qx qy ql qs qc n2 t2 xs2 ys2 lf2 sy2 co2 h2 qx2 qy2 ql2 qs2 qc2 n2 t2 xs2 ys2 lf2 sy2 co2) (va_A (wMM cI h qx qy ql qs qc n t xs ys lf sy co h2 qx2 qy2 ql2 qs2 qc2 n2 t2 xs2 ys2 lf2 sy2 co2) sz)) 0 0 (va_A (wMM cI h qx qy ql qs qc n t xs ys lf sy co h2 qx2 qy2 ql2 qs2 qc2 n2 t2 xs2 ys2 lf2 sy2 co2) sz) := by
  refine wr_start (cc := cX0_become) (maxL := 2) (ret := none) (Q0 := wrQv (dC, dI) (gTY cI cZ cY) (wMM cI h qx qy ql qs qc n2 t2 xs2 ys2 lf2 sy2 co2 h2 qx2 qy2 ql2 qs2 qc2 n2 t2 xs2 ys2 lf2 sy2 co2)) RX0 (by decide) rfl rfl (Nat.le_of_ble_eq_true rfl) ?_
  intro p e s m below meth c ⟨hx, hb, hr, hml, hown, hts, hlocks, hin⟩ hP hK A hD hA hS ls hl
  have F : CallFix p m c cX0_become 2 s ([.ref h, .ref h2] : List Value).toArray wsX0_become RX0 := ⟨hx, hb, hml, hown, hts⟩
  have hl : lv_has ls 2 [(0, .ref h), (1, .ref h2)] := hl
  refine lv_aload_n hx hb dX0_become_0 rfl (lv_at hl 0 rfl) ?_
  refine lv_aload_n hx hb dX0_become_1 rfl (lv_at hl 1 rfl) ?_
  refine va_get (D := (dC, dI)) (ci := 0) (v := .int (nI n2)) (C := RX0) (T := TX0) (N := 7) hx hb hts in_X0_become_X0 hown hK hP 6 rfl rfl 0 (by decide) (hts (.fieldLink RX0 38 "MoorTriangles$Mesh" "cairns" "I") fl_X0_become_38) (fun _ h9 => h9) rfl dX0_become_2 ?_
  refine va_put (D := (dC, dI)) (ci := 0) (v := .int (nI n2)) (ty := .int) (C := RX0) (T := TX0) (N := 7) hx hb hts in_X0_become_X0 tyX0 tyX0_ok nmX0 hown hK hP hD hS 0 rfl rfl 0 (by decide) (hts (.fieldLink RX0 38 "MoorTriangles$Mesh" "cairns" "I") fl_X0_become_38) (fun _ h9 => h9) rfl (by decide +kernel) rfl rfl (Nat.le_of_ble_eq_true rfl) dX0_become_5 (fun H locs hP hD hS => ?_)
  have hP : va_P (dC, dI) vwCl (wMM cI h qx qy ql qs qc n2 t xs ys lf sy co h2 qx2 qy2 ql2 qs2 qc2 n2 t2 xs2 ys2 lf2 sy2 co2) H := hP
  have hD : va_D A (wMM cI h qx qy ql qs qc n2 t xs ys lf sy co h2 qx2 qy2 ql2 qs2 qc2 n2 t2 xs2 ys2 lf2 sy2 co2) := hD
  refine lv_aload_n hx hb dX0_become_8 rfl (lv_at hl 0 rfl) ?_
  refine lv_aload_n hx hb dX0_become_9 rfl (lv_at hl 1 rfl) ?_
  refine va_get (D := (dC, dI)) (ci := 0) (v := .int (nI t2)) (C := RX0) (T := TX0) (N := 7) hx hb hts in_X0_become_X0 hown hK hP 6 rfl rfl 1 (by decide) (hts (.fieldLink RX0 42 "MoorTriangles$Mesh" "triangles" "I") fl_X0_become_42) (fun _ h9 => h9) rfl dX0_become_10 ?_
  refine va_put (D := (dC, dI)) (ci := 0) (v := .int (nI t2)) (ty := .int) (C := RX0) (T := TX0) (N := 7) hx hb hts in_X0_become_X0 tyX0 tyX0_ok nmX0 hown hK hP hD hS 0 rfl rfl 1 (by decide) (hts (.fieldLink RX0 42 "MoorTriangles$Mesh" "triangles" "I") fl_X0_become_42) (fun _ h9 => h9) rfl (by decide +kernel) rfl rfl (Nat.le_of_ble_eq_true rfl) dX0_become_13 (fun H locs hP hD hS => ?_)
  have hP : va_P (dC, dI) vwCl (wMM cI h qx qy ql qs qc n2 t2 xs ys lf sy co h2 qx2 qy2 ql2 qs2 qc2 n2 t2 xs2 ys2 lf2 sy2 co2) H := hP
  have hD : va_D A (wMM cI h qx qy ql qs qc n2 t2 xs ys lf sy co h2 qx2 qy2 ql2 qs2 qc2 n2 t2 xs2 ys2 lf2 sy2 co2) := hD
  refine lv_aload_n hx hb dX0_become_16 rfl (lv_at hl 1 rfl) ?_
  refine va_get (D := (dC, dI)) (ci := 0) (v := .ref qx2) (C := RX0) (T := TX0) (N := 7) hx hb hts in_X0_become_X0 hown hK hP 6 rfl rfl 2 (by decide) (hts (.fieldLink RX0 11 "MoorTriangles$Mesh" "xs" "[I") fl_X0_become_11) (fun _ h9 => h9) rfl dX0_become_17 ?_
  refine lv_aload_n hx hb dX0_become_20 rfl (lv_at hl 0 rfl) ?_
  refine va_get (D := (dC, dI)) (ci := 0) (v := .ref qx) (C := RX0) (T := TX0) (N := 7) hx hb hts in_X0_become_X0 hown hK hP 0 rfl rfl 2 (by decide) (hts (.fieldLink RX0 11 "MoorTriangles$Mesh" "xs" "[I") fl_X0_become_11) (fun _ h9 => h9) rfl dX0_become_21 ?_
  refine wp_cSv (As := [.ref qx2, .ref qx]) (rest := []) (w2 := wMM cI h qx qy ql qs qc n2 t2 xs2 ys lf sy co h2 qx2 qy2 ql2 qs2 qc2 n2 t2 xs2 ys2 lf2 sy2 co2) F (c_X0_copyRow l dC dI cI cZ cY qx2 qx 17 xs2 xs H.size (by decide)) (cwS 2 hts gX0_become_X0_copyRow rfl rfl rfl hd_X0_copyRow ⟨Nat.le_of_ble_eq_true rfl, Nat.le_of_ble_eq_true rfl⟩) hP hK hD hS hA [7, 1] [0, 2, 3, 4, 5, 6, 8, 9, 10, 11] [0, 11, 1, 2, 3, 4, 5, 10, 6, 7, 8, 9] rfl rfl (by decide) rfl (by decide) (by decide) rfl rfl (by decide) rfl hl.1 rfl (lv_room (Nat.le_of_ble_eq_true rfl)) dX0_become_24 ⟨Nat.zero_le _, Nat.zero_le _⟩ (fun H locs hP hD hS => ?_)
  have hP : va_P (dC, dI) vwCl (wMM cI h qx qy ql qs qc n2 t2 xs2 ys lf sy co h2 qx2 qy2 ql2 qs2 qc2 n2 t2 xs2 ys2 lf2 sy2 co2) H := hP
  have hD : va_D A (wMM cI h qx qy ql qs qc n2 t2 xs2 ys lf sy co h2 qx2 qy2 ql2 qs2 qc2 n2 t2 xs2 ys2 lf2 sy2 co2) := hD
  refine lv_aload_n hx hb dX0_become_27 rfl (lv_at hl 1 rfl) ?_
  refine va_get (D := (dC, dI)) (ci := 0) (v := .ref qy2) (C := RX0) (T := TX0) (N := 7) hx hb hts in_X0_become_X0 hown hK hP 6 rfl rfl 3 (by decide) (hts (.fieldLink RX0 15 "MoorTriangles$Mesh" "ys" "[I") fl_X0_become_15) (fun _ h9 => h9) rfl dX0_become_28 ?_
  refine lv_aload_n hx hb dX0_become_31 rfl (lv_at hl 0 rfl) ?_
  refine va_get (D := (dC, dI)) (ci := 0) (v := .ref qy) (C := RX0) (T := TX0) (N := 7) hx hb hts in_X0_become_X0 hown hK hP 0 rfl rfl 3 (by decide) (hts (.fieldLink RX0 15 "MoorTriangles$Mesh" "ys" "[I") fl_X0_become_15) (fun _ h9 => h9) rfl dX0_become_32 ?_
  refine wp_cSv (As := [.ref qy2, .ref qy]) (rest := []) (w2 := wMM cI h qx qy ql qs qc n2 t2 xs2 ys2 lf sy co h2 qx2 qy2 ql2 qs2 qc2 n2 t2 xs2 ys2 lf2 sy2 co2) F (c_X0_copyRow l dC dI cI cZ cY qy2 qy 17 ys2 ys H.size (by decide)) (cwS 2 hts gX0_become_X0_copyRow rfl rfl rfl hd_X0_copyRow ⟨Nat.le_of_ble_eq_true rfl, Nat.le_of_ble_eq_true rfl⟩) hP hK hD hS hA [8, 2] [0, 1, 3, 4, 5, 6, 7, 9, 10, 11] [0, 1, 11, 2, 3, 4, 5, 6, 10, 7, 8, 9] rfl rfl (by decide) rfl (by decide) (by decide) rfl rfl (by decide) rfl hl.1 rfl (lv_room (Nat.le_of_ble_eq_true rfl)) dX0_become_35 ⟨Nat.zero_le _, Nat.zero_le _⟩ (fun H locs hP hD hS => ?_)
  have hP : va_P (dC, dI) vwCl (wMM cI h qx qy ql qs qc n2 t2 xs2 ys2 lf sy co h2 qx2 qy2 ql2 qs2 qc2 n2 t2 xs2 ys2 lf2 sy2 co2) H := hP
  have hD : va_D A (wMM cI h qx qy ql qs qc n2 t2 xs2 ys2 lf sy co h2 qx2 qy2 ql2 qs2 qc2 n2 t2 xs2 ys2 lf2 sy2 co2) := hD
  refine lv_aload_n hx hb dX0_become_38 rfl (lv_at hl 1 rfl) ?_
  refine va_get (D := (dC, dI)) (ci := 0) (v := .ref ql2) (C := RX0) (T := TX0) (N := 7) hx hb hts in_X0_become_X0 hown hK hP 6 rfl rfl 4 (by decide) (hts (.fieldLink RX0 18 "MoorTriangles$Mesh" "lefts" "[I") fl_X0_become_18) (fun _ h9 => h9) rfl dX0_become_39 ?_
  refine lv_aload_n hx hb dX0_become_42 rfl (lv_at hl 0 rfl) ?_
  refine va_get (D := (dC, dI)) (ci := 0) (v := .ref ql) (C := RX0) (T := TX0) (N := 7) hx hb hts in_X0_become_X0 hown hK hP 0 rfl rfl 4 (by decide) (hts (.fieldLink RX0 18 "MoorTriangles$Mesh" "lefts" "[I") fl_X0_become_18) (fun _ h9 => h9) rfl dX0_become_43 ?_
  refine wp_cSv (As := [.ref ql2, .ref ql]) (rest := []) (w2 := wMM cI h qx qy ql qs qc n2 t2 xs2 ys2 lf2 sy co h2 qx2 qy2 ql2 qs2 qc2 n2 t2 xs2 ys2 lf2 sy2 co2) F (c_X0_copyRow l dC dI cI cZ cY ql2 ql 289 lf2 lf H.size (by decide)) (cwS 2 hts gX0_become_X0_copyRow rfl rfl rfl hd_X0_copyRow ⟨Nat.le_of_ble_eq_true rfl, Nat.le_of_ble_eq_true rfl⟩) hP hK hD hS hA [9, 3] [0, 1, 2, 4, 5, 6, 7, 8, 10, 11] [0, 1, 2, 11, 3, 4, 5, 6, 7, 10, 8, 9] rfl rfl (by decide) rfl (by decide) (by decide) rfl rfl (by decide) rfl hl.1 rfl (lv_room (Nat.le_of_ble_eq_true rfl)) dX0_become_46 ⟨Nat.zero_le _, Nat.zero_le _⟩ (fun H locs hP hD hS => ?_)
  have hP : va_P (dC, dI) vwCl (wMM cI h qx qy ql qs qc n2 t2 xs2 ys2 lf2 sy co h2 qx2 qy2 ql2 qs2 qc2 n2 t2 xs2 ys2 lf2 sy2 co2) H := hP
  have hD : va_D A (wMM cI h qx qy ql qs qc n2 t2 xs2 ys2 lf2 sy co h2 qx2 qy2 ql2 qs2 qc2 n2 t2 xs2 ys2 lf2 sy2 co2) := hD
  refine lv_aload_n hx hb dX0_become_49 rfl (lv_at hl 1 rfl) ?_
  refine va_get (D := (dC, dI)) (ci := 0) (v := .ref qs2) (C := RX0) (T := TX0) (N := 7) hx hb hts in_X0_become_X0 hown hK hP 6 rfl rfl 5 (by decide) (hts (.fieldLink RX0 21 "MoorTriangles$Mesh" "stays" "[I") fl_X0_become_21) (fun _ h9 => h9) rfl dX0_become_50 ?_
  refine lv_aload_n hx hb dX0_become_53 rfl (lv_at hl 0 rfl) ?_
  refine va_get (D := (dC, dI)) (ci := 0) (v := .ref qs) (C := RX0) (T := TX0) (N := 7) hx hb hts in_X0_become_X0 hown hK hP 0 rfl rfl 5 (by decide) (hts (.fieldLink RX0 21 "MoorTriangles$Mesh" "stays" "[I") fl_X0_become_21) (fun _ h9 => h9) rfl dX0_become_54 ?_
  refine wp_cSv (As := [.ref qs2, .ref qs]) (rest := []) (w2 := wMM cI h qx qy ql qs qc n2 t2 xs2 ys2 lf2 sy2 co h2 qx2 qy2 ql2 qs2 qc2 n2 t2 xs2 ys2 lf2 sy2 co2) F (c_X0_copyRow l dC dI cI cZ cY qs2 qs 289 sy2 sy H.size (by decide)) (cwS 2 hts gX0_become_X0_copyRow rfl rfl rfl hd_X0_copyRow ⟨Nat.le_of_ble_eq_true rfl, Nat.le_of_ble_eq_true rfl⟩) hP hK hD hS hA [10, 4] [0, 1, 2, 3, 5, 6, 7, 8, 9, 11] [0, 1, 2, 3, 11, 4, 5, 6, 7, 8, 10, 9] rfl rfl (by decide) rfl (by decide) (by decide) rfl rfl (by decide) rfl hl.1 rfl (lv_room (Nat.le_of_ble_eq_true rfl)) dX0_become_57 ⟨Nat.zero_le _, Nat.zero_le _⟩ (fun H locs hP hD hS => ?_)
  have hP : va_P (dC, dI) vwCl (wMM cI h qx qy ql qs qc n2 t2 xs2 ys2 lf2 sy2 co h2 qx2 qy2 ql2 qs2 qc2 n2 t2 xs2 ys2 lf2 sy2 co2) H := hP
  have hD : va_D A (wMM cI h qx qy ql qs qc n2 t2 xs2 ys2 lf2 sy2 co h2 qx2 qy2 ql2 qs2 qc2 n2 t2 xs2 ys2 lf2 sy2 co2) := hD
  refine lv_aload_n hx hb dX0_become_60 rfl (lv_at hl 1 rfl) ?_
  refine va_get (D := (dC, dI)) (ci := 0) (v := .ref qc2) (C := RX0) (T := TX0) (N := 7) hx hb hts in_X0_become_X0 hown hK hP 6 rfl rfl 6 (by decide) (hts (.fieldLink RX0 24 "MoorTriangles$Mesh" "corners" "[I") fl_X0_become_24) (fun _ h9 => h9) rfl dX0_become_61 ?_
  refine lv_aload_n hx hb dX0_become_64 rfl (lv_at hl 0 rfl) ?_
  refine va_get (D := (dC, dI)) (ci := 0) (v := .ref qc) (C := RX0) (T := TX0) (N := 7) hx hb hts in_X0_become_X0 hown hK hP 0 rfl rfl 6 (by decide) (hts (.fieldLink RX0 24 "MoorTriangles$Mesh" "corners" "[I") fl_X0_become_24) (fun _ h9 => h9) rfl dX0_become_65 ?_
  refine wp_cSv (As := [.ref qc2, .ref qc]) (rest := []) (w2 := wMM cI h qx qy ql qs qc n2 t2 xs2 ys2 lf2 sy2 co2 h2 qx2 qy2 ql2 qs2 qc2 n2 t2 xs2 ys2 lf2 sy2 co2) F (c_X0_copyRow l dC dI cI cZ cY qc2 qc 84 co2 co H.size (by decide)) (cwS 2 hts gX0_become_X0_copyRow rfl rfl rfl hd_X0_copyRow ⟨Nat.le_of_ble_eq_true rfl, Nat.le_of_ble_eq_true rfl⟩) hP hK hD hS hA [11, 5] [0, 1, 2, 3, 4, 6, 7, 8, 9, 10] [0, 1, 2, 3, 4, 11, 5, 6, 7, 8, 9, 10] rfl rfl (by decide) rfl (by decide) (by decide) rfl rfl (by decide) rfl hl.1 rfl (lv_room (Nat.le_of_ble_eq_true rfl)) dX0_become_68 ⟨Nat.zero_le _, Nat.zero_le _⟩ (fun H locs hP hD hS => ?_)
  have hP : va_P (dC, dI) vwCl (wMM cI h qx qy ql qs qc n2 t2 xs2 ys2 lf2 sy2 co2 h2 qx2 qy2 ql2 qs2 qc2 n2 t2 xs2 ys2 lf2 sy2 co2) H := hP
  have hD : va_D A (wMM cI h qx qy ql qs qc n2 t2 xs2 ys2 lf2 sy2 co2 h2 qx2 qy2 ql2 qs2 qc2 n2 t2 xs2 ys2 lf2 sy2 co2) := hD
  exact wr_vret hx hb hr hlocks hP hK hD hS dX0_become_71
