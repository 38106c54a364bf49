theorem hd_X0_setStay : yX0_setStay.cls = RX0 ∧ yX0_setStay.cls ≠ "java/lang/invoke/MethodHandle" ∧ yX0_setStay.cls ≠ "java/lang/invoke/VarHandle" ∧ (parseMethodDescriptor yX0_setStay.desc).map (fun d => d.parameters.length) = some 3 := by decide +kernel
theorem hd_X0_setLefts : yX0_setLefts.cls = RX0 ∧ yX0_setLefts.cls ≠ "java/lang/invoke/MethodHandle" ∧ yX0_setLefts.cls ≠ "java/lang/invoke/VarHandle" ∧ (parseMethodDescriptor yX0_setLefts.desc).map (fun d => d.parameters.length) = some 6 := by decide +kernel
theorem hd_X0_addTriangle : yX0_addTriangle.cls = RX0 ∧ yX0_addTriangle.cls ≠ "java/lang/invoke/MethodHandle" ∧ yX0_addTriangle.cls ≠ "java/lang/invoke/VarHandle" ∧ (parseMethodDescriptor yX0_addTriangle.desc).map (fun d => d.parameters.length) = some 3 := by decide +kernel
theorem hd_X0_removeTriangle : yX0_removeTriangle.cls = RX0 ∧ yX0_removeTriangle.cls ≠ "java/lang/invoke/MethodHandle" ∧ yX0_removeTriangle.cls ≠ "java/lang/invoke/VarHandle" ∧ (parseMethodDescriptor yX0_removeTriangle.desc).map (fun d => d.parameters.length) = some 3 := by decide +kernel
theorem hd_X0_cutTriangle : yX0_cutTriangle.cls = RX0 ∧ yX0_cutTriangle.cls ≠ "java/lang/invoke/MethodHandle" ∧ yX0_cutTriangle.cls ≠ "java/lang/invoke/VarHandle" ∧ (parseMethodDescriptor yX0_cutTriangle.desc).map (fun d => d.parameters.length) = some 4 := by decide +kernel
theorem hd_X0_listTriangle : yX0_listTriangle.cls = RX0 ∧ yX0_listTriangle.cls ≠ "java/lang/invoke/MethodHandle" ∧ yX0_listTriangle.cls ≠ "java/lang/invoke/VarHandle" ∧ (parseMethodDescriptor yX0_listTriangle.desc).map (fun d => d.parameters.length) = some 3 := by decide +kernel
theorem hd_X0_listTriangles : yX0_listTriangles.cls = RX0 ∧ yX0_listTriangles.cls ≠ "java/lang/invoke/MethodHandle" ∧ yX0_listTriangles.cls ≠ "java/lang/invoke/VarHandle" ∧ (parseMethodDescriptor yX0_listTriangles.desc).map (fun d => d.parameters.length) = some 0 := by decide +kernel
theorem hd_X0_turnEdge : yX0_turnEdge.cls = RX0 ∧ yX0_turnEdge.cls ≠ "java/lang/invoke/MethodHandle" ∧ yX0_turnEdge.cls ≠ "java/lang/invoke/VarHandle" ∧ (parseMethodDescriptor yX0_turnEdge.desc).map (fun d => d.parameters.length) = some 2 := by decide +kernel
theorem hd_X0_addCairn : yX0_addCairn.cls = RX0 ∧ yX0_addCairn.cls ≠ "java/lang/invoke/MethodHandle" ∧ yX0_addCairn.cls ≠ "java/lang/invoke/VarHandle" ∧ (parseMethodDescriptor yX0_addCairn.desc).map (fun d => d.parameters.length) = some 2 := by decide +kernel
theorem hd_X0_cutEdge : yX0_cutEdge.cls = RX0 ∧ yX0_cutEdge.cls ≠ "java/lang/invoke/MethodHandle" ∧ yX0_cutEdge.cls ≠ "java/lang/invoke/VarHandle" ∧ (parseMethodDescriptor yX0_cutEdge.desc).map (fun d => d.parameters.length) = some 3 := by decide +kernel
theorem hd_X0_turnFirstUnfairEdge : yX0_turnFirstUnfairEdge.cls = RX0 ∧ yX0_turnFirstUnfairEdge.cls ≠ "java/lang/invoke/MethodHandle" ∧ yX0_turnFirstUnfairEdge.cls ≠ "java/lang/invoke/VarHandle" ∧ (parseMethodDescriptor yX0_turnFirstUnfairEdge.desc).map (fun d => d.parameters.length) = some 0 := by decide +kernel
theorem hd_X0_turnUnfairEdges : yX0_turnUnfairEdges.cls = RX0 ∧ yX0_turnUnfairEdges.cls ≠ "java/lang/invoke/MethodHandle" ∧ yX0_turnUnfairEdges.cls ≠ "java/lang/invoke/VarHandle" ∧ (parseMethodDescriptor yX0_turnUnfairEdges.desc).map (fun d => d.parameters.length) = some 0 := by decide +kernel
theorem hd_X0_insert : yX0_insert.cls = RX0 ∧ yX0_insert.cls ≠ "java/lang/invoke/MethodHandle" ∧ yX0_insert.cls ≠ "java/lang/invoke/VarHandle" ∧ (parseMethodDescriptor yX0_insert.desc).map (fun d => d.parameters.length) = some 2 := by decide +kernel
theorem in_X0_setStay_X0 : ∀ w ∈ wsX00, w ∈ wsX0_setStay := by decide +kernel
theorem fl_X0_setStay_21 : (Cond.fieldLink RX0 21 "MoorTriangles$Mesh" "stays" "[I") ∈ wsX0_setStay := by decide +kernel
set_option maxHeartbeats 4000000 in
set_option maxRecDepth 100000 in
theorem c_X0_setStay (l : Launch) (dC : Nat → ClassId) (dI : Nat → Nat → Nat) (cI cZ cY : ClassId) (h qx qy ql qs qc : Nat) (n t : Nat) (xs ys lf sy co : Nat → Int32) (a : Int32) (b : Int32) (z : Int32) (sz : Nat) : Met l yX0_setStay wsX0_setStay ({ frames := 1, cells := 0, slots := 0, locals := 21 }) (va_Pc [.ref h, .int a, .int b, .int z] (wrP (dC, dI) (gTY cI cZ cY) (wM cI h qx qy ql qs qc n t xs ys lf sy co) sz)) (wrQv (dC, dI) (gTY cI cZ cY) (wM cI h qx qy ql qs qc n t xs ys lf (m_setSt n sy a b z) co) (va_A (wM cI h qx qy ql qs qc n t xs ys lf sy co) sz)) 0 0 (va_A (wM cI h qx qy ql qs qc n t xs ys lf sy co) sz) := by
  refine wr_start (cc := cX0_setStay) (maxL := 4) (ret := none) (Q0 := wrQv (dC, dI) (gTY cI cZ cY) (wM cI h qx qy ql qs qc n t xs ys lf (m_setSt n sy a b z) co)) RX0 (by decide) rfl rfl (Nat.le_of_ble_eq_true rfl) ?_
  intro p e s m below meth c ⟨hx, hb, hr, hml, hown, hts, hlocks, hin⟩ hP hK A hD hA hS ls hl
  have F : CallFix p m c cX0_setStay 4 s ([.ref h, .int a, .int b, .int z] : List Value).toArray wsX0_setStay RX0 := ⟨hx, hb, hml, hown, hts⟩
  have hl : lv_has ls 4 [(0, .ref h), (1, .int a), (2, .int b), (3, .int z)] := hl
  refine lv_aload_n hx hb dX0_setStay_0 rfl (lv_at hl 0 rfl) ?_
  refine lv_iload_n hx hb dX0_setStay_1 rfl (lv_at hl 1 rfl) ?_
  refine rd_cVi (As := [.int a]) (rest := []) F (c_X0_isCairn l dC dI cI cZ cY h qx qy ql qs qc n t xs ys lf sy co a) (cwV 1 hts gX0_setStay_X0_isCairn rfl rfl rfl hd_X0_isCairn ⟨Nat.le_of_ble_eq_true rfl, Nat.le_of_ble_eq_true rfl⟩) hP hK (va_recv hK hP (ci := 0) (q0 := 0) rfl rfl) rfl hl.1 rfl (lv_room (Nat.le_of_ble_eq_true rfl)) dX0_setStay_2 ⟨Nat.zero_le _, Nat.zero_le _⟩ ?_
  refine lv_if_eqB (tgt := 56) hx hb dX0_setStay_5 (by decide) (fun c_1 => ?_) (fun c_1 => ?_)
  · have e_sy : (m_setSt n sy a b z : Nat → Int32) = sy := by first | contradiction | rfl | (simp only [m_setSt, m_01, c_1]; done) | (simp only [m_setSt, m_01, c_1]; rfl) | (simp [m_setSt, m_01, c_1]; done)
    have hP : va_P (dC, dI) vwCl (wM cI h qx qy ql qs qc n t xs ys lf (m_setSt n sy a b z) co) s.heap := by rw [e_sy]; exact hP
    have hD : va_D A (wM cI h qx qy ql qs qc n t xs ys lf (m_setSt n sy a b z) co) := by rw [e_sy]; exact hD
    exact wr_vret hx hb hr hlocks hP hK hD hS dX0_setStay_56
  · refine lv_aload_n hx hb dX0_setStay_8 rfl (lv_at hl 0 rfl) ?_
    refine lv_iload_n hx hb dX0_setStay_9 rfl (lv_at hl 2 rfl) ?_
    refine rd_cVi (As := [.int b]) (rest := []) F (c_X0_isCairn l dC dI cI cZ cY h qx qy ql qs qc n t xs ys lf sy co b) (cwV 1 hts gX0_setStay_X0_isCairn rfl rfl rfl hd_X0_isCairn ⟨Nat.le_of_ble_eq_true rfl, Nat.le_of_ble_eq_true rfl⟩) hP hK (va_recv hK hP (ci := 0) (q0 := 0) rfl rfl) rfl hl.1 rfl (lv_room (Nat.le_of_ble_eq_true rfl)) dX0_setStay_10 ⟨Nat.zero_le _, Nat.zero_le _⟩ ?_
    refine lv_if_eqB (tgt := 56) hx hb dX0_setStay_13 (by decide) (fun c_2 => ?_) (fun c_2 => ?_)
    · have e_sy : (m_setSt n sy a b z : Nat → Int32) = sy := by first | contradiction | rfl | (simp only [m_setSt, m_01, c_1, c_2]; done) | (simp only [m_setSt, m_01, c_1, c_2]; rfl) | (simp [m_setSt, m_01, c_1, c_2]; done)
      have hP : va_P (dC, dI) vwCl (wM cI h qx qy ql qs qc n t xs ys lf (m_setSt n sy a b z) co) s.heap := by rw [e_sy]; exact hP
      have hD : va_D A (wM cI h qx qy ql qs qc n t xs ys lf (m_setSt n sy a b z) co) := by rw [e_sy]; exact hD
      exact wr_vret hx hb hr hlocks hP hK hD hS dX0_setStay_56
    · refine lv_aload_n hx hb dX0_setStay_16 rfl (lv_at hl 0 rfl) ?_
      refine va_get (D := (dC, dI)) (ci := 0) (v := .ref qs) (C := RX0) (T := TX0) (N := 7) hx hb hts in_X0_setStay_X0 hown hK hP 0 rfl rfl 5 (by decide) (hts (.fieldLink RX0 21 "MoorTriangles$Mesh" "stays" "[I") fl_X0_setStay_21) (fun _ h9 => h9) rfl dX0_setStay_17 ?_
      refine lv_iload_n hx hb dX0_setStay_20 rfl (lv_at hl 1 rfl) ?_
      refine lv_bipush (v := 17) hx hb dX0_setStay_21 (by decide) ?_
      refine lv_imul hx hb dX0_setStay_23 ?_
      refine lv_iload_n hx hb dX0_setStay_24 rfl (lv_at hl 2 rfl) ?_
      refine lv_iadd hx hb dX0_setStay_25 ?_
      refine lv_iload_n hx hb dX0_setStay_26 rfl (lv_at hl 3 rfl) ?_
      refine lv_if_eq (tgt := 34) hx hb dX0_setStay_27 (by decide) (fun c_3 => ?_) (fun c_3 => ?_)
      · refine lv_iconst (v := 0) hx hb dX0_setStay_34 (by decide) ?_
        refine va_iast (D := (dC, dI)) hx hb hK hP hD hS 4 0 rfl rfl (m_isCairn_in c_1 c_2) dX0_setStay_35 (fun H locs hP hD hS => ?_)
        have hP : va_P (dC, dI) vwCl (wM cI h qx qy ql qs qc n t xs ys lf (upd sy ((a * 17) + b).toNatClampNeg 0) co) H := hP
        have hD : va_D A (wM cI h qx qy ql qs qc n t xs ys lf (upd sy ((a * 17) + b).toNatClampNeg 0) co) := hD
        refine lv_aload_n hx hb dX0_setStay_36 rfl (lv_at hl 0 rfl) ?_
        refine va_get (D := (dC, dI)) (ci := 0) (v := .ref qs) (C := RX0) (T := TX0) (N := 7) hx hb hts in_X0_setStay_X0 hown hK hP 0 rfl rfl 5 (by decide) (hts (.fieldLink RX0 21 "MoorTriangles$Mesh" "stays" "[I") fl_X0_setStay_21) (fun _ h9 => h9) rfl dX0_setStay_37 ?_
        refine lv_iload_n hx hb dX0_setStay_40 rfl (lv_at hl 2 rfl) ?_
        refine lv_bipush (v := 17) hx hb dX0_setStay_41 (by decide) ?_
        refine lv_imul hx hb dX0_setStay_43 ?_
        refine lv_iload_n hx hb dX0_setStay_44 rfl (lv_at hl 1 rfl) ?_
        refine lv_iadd hx hb dX0_setStay_45 ?_
        refine lv_iload_n hx hb dX0_setStay_46 rfl (lv_at hl 3 rfl) ?_
        refine lv_if_eq (tgt := 54) hx hb dX0_setStay_47 (by decide) (fun c_4 => ?_) (fun c_4 => ?_)
        · refine lv_iconst (v := 0) hx hb dX0_setStay_54 (by decide) ?_
          refine va_iast (D := (dC, dI)) hx hb hK hP hD hS 4 0 rfl rfl (m_isCairn_in c_2 c_1) dX0_setStay_55 (fun H locs hP hD hS => ?_)
          have hP : va_P (dC, dI) vwCl (wM cI h qx qy ql qs qc n t xs ys lf (upd (upd sy ((a * 17) + b).toNatClampNeg 0) ((b * 17) + a).toNatClampNeg 0) co) H := hP
          have hD : va_D A (wM cI h qx qy ql qs qc n t xs ys lf (upd (upd sy ((a * 17) + b).toNatClampNeg 0) ((b * 17) + a).toNatClampNeg 0) co) := hD
          have e_sy : (m_setSt n sy a b z : Nat → Int32) = (upd (upd sy ((a * 17) + b).toNatClampNeg 0) ((b * 17) + a).toNatClampNeg 0) := by first | contradiction | rfl | (simp only [m_setSt, m_01, c_1, c_2, c_3, c_4]; done) | (simp only [m_setSt, m_01, c_1, c_2, c_3, c_4]; rfl) | (simp [m_setSt, m_01, c_1, c_2, c_3, c_4]; done)
          have hP : va_P (dC, dI) vwCl (wM cI h qx qy ql qs qc n t xs ys lf (m_setSt n sy a b z) co) H := by rw [e_sy]; exact hP
          have hD : va_D A (wM cI h qx qy ql qs qc n t xs ys lf (m_setSt n sy a b z) co) := by rw [e_sy]; exact hD
          exact wr_vret hx hb hr hlocks hP hK hD hS dX0_setStay_56
        · refine lv_iconst (v := 1) hx hb dX0_setStay_50 (by decide) ?_
          refine lv_goto (tgt := 55) hx hb dX0_setStay_51 (by decide) ?_
          refine va_iast (D := (dC, dI)) hx hb hK hP hD hS 4 0 rfl rfl (m_isCairn_in c_2 c_1) dX0_setStay_55 (fun H locs hP hD hS => ?_)
          have hP : va_P (dC, dI) vwCl (wM cI h qx qy ql qs qc n t xs ys lf (upd (upd sy ((a * 17) + b).toNatClampNeg 0) ((b * 17) + a).toNatClampNeg 1) co) H := hP
          have hD : va_D A (wM cI h qx qy ql qs qc n t xs ys lf (upd (upd sy ((a * 17) + b).toNatClampNeg 0) ((b * 17) + a).toNatClampNeg 1) co) := hD
          have e_sy : (m_setSt n sy a b z : Nat → Int32) = (upd (upd sy ((a * 17) + b).toNatClampNeg 0) ((b * 17) + a).toNatClampNeg 1) := by first | contradiction | rfl | (simp only [m_setSt, m_01, c_1, c_2, c_3, c_4]; done) | (simp only [m_setSt, m_01, c_1, c_2, c_3, c_4]; rfl) | (simp [m_setSt, m_01, c_1, c_2, c_3, c_4]; done)
          have hP : va_P (dC, dI) vwCl (wM cI h qx qy ql qs qc n t xs ys lf (m_setSt n sy a b z) co) H := by rw [e_sy]; exact hP
          have hD : va_D A (wM cI h qx qy ql qs qc n t xs ys lf (m_setSt n sy a b z) co) := by rw [e_sy]; exact hD
          exact wr_vret hx hb hr hlocks hP hK hD hS dX0_setStay_56
      · refine lv_iconst (v := 1) hx hb dX0_setStay_30 (by decide) ?_
        refine lv_goto (tgt := 35) hx hb dX0_setStay_31 (by decide) ?_
        refine va_iast (D := (dC, dI)) hx hb hK hP hD hS 4 0 rfl rfl (m_isCairn_in c_1 c_2) dX0_setStay_35 (fun H locs hP hD hS => ?_)
        have hP : va_P (dC, dI) vwCl (wM cI h qx qy ql qs qc n t xs ys lf (upd sy ((a * 17) + b).toNatClampNeg 1) co) H := hP
        have hD : va_D A (wM cI h qx qy ql qs qc n t xs ys lf (upd sy ((a * 17) + b).toNatClampNeg 1) co) := hD
        refine lv_aload_n hx hb dX0_setStay_36 rfl (lv_at hl 0 rfl) ?_
        refine va_get (D := (dC, dI)) (ci := 0) (v := .ref qs) (C := RX0) (T := TX0) (N := 7) hx hb hts in_X0_setStay_X0 hown hK hP 0 rfl rfl 5 (by decide) (hts (.fieldLink RX0 21 "MoorTriangles$Mesh" "stays" "[I") fl_X0_setStay_21) (fun _ h9 => h9) rfl dX0_setStay_37 ?_
        refine lv_iload_n hx hb dX0_setStay_40 rfl (lv_at hl 2 rfl) ?_
        refine lv_bipush (v := 17) hx hb dX0_setStay_41 (by decide) ?_
        refine lv_imul hx hb dX0_setStay_43 ?_
        refine lv_iload_n hx hb dX0_setStay_44 rfl (lv_at hl 1 rfl) ?_
        refine lv_iadd hx hb dX0_setStay_45 ?_
        refine lv_iload_n hx hb dX0_setStay_46 rfl (lv_at hl 3 rfl) ?_
        refine lv_if_eq (tgt := 54) hx hb dX0_setStay_47 (by decide) (fun c_5 => ?_) (fun c_5 => ?_)
        · refine lv_iconst (v := 0) hx hb dX0_setStay_54 (by decide) ?_
          refine va_iast (D := (dC, dI)) hx hb hK hP hD hS 4 0 rfl rfl (m_isCairn_in c_2 c_1) dX0_setStay_55 (fun H locs hP hD hS => ?_)
          have hP : va_P (dC, dI) vwCl (wM cI h qx qy ql qs qc n t xs ys lf (upd (upd sy ((a * 17) + b).toNatClampNeg 1) ((b * 17) + a).toNatClampNeg 0) co) H := hP
          have hD : va_D A (wM cI h qx qy ql qs qc n t xs ys lf (upd (upd sy ((a * 17) + b).toNatClampNeg 1) ((b * 17) + a).toNatClampNeg 0) co) := hD
          have e_sy : (m_setSt n sy a b z : Nat → Int32) = (upd (upd sy ((a * 17) + b).toNatClampNeg 1) ((b * 17) + a).toNatClampNeg 0) := by first | contradiction | rfl | (simp only [m_setSt, m_01, c_1, c_2, c_3, c_5]; done) | (simp only [m_setSt, m_01, c_1, c_2, c_3, c_5]; rfl) | (simp [m_setSt, m_01, c_1, c_2, c_3, c_5]; done)
          have hP : va_P (dC, dI) vwCl (wM cI h qx qy ql qs qc n t xs ys lf (m_setSt n sy a b z) co) H := by rw [e_sy]; exact hP
          have hD : va_D A (wM cI h qx qy ql qs qc n t xs ys lf (m_setSt n sy a b z) co) := by rw [e_sy]; exact hD
          exact wr_vret hx hb hr hlocks hP hK hD hS dX0_setStay_56
        · refine lv_iconst (v := 1) hx hb dX0_setStay_50 (by decide) ?_
          refine lv_goto (tgt := 55) hx hb dX0_setStay_51 (by decide) ?_
          refine va_iast (D := (dC, dI)) hx hb hK hP hD hS 4 0 rfl rfl (m_isCairn_in c_2 c_1) dX0_setStay_55 (fun H locs hP hD hS => ?_)
          have hP : va_P (dC, dI) vwCl (wM cI h qx qy ql qs qc n t xs ys lf (upd (upd sy ((a * 17) + b).toNatClampNeg 1) ((b * 17) + a).toNatClampNeg 1) co) H := hP
          have hD : va_D A (wM cI h qx qy ql qs qc n t xs ys lf (upd (upd sy ((a * 17) + b).toNatClampNeg 1) ((b * 17) + a).toNatClampNeg 1) co) := hD
          have e_sy : (m_setSt n sy a b z : Nat → Int32) = (upd (upd sy ((a * 17) + b).toNatClampNeg 1) ((b * 17) + a).toNatClampNeg 1) := by first | contradiction | rfl | (simp only [m_setSt, m_01, c_1, c_2, c_3, c_5]; done) | (simp only [m_setSt, m_01, c_1, c_2, c_3, c_5]; rfl) | (simp [m_setSt, m_01, c_1, c_2, c_3, c_5]; done)
          have hP : va_P (dC, dI) vwCl (wM cI h qx qy ql qs qc n t xs ys lf (m_setSt n sy a b z) co) H := by rw [e_sy]; exact hP
          have hD : va_D A (wM cI h qx qy ql qs qc n t xs ys lf (m_setSt n sy a b z) co) := by rw [e_sy]; exact hD
          exact wr_vret hx hb hr hlocks hP hK hD hS dX0_setStay_56
theorem in_X0_setLefts_X0 : ∀ w ∈ wsX00, w ∈ wsX0_setLefts := by decide +kernel
theorem fl_X0_setLefts_18 : (Cond.fieldLink RX0 18 "MoorTriangles$Mesh" "lefts" "[I") ∈ wsX0_setLefts := by decide +kernel
set_option maxHeartbeats 4000000 in
set_option maxRecDepth 100000 in
theorem c_X0_setLefts (l : Launch) (dC : Nat → ClassId) (dI : Nat → Nat → Nat) (cI cZ cY : ClassId) (h qx qy ql qs qc : Nat) (n t : Nat) (xs ys lf sy co : Nat → Int32) (a : Int32) (b : Int32) (k : Int32) (x : Int32) (y : Int32) (z : Int32) (sz : Nat) : Met l yX0_setLefts wsX0_setLefts ({ frames := 1, cells := 0, slots := 0, locals := 21 }) (va_Pc [.ref h, .int a, .int b, .int k, .int x, .int y, .int z] (wrP (dC, dI) (gTY cI cZ cY) (wM cI h qx qy ql qs qc n t xs ys lf sy co) sz)) (wrQv (dC, dI) (gTY cI cZ cY) (wM cI h qx qy ql qs qc n t xs ys (m_setL n lf a b k x y z) sy co) (va_A (wM cI h qx qy ql qs qc n t xs ys lf sy co) sz)) 0 0 (va_A (wM cI h qx qy ql qs qc n t xs ys lf sy co) sz) := by
  refine wr_start (cc := cX0_setLefts) (maxL := 7) (ret := none) (Q0 := wrQv (dC, dI) (gTY cI cZ cY) (wM cI h qx qy ql qs qc n t xs ys (m_setL n lf a b k x y z) sy co)) RX0 (by decide) rfl rfl (Nat.le_of_ble_eq_true rfl) ?_
  intro p e s m below meth c ⟨hx, hb, hr, hml, hown, hts, hlocks, hin⟩ hP hK A hD hA hS ls hl
  have F : CallFix p m c cX0_setLefts 7 s ([.ref h, .int a, .int b, .int k, .int x, .int y, .int z] : List Value).toArray wsX0_setLefts RX0 := ⟨hx, hb, hml, hown, hts⟩
  have hl : lv_has ls 7 [(0, .ref h), (1, .int a), (2, .int b), (3, .int k), (4, .int x), (5, .int y), (6, .int z)] := hl
  refine lv_aload_n hx hb dX0_setLefts_0 rfl (lv_at hl 0 rfl) ?_
  refine lv_iload_n hx hb dX0_setLefts_1 rfl (lv_at hl 1 rfl) ?_
  refine rd_cVi (As := [.int a]) (rest := []) F (c_X0_isCairn l dC dI cI cZ cY h qx qy ql qs qc n t xs ys lf sy co a) (cwV 1 hts gX0_setLefts_X0_isCairn rfl rfl rfl hd_X0_isCairn ⟨Nat.le_of_ble_eq_true rfl, Nat.le_of_ble_eq_true rfl⟩) hP hK (va_recv hK hP (ci := 0) (q0 := 0) rfl rfl) rfl hl.1 rfl (lv_room (Nat.le_of_ble_eq_true rfl)) dX0_setLefts_2 ⟨Nat.zero_le _, Nat.zero_le _⟩ ?_
  refine lv_if_eqB (tgt := 63) hx hb dX0_setLefts_5 (by decide) (fun c_1 => ?_) (fun c_1 => ?_)
  · have e_lf : (m_setL n lf a b k x y z : Nat → Int32) = lf := by first | contradiction | rfl | (simp only [m_setL, c_1]; done) | (simp only [m_setL, c_1]; rfl) | (simp [m_setL, c_1]; done)
    have hP : va_P (dC, dI) vwCl (wM cI h qx qy ql qs qc n t xs ys (m_setL n lf a b k x y z) sy co) s.heap := by rw [e_lf]; exact hP
    have hD : va_D A (wM cI h qx qy ql qs qc n t xs ys (m_setL n lf a b k x y z) sy co) := by rw [e_lf]; exact hD
    exact wr_vret hx hb hr hlocks hP hK hD hS dX0_setLefts_63
  · refine lv_aload_n hx hb dX0_setLefts_8 rfl (lv_at hl 0 rfl) ?_
    refine lv_iload_n hx hb dX0_setLefts_9 rfl (lv_at hl 2 rfl) ?_
    refine rd_cVi (As := [.int b]) (rest := []) F (c_X0_isCairn l dC dI cI cZ cY h qx qy ql qs qc n t xs ys lf sy co b) (cwV 1 hts gX0_setLefts_X0_isCairn rfl rfl rfl hd_X0_isCairn ⟨Nat.le_of_ble_eq_true rfl, Nat.le_of_ble_eq_true rfl⟩) hP hK (va_recv hK hP (ci := 0) (q0 := 0) rfl rfl) rfl hl.1 rfl (lv_room (Nat.le_of_ble_eq_true rfl)) dX0_setLefts_10 ⟨Nat.zero_le _, Nat.zero_le _⟩ ?_
    refine lv_if_eqB (tgt := 63) hx hb dX0_setLefts_13 (by decide) (fun c_2 => ?_) (fun c_2 => ?_)
    · have e_lf : (m_setL n lf a b k x y z : Nat → Int32) = lf := by first | contradiction | rfl | (simp only [m_setL, c_1, c_2]; done) | (simp only [m_setL, c_1, c_2]; rfl) | (simp [m_setL, c_1, c_2]; done)
      have hP : va_P (dC, dI) vwCl (wM cI h qx qy ql qs qc n t xs ys (m_setL n lf a b k x y z) sy co) s.heap := by rw [e_lf]; exact hP
      have hD : va_D A (wM cI h qx qy ql qs qc n t xs ys (m_setL n lf a b k x y z) sy co) := by rw [e_lf]; exact hD
      exact wr_vret hx hb hr hlocks hP hK hD hS dX0_setLefts_63
    · refine lv_aload_n hx hb dX0_setLefts_16 rfl (lv_at hl 0 rfl) ?_
      refine lv_iload_n hx hb dX0_setLefts_17 rfl (lv_at hl 3 rfl) ?_
      refine rd_cVi (As := [.int k]) (rest := []) F (c_X0_isCairn l dC dI cI cZ cY h qx qy ql qs qc n t xs ys lf sy co k) (cwV 1 hts gX0_setLefts_X0_isCairn rfl rfl rfl hd_X0_isCairn ⟨Nat.le_of_ble_eq_true rfl, Nat.le_of_ble_eq_true rfl⟩) hP hK (va_recv hK hP (ci := 0) (q0 := 0) rfl rfl) rfl hl.1 rfl (lv_room (Nat.le_of_ble_eq_true rfl)) dX0_setLefts_18 ⟨Nat.zero_le _, Nat.zero_le _⟩ ?_
      refine lv_if_eqB (tgt := 63) hx hb dX0_setLefts_21 (by decide) (fun c_3 => ?_) (fun c_3 => ?_)
      · have e_lf : (m_setL n lf a b k x y z : Nat → Int32) = lf := by first | contradiction | rfl | (simp only [m_setL, c_1, c_2, c_3]; done) | (simp only [m_setL, c_1, c_2, c_3]; rfl) | (simp [m_setL, c_1, c_2, c_3]; done)
        have hP : va_P (dC, dI) vwCl (wM cI h qx qy ql qs qc n t xs ys (m_setL n lf a b k x y z) sy co) s.heap := by rw [e_lf]; exact hP
        have hD : va_D A (wM cI h qx qy ql qs qc n t xs ys (m_setL n lf a b k x y z) sy co) := by rw [e_lf]; exact hD
        exact wr_vret hx hb hr hlocks hP hK hD hS dX0_setLefts_63
      · refine lv_aload_n hx hb dX0_setLefts_24 rfl (lv_at hl 0 rfl) ?_
        refine va_get (D := (dC, dI)) (ci := 0) (v := .ref ql) (C := RX0) (T := TX0) (N := 7) hx hb hts in_X0_setLefts_X0 hown hK hP 0 rfl rfl 4 (by decide) (hts (.fieldLink RX0 18 "MoorTriangles$Mesh" "lefts" "[I") fl_X0_setLefts_18) (fun _ h9 => h9) rfl dX0_setLefts_25 ?_
        refine lv_iload_n hx hb dX0_setLefts_28 rfl (lv_at hl 1 rfl) ?_
        refine lv_bipush (v := 17) hx hb dX0_setLefts_29 (by decide) ?_
        refine lv_imul hx hb dX0_setLefts_31 ?_
        refine lv_iload_n hx hb dX0_setLefts_32 rfl (lv_at hl 2 rfl) ?_
        refine lv_iadd hx hb dX0_setLefts_33 ?_
        refine lv_iload hx hb dX0_setLefts_34 (lv_at hl 4 rfl) ?_
        refine va_iast (D := (dC, dI)) hx hb hK hP hD hS 3 0 rfl rfl (m_isCairn_in c_1 c_2) dX0_setLefts_36 (fun H locs hP hD hS => ?_)
        have hP : va_P (dC, dI) vwCl (wM cI h qx qy ql qs qc n t xs ys (upd lf ((a * 17) + b).toNatClampNeg x) sy co) H := hP
        have hD : va_D A (wM cI h qx qy ql qs qc n t xs ys (upd lf ((a * 17) + b).toNatClampNeg x) sy co) := hD
        refine lv_aload_n hx hb dX0_setLefts_37 rfl (lv_at hl 0 rfl) ?_
        refine va_get (D := (dC, dI)) (ci := 0) (v := .ref ql) (C := RX0) (T := TX0) (N := 7) hx hb hts in_X0_setLefts_X0 hown hK hP 0 rfl rfl 4 (by decide) (hts (.fieldLink RX0 18 "MoorTriangles$Mesh" "lefts" "[I") fl_X0_setLefts_18) (fun _ h9 => h9) rfl dX0_setLefts_38 ?_
        refine lv_iload_n hx hb dX0_setLefts_41 rfl (lv_at hl 2 rfl) ?_
        refine lv_bipush (v := 17) hx hb dX0_setLefts_42 (by decide) ?_
        refine lv_imul hx hb dX0_setLefts_44 ?_
        refine lv_iload_n hx hb dX0_setLefts_45 rfl (lv_at hl 3 rfl) ?_
        refine lv_iadd hx hb dX0_setLefts_46 ?_
        refine lv_iload hx hb dX0_setLefts_47 (lv_at hl 5 rfl) ?_
        refine va_iast (D := (dC, dI)) hx hb hK hP hD hS 3 0 rfl rfl (m_isCairn_in c_2 c_3) dX0_setLefts_49 (fun H locs hP hD hS => ?_)
        have hP : va_P (dC, dI) vwCl (wM cI h qx qy ql qs qc n t xs ys (upd (upd lf ((a * 17) + b).toNatClampNeg x) ((b * 17) + k).toNatClampNeg y) sy co) H := hP
        have hD : va_D A (wM cI h qx qy ql qs qc n t xs ys (upd (upd lf ((a * 17) + b).toNatClampNeg x) ((b * 17) + k).toNatClampNeg y) sy co) := hD
        refine lv_aload_n hx hb dX0_setLefts_50 rfl (lv_at hl 0 rfl) ?_
        refine va_get (D := (dC, dI)) (ci := 0) (v := .ref ql) (C := RX0) (T := TX0) (N := 7) hx hb hts in_X0_setLefts_X0 hown hK hP 0 rfl rfl 4 (by decide) (hts (.fieldLink RX0 18 "MoorTriangles$Mesh" "lefts" "[I") fl_X0_setLefts_18) (fun _ h9 => h9) rfl dX0_setLefts_51 ?_
        refine lv_iload_n hx hb dX0_setLefts_54 rfl (lv_at hl 3 rfl) ?_
        refine lv_bipush (v := 17) hx hb dX0_setLefts_55 (by decide) ?_
        refine lv_imul hx hb dX0_setLefts_57 ?_
        refine lv_iload_n hx hb dX0_setLefts_58 rfl (lv_at hl 1 rfl) ?_
        refine lv_iadd hx hb dX0_setLefts_59 ?_
        refine lv_iload hx hb dX0_setLefts_60 (lv_at hl 6 rfl) ?_
        refine va_iast (D := (dC, dI)) hx hb hK hP hD hS 3 0 rfl rfl (m_isCairn_in c_3 c_1) dX0_setLefts_62 (fun H locs hP hD hS => ?_)
        have hP : va_P (dC, dI) vwCl (wM cI h qx qy ql qs qc n t xs ys (upd (upd (upd lf ((a * 17) + b).toNatClampNeg x) ((b * 17) + k).toNatClampNeg y) ((k * 17) + a).toNatClampNeg z) sy co) H := hP
        have hD : va_D A (wM cI h qx qy ql qs qc n t xs ys (upd (upd (upd lf ((a * 17) + b).toNatClampNeg x) ((b * 17) + k).toNatClampNeg y) ((k * 17) + a).toNatClampNeg z) sy co) := hD
        have e_lf : (m_setL n lf a b k x y z : Nat → Int32) = (upd (upd (upd lf ((a * 17) + b).toNatClampNeg x) ((b * 17) + k).toNatClampNeg y) ((k * 17) + a).toNatClampNeg z) := by first | contradiction | rfl | (simp only [m_setL, c_1, c_2, c_3]; done) | (simp only [m_setL, c_1, c_2, c_3]; rfl) | (simp [m_setL, c_1, c_2, c_3]; done)
        have hP : va_P (dC, dI) vwCl (wM cI h qx qy ql qs qc n t xs ys (m_setL n lf a b k x y z) sy co) H := by rw [e_lf]; exact hP
        have hD : va_D A (wM cI h qx qy ql qs qc n t xs ys (m_setL n lf a b k x y z) sy co) := by rw [e_lf]; exact hD
        exact wr_vret hx hb hr hlocks hP hK hD hS dX0_setLefts_63
set_option maxHeartbeats 4000000 in
set_option maxRecDepth 100000 in
theorem c_X0_addTriangle (l : Launch) (dC : Nat → ClassId) (dI : Nat → Nat → Nat) (cI cZ cY : ClassId) (h qx qy ql qs qc : Nat) (n t : Nat) (xs ys lf sy co : Nat → Int32) (a : Int32) (b : Int32) (k : Int32) (sz : Nat) : Met l yX0_addTriangle wsX0_addTriangle ({ frames := 2, cells := 0, slots := 0, locals := 47 }) (va_Pc [.ref h, .int a, .int b, .int k] (wrP (dC, dI) (gTY cI cZ cY) (wM cI h qx qy ql qs qc n t xs ys lf sy co) sz)) (wrQv (dC, dI) (gTY cI cZ cY) (wM cI h qx qy ql qs qc n t xs ys (m_addT n xs ys lf a b k) sy co) (va_A (wM cI h qx qy ql qs qc n t xs ys lf sy co) sz)) 0 0 (va_A (wM cI h qx qy ql qs qc n t xs ys lf sy co) sz) := by
  refine wr_start (cc := cX0_addTriangle) (maxL := 4) (ret := none) (Q0 := wrQv (dC, dI) (gTY cI cZ cY) (wM cI h qx qy ql qs qc n t xs ys (m_addT n xs ys lf a b k) sy co)) RX0 (by decide) rfl rfl (Nat.le_of_ble_eq_true rfl) ?_
  intro p e s m below meth c ⟨hx, hb, hr, hml, hown, hts, hlocks, hin⟩ hP hK A hD hA hS ls hl
  have F : CallFix p m c cX0_addTriangle 4 s ([.ref h, .int a, .int b, .int k] : List Value).toArray wsX0_addTriangle RX0 := ⟨hx, hb, hml, hown, hts⟩
  have hl : lv_has ls 4 [(0, .ref h), (1, .int a), (2, .int b), (3, .int k)] := hl
  refine lv_aload_n hx hb dX0_addTriangle_0 rfl (lv_at hl 0 rfl) ?_
  refine lv_iload_n hx hb dX0_addTriangle_1 rfl (lv_at hl 1 rfl) ?_
  refine lv_iload_n hx hb dX0_addTriangle_2 rfl (lv_at hl 2 rfl) ?_
  refine lv_aload_n hx hb dX0_addTriangle_3 rfl (lv_at hl 0 rfl) ?_
  refine lv_iload_n hx hb dX0_addTriangle_4 rfl (lv_at hl 3 rfl) ?_
  refine rd_cVi (As := [.int k]) (rest := [.int b, .int a, .ref h]) F (c_X0_xOf l dC dI cI cZ cY h qx qy ql qs qc n t xs ys lf sy co k) (cwV 1 hts gX0_addTriangle_X0_xOf rfl rfl rfl hd_X0_xOf ⟨Nat.le_of_ble_eq_true rfl, Nat.le_of_ble_eq_true rfl⟩) hP hK (va_recv hK hP (ci := 0) (q0 := 0) rfl rfl) rfl hl.1 rfl (lv_room (Nat.le_of_ble_eq_true rfl)) dX0_addTriangle_5 ⟨Nat.zero_le _, Nat.zero_le _⟩ ?_
  refine lv_aload_n hx hb dX0_addTriangle_8 rfl (lv_at hl 0 rfl) ?_
  refine lv_iload_n hx hb dX0_addTriangle_9 rfl (lv_at hl 3 rfl) ?_
  refine rd_cVi (As := [.int k]) (rest := [.int (m_xOf xs k), .int b, .int a, .ref h]) F (c_X0_yOf l dC dI cI cZ cY h qx qy ql qs qc n t xs ys lf sy co k) (cwV 1 hts gX0_addTriangle_X0_yOf rfl rfl rfl hd_X0_yOf ⟨Nat.le_of_ble_eq_true rfl, Nat.le_of_ble_eq_true rfl⟩) hP hK (va_recv hK hP (ci := 0) (q0 := 0) rfl rfl) rfl hl.1 rfl (lv_room (Nat.le_of_ble_eq_true rfl)) dX0_addTriangle_10 ⟨Nat.zero_le _, Nat.zero_le _⟩ ?_
  refine rd_cVi (As := [.int a, .int b, .int (m_xOf xs k), .int (m_xOf ys k)]) (rest := []) F (c_X0_turn l dC dI cI cZ cY h qx qy ql qs qc n t xs ys lf sy co a b (m_xOf xs k) (m_xOf ys k)) (cwV 4 hts gX0_addTriangle_X0_turn rfl rfl rfl hd_X0_turn ⟨Nat.le_of_ble_eq_true rfl, Nat.le_of_ble_eq_true rfl⟩) hP hK (va_recv hK hP (ci := 0) (q0 := 0) rfl rfl) rfl hl.1 rfl (lv_room (Nat.le_of_ble_eq_true rfl)) dX0_addTriangle_13 ⟨Nat.zero_le _, Nat.zero_le _⟩ ?_
  refine lv_if_le (tgt := 32) hx hb dX0_addTriangle_16 (by decide) (fun c_1 => ?_) (fun c_1 => ?_)
  · refine lv_aload_n hx hb dX0_addTriangle_32 rfl (lv_at hl 0 rfl) ?_
    refine lv_iload_n hx hb dX0_addTriangle_33 rfl (lv_at hl 1 rfl) ?_
    refine lv_iload_n hx hb dX0_addTriangle_34 rfl (lv_at hl 3 rfl) ?_
    refine lv_iload_n hx hb dX0_addTriangle_35 rfl (lv_at hl 2 rfl) ?_
    refine lv_iload_n hx hb dX0_addTriangle_36 rfl (lv_at hl 2 rfl) ?_
    refine lv_iload_n hx hb dX0_addTriangle_37 rfl (lv_at hl 1 rfl) ?_
    refine lv_iload_n hx hb dX0_addTriangle_38 rfl (lv_at hl 3 rfl) ?_
    refine wr_cVv (As := [.int a, .int k, .int b, .int b, .int a, .int k]) (rest := []) (wr := []) F (c_X0_setLefts l dC dI cI cZ cY h qx qy ql qs qc n t xs ys lf sy co a k b b a k s.heap.size) (cwV 6 hts gX0_addTriangle_X0_setLefts rfl rfl rfl hd_X0_setLefts ⟨Nat.le_of_ble_eq_true rfl, Nat.le_of_ble_eq_true rfl⟩) hP hK hD hS hA [0, 1, 2, 3, 4, 5] [] rfl rfl (by decide) rfl (by decide) (by decide) (va_recv hK hP (ci := 0) (q0 := 0) rfl rfl) rfl hl.1 rfl (lv_room (Nat.le_of_ble_eq_true rfl)) dX0_addTriangle_39 ⟨Nat.zero_le _, Nat.zero_le _⟩ (fun H locs hP hD hS => ?_)
    have hP : va_P (dC, dI) vwCl (wM cI h qx qy ql qs qc n t xs ys (m_setL n lf a k b b a k) sy co) H := hP
    have hD : va_D A (wM cI h qx qy ql qs qc n t xs ys (m_setL n lf a k b b a k) sy co) := hD
    have e_lf : (m_addT n xs ys lf a b k : Nat → Int32) = m_setL n lf a k b b a k := by first | contradiction | rfl | (simp only [m_addT, c_1]; done) | (simp only [m_addT, c_1]; rfl) | (simp [m_addT, c_1]; done)
    have hP : va_P (dC, dI) vwCl (wM cI h qx qy ql qs qc n t xs ys (m_addT n xs ys lf a b k) sy co) H := by rw [e_lf]; exact hP
    have hD : va_D A (wM cI h qx qy ql qs qc n t xs ys (m_addT n xs ys lf a b k) sy co) := by rw [e_lf]; exact hD
    exact wr_vret hx hb hr hlocks hP hK hD hS dX0_addTriangle_42
  · refine lv_aload_n hx hb dX0_addTriangle_19 rfl (lv_at hl 0 rfl) ?_
    refine lv_iload_n hx hb dX0_addTriangle_20 rfl (lv_at hl 1 rfl) ?_
    refine lv_iload_n hx hb dX0_addTriangle_21 rfl (lv_at hl 2 rfl) ?_
    refine lv_iload_n hx hb dX0_addTriangle_22 rfl (lv_at hl 3 rfl) ?_
    refine lv_iload_n hx hb dX0_addTriangle_23 rfl (lv_at hl 3 rfl) ?_
    refine lv_iload_n hx hb dX0_addTriangle_24 rfl (lv_at hl 1 rfl) ?_
    refine lv_iload_n hx hb dX0_addTriangle_25 rfl (lv_at hl 2 rfl) ?_
    refine wr_cVv (As := [.int a, .int b, .int k, .int k, .int a, .int b]) (rest := []) (wr := []) F (c_X0_setLefts l dC dI cI cZ cY h qx qy ql qs qc n t xs ys lf sy co a b k k a b s.heap.size) (cwV 6 hts gX0_addTriangle_X0_setLefts rfl rfl rfl hd_X0_setLefts ⟨Nat.le_of_ble_eq_true rfl, Nat.le_of_ble_eq_true rfl⟩) hP hK hD hS hA [0, 1, 2, 3, 4, 5] [] rfl rfl (by decide) rfl (by decide) (by decide) (va_recv hK hP (ci := 0) (q0 := 0) rfl rfl) rfl hl.1 rfl (lv_room (Nat.le_of_ble_eq_true rfl)) dX0_addTriangle_26 ⟨Nat.zero_le _, Nat.zero_le _⟩ (fun H locs hP hD hS => ?_)
    have hP : va_P (dC, dI) vwCl (wM cI h qx qy ql qs qc n t xs ys (m_setL n lf a b k k a b) sy co) H := hP
    have hD : va_D A (wM cI h qx qy ql qs qc n t xs ys (m_setL n lf a b k k a b) sy co) := hD
    refine lv_goto (tgt := 42) hx hb dX0_addTriangle_29 (by decide) ?_
    have e_lf : (m_addT n xs ys lf a b k : Nat → Int32) = m_setL n lf a b k k a b := by first | contradiction | rfl | (simp only [m_addT, c_1]; done) | (simp only [m_addT, c_1]; rfl) | (simp [m_addT, c_1]; done)
    have hP : va_P (dC, dI) vwCl (wM cI h qx qy ql qs qc n t xs ys (m_addT n xs ys lf a b k) sy co) H := by rw [e_lf]; exact hP
    have hD : va_D A (wM cI h qx qy ql qs qc n t xs ys (m_addT n xs ys lf a b k) sy co) := by rw [e_lf]; exact hD
    exact wr_vret hx hb hr hlocks hP hK hD hS dX0_addTriangle_42
set_option maxHeartbeats 4000000 in
set_option maxRecDepth 100000 in
theorem c_X0_removeTriangle (l : Launch) (dC : Nat → ClassId) (dI : Nat → Nat → Nat) (cI cZ cY : ClassId) (h qx qy ql qs qc : Nat) (n t : Nat) (xs ys lf sy co : Nat → Int32) (a : Int32) (b : Int32) (k : Int32) (sz : Nat) : Met l yX0_removeTriangle wsX0_removeTriangle ({ frames := 2, cells := 0, slots := 0, locals := 47 }) (va_Pc [.ref h, .int a, .int b, .int k] (wrP (dC, dI) (gTY cI cZ cY) (wM cI h qx qy ql qs qc n t xs ys lf sy co) sz)) (wrQv (dC, dI) (gTY cI cZ cY) (wM cI h qx qy ql qs qc n t xs ys (m_remT n xs ys lf a b k) sy co) (va_A (wM cI h qx qy ql qs qc n t xs ys lf sy co) sz)) 0 0 (va_A (wM cI h qx qy ql qs qc n t xs ys lf sy co) sz) := by
  refine wr_start (cc := cX0_removeTriangle) (maxL := 4) (ret := none) (Q0 := wrQv (dC, dI) (gTY cI cZ cY) (wM cI h qx qy ql qs qc n t xs ys (m_remT n xs ys lf a b k) sy co)) RX0 (by decide) rfl rfl (Nat.le_of_ble_eq_true rfl) ?_
  intro p e s m below meth c ⟨hx, hb, hr, hml, hown, hts, hlocks, hin⟩ hP hK A hD hA hS ls hl
  have F : CallFix p m c cX0_removeTriangle 4 s ([.ref h, .int a, .int b, .int k] : List Value).toArray wsX0_removeTriangle RX0 := ⟨hx, hb, hml, hown, hts⟩
  have hl : lv_has ls 4 [(0, .ref h), (1, .int a), (2, .int b), (3, .int k)] := hl
  refine lv_aload_n hx hb dX0_removeTriangle_0 rfl (lv_at hl 0 rfl) ?_
  refine lv_iload_n hx hb dX0_removeTriangle_1 rfl (lv_at hl 1 rfl) ?_
  refine lv_iload_n hx hb dX0_removeTriangle_2 rfl (lv_at hl 2 rfl) ?_
  refine lv_aload_n hx hb dX0_removeTriangle_3 rfl (lv_at hl 0 rfl) ?_
  refine lv_iload_n hx hb dX0_removeTriangle_4 rfl (lv_at hl 3 rfl) ?_
  refine rd_cVi (As := [.int k]) (rest := [.int b, .int a, .ref h]) F (c_X0_xOf l dC dI cI cZ cY h qx qy ql qs qc n t xs ys lf sy co k) (cwV 1 hts gX0_removeTriangle_X0_xOf rfl rfl rfl hd_X0_xOf ⟨Nat.le_of_ble_eq_true rfl, Nat.le_of_ble_eq_true rfl⟩) hP hK (va_recv hK hP (ci := 0) (q0 := 0) rfl rfl) rfl hl.1 rfl (lv_room (Nat.le_of_ble_eq_true rfl)) dX0_removeTriangle_5 ⟨Nat.zero_le _, Nat.zero_le _⟩ ?_
  refine lv_aload_n hx hb dX0_removeTriangle_8 rfl (lv_at hl 0 rfl) ?_
  refine lv_iload_n hx hb dX0_removeTriangle_9 rfl (lv_at hl 3 rfl) ?_
  refine rd_cVi (As := [.int k]) (rest := [.int (m_xOf xs k), .int b, .int a, .ref h]) F (c_X0_yOf l dC dI cI cZ cY h qx qy ql qs qc n t xs ys lf sy co k) (cwV 1 hts gX0_removeTriangle_X0_yOf rfl rfl rfl hd_X0_yOf ⟨Nat.le_of_ble_eq_true rfl, Nat.le_of_ble_eq_true rfl⟩) hP hK (va_recv hK hP (ci := 0) (q0 := 0) rfl rfl) rfl hl.1 rfl (lv_room (Nat.le_of_ble_eq_true rfl)) dX0_removeTriangle_10 ⟨Nat.zero_le _, Nat.zero_le _⟩ ?_
  refine rd_cVi (As := [.int a, .int b, .int (m_xOf xs k), .int (m_xOf ys k)]) (rest := []) F (c_X0_turn l dC dI cI cZ cY h qx qy ql qs qc n t xs ys lf sy co a b (m_xOf xs k) (m_xOf ys k)) (cwV 4 hts gX0_removeTriangle_X0_turn rfl rfl rfl hd_X0_turn ⟨Nat.le_of_ble_eq_true rfl, Nat.le_of_ble_eq_true rfl⟩) hP hK (va_recv hK hP (ci := 0) (q0 := 0) rfl rfl) rfl hl.1 rfl (lv_room (Nat.le_of_ble_eq_true rfl)) dX0_removeTriangle_13 ⟨Nat.zero_le _, Nat.zero_le _⟩ ?_
  refine lv_if_le (tgt := 32) hx hb dX0_removeTriangle_16 (by decide) (fun c_1 => ?_) (fun c_1 => ?_)
  · refine lv_aload_n hx hb dX0_removeTriangle_32 rfl (lv_at hl 0 rfl) ?_
    refine lv_iload_n hx hb dX0_removeTriangle_33 rfl (lv_at hl 1 rfl) ?_
    refine lv_iload_n hx hb dX0_removeTriangle_34 rfl (lv_at hl 3 rfl) ?_
    refine lv_iload_n hx hb dX0_removeTriangle_35 rfl (lv_at hl 2 rfl) ?_
    refine lv_iconst (v := (-1)) hx hb dX0_removeTriangle_36 (by decide) ?_
    refine lv_iconst (v := (-1)) hx hb dX0_removeTriangle_37 (by decide) ?_
    refine lv_iconst (v := (-1)) hx hb dX0_removeTriangle_38 (by decide) ?_
    refine wr_cVv (As := [.int a, .int k, .int b, .int (-1), .int (-1), .int (-1)]) (rest := []) (wr := []) F (c_X0_setLefts l dC dI cI cZ cY h qx qy ql qs qc n t xs ys lf sy co a k b (-1) (-1) (-1) s.heap.size) (cwV 6 hts gX0_removeTriangle_X0_setLefts rfl rfl rfl hd_X0_setLefts ⟨Nat.le_of_ble_eq_true rfl, Nat.le_of_ble_eq_true rfl⟩) hP hK hD hS hA [0, 1, 2, 3, 4, 5] [] rfl rfl (by decide) rfl (by decide) (by decide) (va_recv hK hP (ci := 0) (q0 := 0) rfl rfl) rfl hl.1 rfl (lv_room (Nat.le_of_ble_eq_true rfl)) dX0_removeTriangle_39 ⟨Nat.zero_le _, Nat.zero_le _⟩ (fun H locs hP hD hS => ?_)
    have hP : va_P (dC, dI) vwCl (wM cI h qx qy ql qs qc n t xs ys (m_setL n lf a k b (-1) (-1) (-1)) sy co) H := hP
    have hD : va_D A (wM cI h qx qy ql qs qc n t xs ys (m_setL n lf a k b (-1) (-1) (-1)) sy co) := hD
    have e_lf : (m_remT n xs ys lf a b k : Nat → Int32) = m_setL n lf a k b (-1) (-1) (-1) := by first | contradiction | rfl | (simp only [m_remT, c_1]; done) | (simp only [m_remT, c_1]; rfl) | (simp [m_remT, c_1]; done)
    have hP : va_P (dC, dI) vwCl (wM cI h qx qy ql qs qc n t xs ys (m_remT n xs ys lf a b k) sy co) H := by rw [e_lf]; exact hP
    have hD : va_D A (wM cI h qx qy ql qs qc n t xs ys (m_remT n xs ys lf a b k) sy co) := by rw [e_lf]; exact hD
    exact wr_vret hx hb hr hlocks hP hK hD hS dX0_removeTriangle_42
  · refine lv_aload_n hx hb dX0_removeTriangle_19 rfl (lv_at hl 0 rfl) ?_
    refine lv_iload_n hx hb dX0_removeTriangle_20 rfl (lv_at hl 1 rfl) ?_
    refine lv_iload_n hx hb dX0_removeTriangle_21 rfl (lv_at hl 2 rfl) ?_
    refine lv_iload_n hx hb dX0_removeTriangle_22 rfl (lv_at hl 3 rfl) ?_
    refine lv_iconst (v := (-1)) hx hb dX0_removeTriangle_23 (by decide) ?_
    refine lv_iconst (v := (-1)) hx hb dX0_removeTriangle_24 (by decide) ?_
    refine lv_iconst (v := (-1)) hx hb dX0_removeTriangle_25 (by decide) ?_
    refine wr_cVv (As := [.int a, .int b, .int k, .int (-1), .int (-1), .int (-1)]) (rest := []) (wr := []) F (c_X0_setLefts l dC dI cI cZ cY h qx qy ql qs qc n t xs ys lf sy co a b k (-1) (-1) (-1) s.heap.size) (cwV 6 hts gX0_removeTriangle_X0_setLefts rfl rfl rfl hd_X0_setLefts ⟨Nat.le_of_ble_eq_true rfl, Nat.le_of_ble_eq_true rfl⟩) hP hK hD hS hA [0, 1, 2, 3, 4, 5] [] rfl rfl (by decide) rfl (by decide) (by decide) (va_recv hK hP (ci := 0) (q0 := 0) rfl rfl) rfl hl.1 rfl (lv_room (Nat.le_of_ble_eq_true rfl)) dX0_removeTriangle_26 ⟨Nat.zero_le _, Nat.zero_le _⟩ (fun H locs hP hD hS => ?_)
    have hP : va_P (dC, dI) vwCl (wM cI h qx qy ql qs qc n t xs ys (m_setL n lf a b k (-1) (-1) (-1)) sy co) H := hP
    have hD : va_D A (wM cI h qx qy ql qs qc n t xs ys (m_setL n lf a b k (-1) (-1) (-1)) sy co) := hD
    refine lv_goto (tgt := 42) hx hb dX0_removeTriangle_29 (by decide) ?_
    have e_lf : (m_remT n xs ys lf a b k : Nat → Int32) = m_setL n lf a b k (-1) (-1) (-1) := by first | contradiction | rfl | (simp only [m_remT, c_1]; done) | (simp only [m_remT, c_1]; rfl) | (simp [m_remT, c_1]; done)
    have hP : va_P (dC, dI) vwCl (wM cI h qx qy ql qs qc n t xs ys (m_remT n xs ys lf a b k) sy co) H := by rw [e_lf]; exact hP
    have hD : va_D A (wM cI h qx qy ql qs qc n t xs ys (m_remT n xs ys lf a b k) sy co) := by rw [e_lf]; exact hD
    exact wr_vret hx hb hr hlocks hP hK hD hS dX0_removeTriangle_42
set_option maxHeartbeats 4000000 in
set_option maxRecDepth 100000 in
theorem c_X0_cutTriangle (l : Launch) (dC : Nat → ClassId) (dI : Nat → Nat → Nat) (cI cZ cY : ClassId) (h qx qy ql qs qc : Nat) (n t : Nat) (xs ys lf sy co : Nat → Int32) (a : Int32) (b : Int32) (k : Int32) (z : Int32) (sz : Nat) : Met l yX0_cutTriangle wsX0_cutTriangle ({ frames := 3, cells := 0, slots := 0, locals := 70 }) (va_Pc [.ref h, .int a, .int b, .int k, .int z] (wrP (dC, dI) (gTY cI cZ cY) (wM cI h qx qy ql qs qc n t xs ys lf sy co) sz)) (wrQv (dC, dI) (gTY cI cZ cY) (wM cI h qx qy ql qs qc n t xs ys (m_cutT n xs ys lf a b k z) sy co) (va_A (wM cI h qx qy ql qs qc n t xs ys lf sy co) sz)) 0 0 (va_A (wM cI h qx qy ql qs qc n t xs ys lf sy co) sz) := by
  refine wr_start (cc := cX0_cutTriangle) (maxL := 5) (ret := none) (Q0 := wrQv (dC, dI) (gTY cI cZ cY) (wM cI h qx qy ql qs qc n t xs ys (m_cutT n xs ys lf a b k z) sy co)) RX0 (by decide) rfl rfl (Nat.le_of_ble_eq_true rfl) ?_
  intro p e s m below meth c ⟨hx, hb, hr, hml, hown, hts, hlocks, hin⟩ hP hK A hD hA hS ls hl
  have F : CallFix p m c cX0_cutTriangle 5 s ([.ref h, .int a, .int b, .int k, .int z] : List Value).toArray wsX0_cutTriangle RX0 := ⟨hx, hb, hml, hown, hts⟩
  have hl : lv_has ls 5 [(0, .ref h), (1, .int a), (2, .int b), (3, .int k), (4, .int z)] := hl
  refine lv_iload_n hx hb dX0_cutTriangle_0 rfl (lv_at hl 3 rfl) ?_
  refine lv_iconst (v := (-1)) hx hb dX0_cutTriangle_1 (by decide) ?_
  refine lv_icmp_eq (tgt := 28) hx hb dX0_cutTriangle_2 (by decide) (fun c_1 => ?_) (fun c_1 => ?_)
  · have e_lf : (m_cutT n xs ys lf a b k z : Nat → Int32) = lf := by first | contradiction | rfl | (simp only [m_cutT, c_1]; done) | (simp only [m_cutT, c_1]; rfl) | (simp [m_cutT, c_1]; done)
    have hP : va_P (dC, dI) vwCl (wM cI h qx qy ql qs qc n t xs ys (m_cutT n xs ys lf a b k z) sy co) s.heap := by rw [e_lf]; exact hP
    have hD : va_D A (wM cI h qx qy ql qs qc n t xs ys (m_cutT n xs ys lf a b k z) sy co) := by rw [e_lf]; exact hD
    exact wr_vret hx hb hr hlocks hP hK hD hS dX0_cutTriangle_28
  · refine lv_aload_n hx hb dX0_cutTriangle_5 rfl (lv_at hl 0 rfl) ?_
    refine lv_iload_n hx hb dX0_cutTriangle_6 rfl (lv_at hl 1 rfl) ?_
    refine lv_iload_n hx hb dX0_cutTriangle_7 rfl (lv_at hl 2 rfl) ?_
    refine lv_iload_n hx hb dX0_cutTriangle_8 rfl (lv_at hl 3 rfl) ?_
    refine wr_cVv (As := [.int a, .int b, .int k]) (rest := []) (wr := []) F (c_X0_removeTriangle l dC dI cI cZ cY h qx qy ql qs qc n t xs ys lf sy co a b k s.heap.size) (cwV 3 hts gX0_cutTriangle_X0_removeTriangle rfl rfl rfl hd_X0_removeTriangle ⟨Nat.le_of_ble_eq_true rfl, Nat.le_of_ble_eq_true rfl⟩) hP hK hD hS hA [0, 1, 2, 3, 4, 5] [] rfl rfl (by decide) rfl (by decide) (by decide) (va_recv hK hP (ci := 0) (q0 := 0) rfl rfl) rfl hl.1 rfl (lv_room (Nat.le_of_ble_eq_true rfl)) dX0_cutTriangle_9 ⟨Nat.zero_le _, Nat.zero_le _⟩ (fun H locs hP hD hS => ?_)
    have hP : va_P (dC, dI) vwCl (wM cI h qx qy ql qs qc n t xs ys (m_remT n xs ys lf a b k) sy co) H := hP
    have hD : va_D A (wM cI h qx qy ql qs qc n t xs ys (m_remT n xs ys lf a b k) sy co) := hD
    refine lv_aload_n hx hb dX0_cutTriangle_12 rfl (lv_at hl 0 rfl) ?_
    refine lv_iload hx hb dX0_cutTriangle_13 (lv_at hl 4 rfl) ?_
    refine lv_iload_n hx hb dX0_cutTriangle_15 rfl (lv_at hl 3 rfl) ?_
    refine lv_iload_n hx hb dX0_cutTriangle_16 rfl (lv_at hl 1 rfl) ?_
    refine wr_cVv (As := [.int z, .int k, .int a]) (rest := []) (wr := []) F (c_X0_addTriangle l dC dI cI cZ cY h qx qy ql qs qc n t xs ys (m_remT n xs ys lf a b k) sy co z k a H.size) (cwV 3 hts gX0_cutTriangle_X0_addTriangle rfl rfl rfl hd_X0_addTriangle ⟨Nat.le_of_ble_eq_true rfl, Nat.le_of_ble_eq_true rfl⟩) hP hK hD hS hA [0, 1, 2, 3, 4, 5] [] rfl rfl (by decide) rfl (by decide) (by decide) (va_recv hK hP (ci := 0) (q0 := 0) rfl rfl) rfl hl.1 rfl (lv_room (Nat.le_of_ble_eq_true rfl)) dX0_cutTriangle_17 ⟨Nat.zero_le _, Nat.zero_le _⟩ (fun H locs hP hD hS => ?_)
    have hP : va_P (dC, dI) vwCl (wM cI h qx qy ql qs qc n t xs ys (m_addT n xs ys (m_remT n xs ys lf a b k) z k a) sy co) H := hP
    have hD : va_D A (wM cI h qx qy ql qs qc n t xs ys (m_addT n xs ys (m_remT n xs ys lf a b k) z k a) sy co) := hD
    refine lv_aload_n hx hb dX0_cutTriangle_20 rfl (lv_at hl 0 rfl) ?_
    refine lv_iload hx hb dX0_cutTriangle_21 (lv_at hl 4 rfl) ?_
    refine lv_iload_n hx hb dX0_cutTriangle_23 rfl (lv_at hl 3 rfl) ?_
    refine lv_iload_n hx hb dX0_cutTriangle_24 rfl (lv_at hl 2 rfl) ?_
    refine wr_cVv (As := [.int z, .int k, .int b]) (rest := []) (wr := []) F (c_X0_addTriangle l dC dI cI cZ cY h qx qy ql qs qc n t xs ys (m_addT n xs ys (m_remT n xs ys lf a b k) z k a) sy co z k b H.size) (cwV 3 hts gX0_cutTriangle_X0_addTriangle rfl rfl rfl hd_X0_addTriangle ⟨Nat.le_of_ble_eq_true rfl, Nat.le_of_ble_eq_true rfl⟩) hP hK hD hS hA [0, 1, 2, 3, 4, 5] [] rfl rfl (by decide) rfl (by decide) (by decide) (va_recv hK hP (ci := 0) (q0 := 0) rfl rfl) rfl hl.1 rfl (lv_room (Nat.le_of_ble_eq_true rfl)) dX0_cutTriangle_25 ⟨Nat.zero_le _, Nat.zero_le _⟩ (fun H locs hP hD hS => ?_)
    have hP : va_P (dC, dI) vwCl (wM cI h qx qy ql qs qc n t xs ys (m_addT n xs ys (m_addT n xs ys (m_remT n xs ys lf a b k) z k a) z k b) sy co) H := hP
    have hD : va_D A (wM cI h qx qy ql qs qc n t xs ys (m_addT n xs ys (m_addT n xs ys (m_remT n xs ys lf a b k) z k a) z k b) sy co) := hD
    have e_lf : (m_cutT n xs ys lf a b k z : Nat → Int32) = m_addT n xs ys (m_addT n xs ys (m_remT n xs ys lf a b k) z k a) z k b := by first | contradiction | rfl | (simp only [m_cutT, c_1]; done) | (simp only [m_cutT, c_1]; rfl) | (simp [m_cutT, c_1]; done)
    have hP : va_P (dC, dI) vwCl (wM cI h qx qy ql qs qc n t xs ys (m_cutT n xs ys lf a b k z) sy co) H := by rw [e_lf]; exact hP
    have hD : va_D A (wM cI h qx qy ql qs qc n t xs ys (m_cutT n xs ys lf a b k z) sy co) := by rw [e_lf]; exact hD
    exact wr_vret hx hb hr hlocks hP hK hD hS dX0_cutTriangle_28
theorem in_X0_listTriangle_X0 : ∀ w ∈ wsX00, w ∈ wsX0_listTriangle := by decide +kernel
theorem fl_X0_listTriangle_42 : (Cond.fieldLink RX0 42 "MoorTriangles$Mesh" "triangles" "I") ∈ wsX0_listTriangle := by decide +kernel
theorem fl_X0_listTriangle_24 : (Cond.fieldLink RX0 24 "MoorTriangles$Mesh" "corners" "[I") ∈ wsX0_listTriangle := by decide +kernel
set_option maxHeartbeats 4000000 in
set_option maxRecDepth 100000 in
theorem c_X0_listTriangle (l : Launch) (dC : Nat → ClassId) (dI : Nat → Nat → Nat) (cI cZ cY : ClassId) (h qx qy ql qs qc : Nat) (n t : Nat) (xs ys lf sy co : Nat → Int32) (a : Int32) (b : Int32) (k : Int32) (sz : Nat) (ht : t ≤ 28) : Met l yX0_listTriangle wsX0_listTriangle ({ frames := 0, cells := 0, slots := 0, locals := 0 }) (va_Pc [.ref h, .int a, .int b, .int k] (wrP (dC, dI) (gTY cI cZ cY) (wM cI h qx qy ql qs qc n t xs ys lf sy co) sz)) (wrQv (dC, dI) (gTY cI cZ cY) (wM cI h qx qy ql qs qc n ((m_lt1 (t, co) a b k).1) xs ys lf sy ((m_lt1 (t, co) a b k).2)) (va_A (wM cI h qx qy ql qs qc n t xs ys lf sy co) sz)) 0 0 (va_A (wM cI h qx qy ql qs qc n t xs ys lf sy co) sz) := by
  refine wr_start (cc := cX0_listTriangle) (maxL := 4) (ret := none) (Q0 := wrQv (dC, dI) (gTY cI cZ cY) (wM cI h qx qy ql qs qc n ((m_lt1 (t, co) a b k).1) xs ys lf sy ((m_lt1 (t, co) a b k).2))) RX0 (by decide) rfl rfl (Nat.le_of_ble_eq_true rfl) ?_
  intro p e s m below meth c ⟨hx, hb, hr, hml, hown, hts, hlocks, hin⟩ hP hK A hD hA hS ls hl
  have F : CallFix p m c cX0_listTriangle 4 s ([.ref h, .int a, .int b, .int k] : List Value).toArray wsX0_listTriangle RX0 := ⟨hx, hb, hml, hown, hts⟩
  have hl : lv_has ls 4 [(0, .ref h), (1, .int a), (2, .int b), (3, .int k)] := hl
  refine lv_iload_n hx hb dX0_listTriangle_0 rfl (lv_at hl 3 rfl) ?_
  refine lv_iload_n hx hb dX0_listTriangle_1 rfl (lv_at hl 2 rfl) ?_
  refine lv_icmp_le (tgt := 21) hx hb dX0_listTriangle_2 (by decide) (fun c_1 => ?_) (fun c_1 => ?_)
  · have e_t : ((m_lt1 (t, co) a b k).1 : Nat) = t := by first | (simp only [m_lt1, c_1]; done) | (simp only [m_lt1, c_1]; rfl) | (simp [m_lt1, c_1]; done)
    have e_co : ((m_lt1 (t, co) a b k).2 : Nat → Int32) = co := by first | (simp only [m_lt1, c_1]; done) | (simp only [m_lt1, c_1]; rfl) | (simp [m_lt1, c_1]; done)
    have hP : va_P (dC, dI) vwCl (wM cI h qx qy ql qs qc n ((m_lt1 (t, co) a b k).1) xs ys lf sy ((m_lt1 (t, co) a b k).2)) s.heap := by rw [e_t, e_co]; exact hP
    have hD : va_D A (wM cI h qx qy ql qs qc n ((m_lt1 (t, co) a b k).1) xs ys lf sy ((m_lt1 (t, co) a b k).2)) := by rw [e_t, e_co]; exact hD
    exact wr_vret hx hb hr hlocks hP hK hD hS dX0_listTriangle_21
  · refine lv_aload_n hx hb dX0_listTriangle_5 rfl (lv_at hl 0 rfl) ?_
    refine va_get (D := (dC, dI)) (ci := 0) (v := .int (nI t)) (C := RX0) (T := TX0) (N := 7) hx hb hts in_X0_listTriangle_X0 hown hK hP 0 rfl rfl 1 (by decide) (hts (.fieldLink RX0 42 "MoorTriangles$Mesh" "triangles" "I") fl_X0_listTriangle_42) (fun _ h9 => h9) rfl dX0_listTriangle_6 ?_
    refine lv_if_lt (tgt := 21) hx hb dX0_listTriangle_9 (by decide) (fun c_2 => ?_) (fun c_2 => ?_)
    · exact absurd c_2 (nI_pos (by omega))
    · refine lv_aload_n hx hb dX0_listTriangle_12 rfl (lv_at hl 0 rfl) ?_
      refine va_get (D := (dC, dI)) (ci := 0) (v := .int (nI t)) (C := RX0) (T := TX0) (N := 7) hx hb hts in_X0_listTriangle_X0 hown hK hP 0 rfl rfl 1 (by decide) (hts (.fieldLink RX0 42 "MoorTriangles$Mesh" "triangles" "I") fl_X0_listTriangle_42) (fun _ h9 => h9) rfl dX0_listTriangle_13 ?_
      refine lv_bipush (v := 28) hx hb dX0_listTriangle_16 (by decide) ?_
      refine lv_icmp_lt (tgt := 22) hx hb dX0_listTriangle_18 (by decide) (fun c_3 => ?_) (fun c_3 => ?_)
      · have hlt : t < 28 := (nI_ltI (by omega) (by decide)).mp c_3
        refine lv_aload_n hx hb dX0_listTriangle_22 rfl (lv_at hl 0 rfl) ?_
        refine va_get (D := (dC, dI)) (ci := 0) (v := .ref qc) (C := RX0) (T := TX0) (N := 7) hx hb hts in_X0_listTriangle_X0 hown hK hP 0 rfl rfl 6 (by decide) (hts (.fieldLink RX0 24 "MoorTriangles$Mesh" "corners" "[I") fl_X0_listTriangle_24) (fun _ h9 => h9) rfl dX0_listTriangle_23 ?_
        refine lv_iconst (v := 3) hx hb dX0_listTriangle_26 (by decide) ?_
        refine lv_aload_n hx hb dX0_listTriangle_27 rfl (lv_at hl 0 rfl) ?_
        refine va_get (D := (dC, dI)) (ci := 0) (v := .int (nI t)) (C := RX0) (T := TX0) (N := 7) hx hb hts in_X0_listTriangle_X0 hown hK hP 0 rfl rfl 1 (by decide) (hts (.fieldLink RX0 42 "MoorTriangles$Mesh" "triangles" "I") fl_X0_listTriangle_42) (fun _ h9 => h9) rfl dX0_listTriangle_28 ?_
        refine lv_imul hx hb dX0_listTriangle_31 ?_
        refine lv_iload_n hx hb dX0_listTriangle_32 rfl (lv_at hl 1 rfl) ?_
        refine va_iast (D := (dC, dI)) hx hb hK hP hD hS 5 0 rfl rfl (in_three0 hlt) dX0_listTriangle_33 (fun H locs hP hD hS => ?_)
        have hP : va_P (dC, dI) vwCl (wM cI h qx qy ql qs qc n t xs ys lf sy (upd co (3 * (nI t)).toNatClampNeg a)) H := hP
        have hD : va_D A (wM cI h qx qy ql qs qc n t xs ys lf sy (upd co (3 * (nI t)).toNatClampNeg a)) := hD
        refine lv_aload_n hx hb dX0_listTriangle_34 rfl (lv_at hl 0 rfl) ?_
        refine va_get (D := (dC, dI)) (ci := 0) (v := .ref qc) (C := RX0) (T := TX0) (N := 7) hx hb hts in_X0_listTriangle_X0 hown hK hP 0 rfl rfl 6 (by decide) (hts (.fieldLink RX0 24 "MoorTriangles$Mesh" "corners" "[I") fl_X0_listTriangle_24) (fun _ h9 => h9) rfl dX0_listTriangle_35 ?_
        refine lv_iconst (v := 3) hx hb dX0_listTriangle_38 (by decide) ?_
        refine lv_aload_n hx hb dX0_listTriangle_39 rfl (lv_at hl 0 rfl) ?_
        refine va_get (D := (dC, dI)) (ci := 0) (v := .int (nI t)) (C := RX0) (T := TX0) (N := 7) hx hb hts in_X0_listTriangle_X0 hown hK hP 0 rfl rfl 1 (by decide) (hts (.fieldLink RX0 42 "MoorTriangles$Mesh" "triangles" "I") fl_X0_listTriangle_42) (fun _ h9 => h9) rfl dX0_listTriangle_40 ?_
        refine lv_imul hx hb dX0_listTriangle_43 ?_
        refine lv_iconst (v := 1) hx hb dX0_listTriangle_44 (by decide) ?_
        refine lv_iadd hx hb dX0_listTriangle_45 ?_
        refine lv_iload_n hx hb dX0_listTriangle_46 rfl (lv_at hl 2 rfl) ?_
        refine va_iast (D := (dC, dI)) hx hb hK hP hD hS 5 0 rfl rfl (in_three (by simp) hlt) dX0_listTriangle_47 (fun H locs hP hD hS => ?_)
        have hP : va_P (dC, dI) vwCl (wM cI h qx qy ql qs qc n t xs ys lf sy (upd (upd co (3 * (nI t)).toNatClampNeg a) ((3 * (nI t)) + 1).toNatClampNeg b)) H := hP
        have hD : va_D A (wM cI h qx qy ql qs qc n t xs ys lf sy (upd (upd co (3 * (nI t)).toNatClampNeg a) ((3 * (nI t)) + 1).toNatClampNeg b)) := hD
        refine lv_aload_n hx hb dX0_listTriangle_48 rfl (lv_at hl 0 rfl) ?_
        refine va_get (D := (dC, dI)) (ci := 0) (v := .ref qc) (C := RX0) (T := TX0) (N := 7) hx hb hts in_X0_listTriangle_X0 hown hK hP 0 rfl rfl 6 (by decide) (hts (.fieldLink RX0 24 "MoorTriangles$Mesh" "corners" "[I") fl_X0_listTriangle_24) (fun _ h9 => h9) rfl dX0_listTriangle_49 ?_
        refine lv_iconst (v := 3) hx hb dX0_listTriangle_52 (by decide) ?_
        refine lv_aload_n hx hb dX0_listTriangle_53 rfl (lv_at hl 0 rfl) ?_
        refine va_get (D := (dC, dI)) (ci := 0) (v := .int (nI t)) (C := RX0) (T := TX0) (N := 7) hx hb hts in_X0_listTriangle_X0 hown hK hP 0 rfl rfl 1 (by decide) (hts (.fieldLink RX0 42 "MoorTriangles$Mesh" "triangles" "I") fl_X0_listTriangle_42) (fun _ h9 => h9) rfl dX0_listTriangle_54 ?_
        refine lv_imul hx hb dX0_listTriangle_57 ?_
        refine lv_iconst (v := 2) hx hb dX0_listTriangle_58 (by decide) ?_
        refine lv_iadd hx hb dX0_listTriangle_59 ?_
        refine lv_iload_n hx hb dX0_listTriangle_60 rfl (lv_at hl 3 rfl) ?_
        refine va_iast (D := (dC, dI)) hx hb hK hP hD hS 5 0 rfl rfl (in_three (by simp) hlt) dX0_listTriangle_61 (fun H locs hP hD hS => ?_)
        have hP : va_P (dC, dI) vwCl (wM cI h qx qy ql qs qc n t xs ys lf sy (upd (upd (upd co (3 * (nI t)).toNatClampNeg a) ((3 * (nI t)) + 1).toNatClampNeg b) ((3 * (nI t)) + 2).toNatClampNeg k)) H := hP
        have hD : va_D A (wM cI h qx qy ql qs qc n t xs ys lf sy (upd (upd (upd co (3 * (nI t)).toNatClampNeg a) ((3 * (nI t)) + 1).toNatClampNeg b) ((3 * (nI t)) + 2).toNatClampNeg k)) := hD
        refine lv_aload_n hx hb dX0_listTriangle_62 rfl (lv_at hl 0 rfl) ?_
        refine lv_dup hx hb dX0_listTriangle_63 rfl ?_
        refine va_get (D := (dC, dI)) (ci := 0) (v := .int (nI t)) (C := RX0) (T := TX0) (N := 7) hx hb hts in_X0_listTriangle_X0 hown hK hP 0 rfl rfl 1 (by decide) (hts (.fieldLink RX0 42 "MoorTriangles$Mesh" "triangles" "I") fl_X0_listTriangle_42) (fun _ h9 => h9) rfl dX0_listTriangle_64 ?_
        refine lv_iconst (v := 1) hx hb dX0_listTriangle_67 (by decide) ?_
        refine lv_iadd hx hb dX0_listTriangle_68 ?_
        refine lv_cvi (nI_1 _) ?_
        refine va_put (D := (dC, dI)) (ci := 0) (v := .int (nI (t + 1))) (ty := .int) (C := RX0) (T := TX0) (N := 7) hx hb hts in_X0_listTriangle_X0 tyX0 tyX0_ok nmX0 hown hK hP hD hS 0 rfl rfl 1 (by decide) (hts (.fieldLink RX0 42 "MoorTriangles$Mesh" "triangles" "I") fl_X0_listTriangle_42) (fun _ h9 => h9) rfl (by decide +kernel) rfl rfl (Nat.le_of_ble_eq_true rfl) dX0_listTriangle_69 (fun H locs hP hD hS => ?_)
        have hP : va_P (dC, dI) vwCl (wM cI h qx qy ql qs qc n (t + 1) xs ys lf sy (upd (upd (upd co (3 * (nI t)).toNatClampNeg a) ((3 * (nI t)) + 1).toNatClampNeg b) ((3 * (nI t)) + 2).toNatClampNeg k)) H := hP
        have hD : va_D A (wM cI h qx qy ql qs qc n (t + 1) xs ys lf sy (upd (upd (upd co (3 * (nI t)).toNatClampNeg a) ((3 * (nI t)) + 1).toNatClampNeg b) ((3 * (nI t)) + 2).toNatClampNeg k)) := hD
        have e_t : ((m_lt1 (t, co) a b k).1 : Nat) = (t + 1) := by first | (simp only [m_lt1, c_1, c_2, c_3]; done) | (simp only [m_lt1, c_1, c_2, c_3]; rfl) | (simp [m_lt1, c_1, c_2, c_3]; done)
        have e_co : ((m_lt1 (t, co) a b k).2 : Nat → Int32) = (upd (upd (upd co (3 * (nI t)).toNatClampNeg a) ((3 * (nI t)) + 1).toNatClampNeg b) ((3 * (nI t)) + 2).toNatClampNeg k) := by first | (simp only [m_lt1, c_1, c_2, c_3]; done) | (simp only [m_lt1, c_1, c_2, c_3]; rfl) | (simp [m_lt1, c_1, c_2, c_3]; done)
        have hP : va_P (dC, dI) vwCl (wM cI h qx qy ql qs qc n ((m_lt1 (t, co) a b k).1) xs ys lf sy ((m_lt1 (t, co) a b k).2)) H := by rw [e_t, e_co]; exact hP
        have hD : va_D A (wM cI h qx qy ql qs qc n ((m_lt1 (t, co) a b k).1) xs ys lf sy ((m_lt1 (t, co) a b k).2)) := by rw [e_t, e_co]; exact hD
        exact wr_vret hx hb hr hlocks hP hK hD hS dX0_listTriangle_72
      · have e_t : ((m_lt1 (t, co) a b k).1 : Nat) = t := by first | (simp only [m_lt1, c_1, c_2, c_3]; done) | (simp only [m_lt1, c_1, c_2, c_3]; rfl) | (simp [m_lt1, c_1, c_2, c_3]; done)
        have e_co : ((m_lt1 (t, co) a b k).2 : Nat → Int32) = co := by first | (simp only [m_lt1, c_1, c_2, c_3]; done) | (simp only [m_lt1, c_1, c_2, c_3]; rfl) | (simp [m_lt1, c_1, c_2, c_3]; done)
        have hP : va_P (dC, dI) vwCl (wM cI h qx qy ql qs qc n ((m_lt1 (t, co) a b k).1) xs ys lf sy ((m_lt1 (t, co) a b k).2)) s.heap := by rw [e_t, e_co]; exact hP
        have hD : va_D A (wM cI h qx qy ql qs qc n ((m_lt1 (t, co) a b k).1) xs ys lf sy ((m_lt1 (t, co) a b k).2)) := by rw [e_t, e_co]; exact hD
        exact wr_vret hx hb hr hlocks hP hK hD hS dX0_listTriangle_21
theorem in_X0_listTriangles_X0 : ∀ w ∈ wsX00, w ∈ wsX0_listTriangles := by decide +kernel
theorem fl_X0_listTriangles_42 : (Cond.fieldLink RX0 42 "MoorTriangles$Mesh" "triangles" "I") ∈ wsX0_listTriangles := by decide +kernel
theorem fl_X0_listTriangles_38 : (Cond.fieldLink RX0 38 "MoorTriangles$Mesh" "cairns" "I") ∈ wsX0_listTriangles := by decide +kernel
theorem ma0_X0_listTriangles_min : (Cond.methodLink RX0 138 Lib.Math.min.name) ∈ wsX0_listTriangles := by decide +kernel
theorem ma1_X0_listTriangles_min : (Cond.static Lib.Math.min.name) ∈ wsX0_listTriangles := by decide +kernel
theorem ma2_X0_listTriangles_min : (Cond.initialized "java/lang/Math") ∈ wsX0_listTriangles := by decide +kernel
theorem ma3_X0_listTriangles_min : (Cond.code Lib.Math.min.name Lib.Math.min.code 2 (some .int)) ∈ wsX0_listTriangles := by decide +kernel
theorem ma0_X0_listTriangles_max : (Cond.methodLink RX0 144 Lib.Math.max.name) ∈ wsX0_listTriangles := by decide +kernel
theorem ma1_X0_listTriangles_max : (Cond.static Lib.Math.max.name) ∈ wsX0_listTriangles := by decide +kernel
theorem ma2_X0_listTriangles_max : (Cond.initialized "java/lang/Math") ∈ wsX0_listTriangles := by decide +kernel
theorem ma3_X0_listTriangles_max : (Cond.code Lib.Math.max.name Lib.Math.max.code 2 (some .int)) ∈ wsX0_listTriangles := by decide +kernel
set_option maxHeartbeats 4000000 in
set_option maxRecDepth 100000 in
theorem c_X0_listTriangles (l : Launch) (dC : Nat → ClassId) (dI : Nat → Nat → Nat) (cI cZ cY : ClassId) (h qx qy ql qs qc : Nat) (n t : Nat) (xs ys lf sy co : Nat → Int32) (sz : Nat) (hn : n ≤ 17) : Met l yX0_listTriangles wsX0_listTriangles ({ frames := 1, cells := 0, slots := 0, locals := 23 }) (va_Pc [.ref h] (wrP (dC, dI) (gTY cI cZ cY) (wM cI h qx qy ql qs qc n t xs ys lf sy co) sz)) (wrQv (dC, dI) (gTY cI cZ cY) (wM cI h qx qy ql qs qc n ((m_list n lf co).1) xs ys lf sy ((m_list n lf co).2)) (va_A (wM cI h qx qy ql qs qc n t xs ys lf sy co) sz)) 0 0 (va_A (wM cI h qx qy ql qs qc n t xs ys lf sy co) sz) := by
  refine wr_start (cc := cX0_listTriangles) (maxL := 5) (ret := none) (Q0 := wrQv (dC, dI) (gTY cI cZ cY) (wM cI h qx qy ql qs qc n ((m_list n lf co).1) xs ys lf sy ((m_list n lf co).2))) RX0 (by decide) rfl rfl (Nat.le_of_ble_eq_true rfl) ?_
  intro p e s m below meth c ⟨hx, hb, hr, hml, hown, hts, hlocks, hin⟩ hP hK A hD hA hS ls hl
  have F : CallFix p m c cX0_listTriangles 5 s ([.ref h] : List Value).toArray wsX0_listTriangles RX0 := ⟨hx, hb, hml, hown, hts⟩
  have hl : lv_has ls 5 [(0, .ref h)] := hl
  refine lv_aload_n hx hb dX0_listTriangles_0 rfl (lv_at hl 0 rfl) ?_
  refine lv_iconst (v := 0) hx hb dX0_listTriangles_1 (by decide) ?_
  refine va_put (D := (dC, dI)) (ci := 0) (v := .int 0) (ty := .int) (C := RX0) (T := TX0) (N := 7) hx hb hts in_X0_listTriangles_X0 tyX0 tyX0_ok nmX0 hown hK hP hD hS 0 rfl rfl 1 (by decide) (hts (.fieldLink RX0 42 "MoorTriangles$Mesh" "triangles" "I") fl_X0_listTriangles_42) (fun _ h9 => h9) rfl (by decide +kernel) rfl rfl (Nat.le_of_ble_eq_true rfl) dX0_listTriangles_2 (fun H locs hP hD hS => ?_)
  have hP : va_P (dC, dI) vwCl (wM cI h qx qy ql qs qc n 0 xs ys lf sy co) H := hP
  have hD : va_D A (wM cI h qx qy ql qs qc n 0 xs ys lf sy co) := hD
  refine lv_iconst (v := 0) hx hb dX0_listTriangles_5 (by decide) ?_
  refine lv_istore_n (lv' := [(1, .int 0), (0, .ref h)]) hx hb dX0_listTriangles_6 rfl hl (by decide) rfl (fun ls hl => ?_)
  have hL7 : ∀ (k_1 : Nat) (i : Nat), (n - i) < k_1 → (i ≤ n) → ∀ ls : Array Slot, lv_has ls 5 [(1, .int (nI i)), (0, .ref h)] → ∀ (H : Heap) (locs : List Loc), va_P (dC, dI) vwCl (wM cI h qx qy ql qs qc n ((m_ltO lf n (0, co) i).1) xs ys lf sy ((m_ltO lf n (0, co) i).2)) H → va_D A (wM cI h qx qy ql qs qc n ((m_ltO lf n (0, co) i).1) xs ys lf sy ((m_ltO lf n (0, co) i).2)) → va_S A s.heap H locs → W p l e ({ frames := 1, cells := 0, slots := 0, locals := 23 } : Room) s m ([.ref h] : List Value).toArray below meth c H locs 0 0 (MQ below (wrQv (dC, dI) (gTY cI cZ cY) (wM cI h qx qy ql qs qc n ((m_list n lf co).1) xs ys lf sy ((m_list n lf co).2)) A) ([.ref h] : List Value).toArray s 0 0 A) (F0 m 7 ls []) := by
    intro k_1
    induction k_1 with
    | zero => intro i hk; exact absurd hk (Nat.not_lt_zero _)
    | succ k_1 ih_2 =>
      intro i hk_7 hi_i ls hl H locs hP hD hS
      refine lv_iload_n hx hb dX0_listTriangles_7 rfl (lv_at hl 0 rfl) ?_
      refine lv_aload_n hx hb dX0_listTriangles_8 rfl (lv_at hl 1 rfl) ?_
      refine va_get (D := (dC, dI)) (ci := 0) (v := .int (nI n)) (C := RX0) (T := TX0) (N := 7) hx hb hts in_X0_listTriangles_X0 hown hK hP 0 rfl rfl 0 (by decide) (hts (.fieldLink RX0 38 "MoorTriangles$Mesh" "cairns" "I") fl_X0_listTriangles_38) (fun _ h9 => h9) rfl dX0_listTriangles_9 ?_
      refine lv_icmp_ge (tgt := 78) hx hb dX0_listTriangles_12 (by decide) (fun c_3 => ?_) (fun c_3 => ?_)
      · have hge_i : n ≤ i := nI_le_le (by omega) (by omega) c_3
        have heq_i : i = n := by omega
        have hl : lv_has ls 5 [(1, .int (nI n)), (0, .ref h)] := by rw [heq_i] at hl; exact hl
        have hP : va_P (dC, dI) vwCl (wM cI h qx qy ql qs qc n ((m_ltO lf n (0, co) n).1) xs ys lf sy ((m_ltO lf n (0, co) n).2)) H := by rw [heq_i] at hP; exact hP
        have hD : va_D A (wM cI h qx qy ql qs qc n ((m_ltO lf n (0, co) n).1) xs ys lf sy ((m_ltO lf n (0, co) n).2)) := by rw [heq_i] at hD; exact hD
        have e_t : ((m_list n lf co).1 : Nat) = (m_ltO lf n (0, co) n).1 := by rfl
        have e_co : ((m_list n lf co).2 : Nat → Int32) = (m_ltO lf n (0, co) n).2 := by rfl
        have hP : va_P (dC, dI) vwCl (wM cI h qx qy ql qs qc n ((m_list n lf co).1) xs ys lf sy ((m_list n lf co).2)) H := by rw [e_t, e_co]; exact hP
        have hD : va_D A (wM cI h qx qy ql qs qc n ((m_list n lf co).1) xs ys lf sy ((m_list n lf co).2)) := by rw [e_t, e_co]; exact hD
        exact wr_vret hx hb hr hlocks hP hK hD hS dX0_listTriangles_78
      · have hlt_i : i < n := nI_nle_lt (by omega) (by omega) c_3
        refine lv_iload_n hx hb dX0_listTriangles_15 rfl (lv_at hl 0 rfl) ?_
        refine lv_iconst (v := 1) hx hb dX0_listTriangles_16 (by decide) ?_
        refine lv_iadd hx hb dX0_listTriangles_17 ?_
        refine lv_istore_n (lv' := [(2, .int ((nI i) + 1)), (1, .int (nI i)), (0, .ref h)]) hx hb dX0_listTriangles_18 rfl hl (by decide) rfl (fun ls hl => ?_)
        have hL19 : ∀ (k_4 : Nat) (j : Nat), (n - j) < k_4 → (j ≤ n) → (i < j) → ∀ ls : Array Slot, lv_has ls 5 [(2, .int (nI j)), (1, .int (nI i)), (0, .ref h)] → ∀ (H : Heap) (locs : List Loc), va_P (dC, dI) vwCl (wM cI h qx qy ql qs qc n ((m_ltI lf i (m_ltO lf n (0, co) i) j).1) xs ys lf sy ((m_ltI lf i (m_ltO lf n (0, co) i) j).2)) H → va_D A (wM cI h qx qy ql qs qc n ((m_ltI lf i (m_ltO lf n (0, co) i) j).1) xs ys lf sy ((m_ltI lf i (m_ltO lf n (0, co) i) j).2)) → va_S A s.heap H locs → W p l e ({ frames := 1, cells := 0, slots := 0, locals := 23 } : Room) s m ([.ref h] : List Value).toArray below meth c H locs 0 0 (MQ below (wrQv (dC, dI) (gTY cI cZ cY) (wM cI h qx qy ql qs qc n ((m_list n lf co).1) xs ys lf sy ((m_list n lf co).2)) A) ([.ref h] : List Value).toArray s 0 0 A) (F0 m 19 ls []) := by
          intro k_4
          induction k_4 with
          | zero => intro j hk; exact absurd hk (Nat.not_lt_zero _)
          | succ k_4 ih_5 =>
            intro j hk_19 hi_j hij ls hl H locs hP hD hS
            refine lv_iload_n hx hb dX0_listTriangles_19 rfl (lv_at hl 0 rfl) ?_
            refine lv_aload_n hx hb dX0_listTriangles_20 rfl (lv_at hl 2 rfl) ?_
            refine va_get (D := (dC, dI)) (ci := 0) (v := .int (nI n)) (C := RX0) (T := TX0) (N := 7) hx hb hts in_X0_listTriangles_X0 hown hK hP 0 rfl rfl 0 (by decide) (hts (.fieldLink RX0 38 "MoorTriangles$Mesh" "cairns" "I") fl_X0_listTriangles_38) (fun _ h9 => h9) rfl dX0_listTriangles_21 ?_
            refine lv_icmp_ge (tgt := 72) hx hb dX0_listTriangles_24 (by decide) (fun c_6 => ?_) (fun c_6 => ?_)
            · have hge_j : n ≤ j := nI_le_le (by omega) (by omega) c_6
              have heq_j : j = n := by omega
              have hl : lv_has ls 5 [(2, .int (nI n)), (1, .int (nI i)), (0, .ref h)] := by rw [heq_j] at hl; exact hl
              have hP : va_P (dC, dI) vwCl (wM cI h qx qy ql qs qc n ((m_ltI lf i (m_ltO lf n (0, co) i) n).1) xs ys lf sy ((m_ltI lf i (m_ltO lf n (0, co) i) n).2)) H := by rw [heq_j] at hP; exact hP
              have hD : va_D A (wM cI h qx qy ql qs qc n ((m_ltI lf i (m_ltO lf n (0, co) i) n).1) xs ys lf sy ((m_ltI lf i (m_ltO lf n (0, co) i) n).2)) := by rw [heq_j] at hD; exact hD
              refine lv_iinc (v := nI (i + 1)) (lv' := [(1, .int (nI (i + 1))), (2, .int (nI n)), (0, .ref h)]) hx hb dX0_listTriangles_72 hl (k := 1) rfl (nI_1 _) (by decide) rfl (fun ls hl => ?_)
              refine lv_goto (tgt := 7) hx hb dX0_listTriangles_75 (by decide) ?_
              have hl := lv_sub (l' := [(1, .int (nI (i + 1))), (0, .ref h)]) hl [0, 2] rfl
              have hl : lv_has ls 5 [(1, .int (nI (i + 1))), (0, .ref h)] := by
                have e9 : [(1, .int (nI (i + 1))), (0, .ref h)] = ([(1, .int (nI (i + 1))), (0, .ref h)] : List (Nat × Value)) := by rfl
                rw [← e9]; exact hl
              have e_t : ((m_ltO lf n (0, co) (i + 1)).1 : Nat) = (m_ltI lf i (m_ltO lf n (0, co) i) n).1 := by rfl
              have e_co : ((m_ltO lf n (0, co) (i + 1)).2 : Nat → Int32) = (m_ltI lf i (m_ltO lf n (0, co) i) n).2 := by rfl
              have hP : va_P (dC, dI) vwCl (wM cI h qx qy ql qs qc n ((m_ltO lf n (0, co) (i + 1)).1) xs ys lf sy ((m_ltO lf n (0, co) (i + 1)).2)) H := by rw [e_t, e_co]; exact hP
              have hD : va_D A (wM cI h qx qy ql qs qc n ((m_ltO lf n (0, co) (i + 1)).1) xs ys lf sy ((m_ltO lf n (0, co) (i + 1)).2)) := by rw [e_t, e_co]; exact hD
              exact ih_2 (i + 1) (by omega) (by omega) _ hl _ _ hP hD hS
            · have hlt_j : j < n := nI_nle_lt (by omega) (by omega) c_6
              refine lv_aload_n hx hb dX0_listTriangles_27 rfl (lv_at hl 2 rfl) ?_
              refine lv_iload_n hx hb dX0_listTriangles_28 rfl (lv_at hl 1 rfl) ?_
              refine lv_iload_n hx hb dX0_listTriangles_29 rfl (lv_at hl 0 rfl) ?_
              refine rd_cVi (As := [.int (nI i), .int (nI j)]) (rest := []) F (c_X0_leftOf l dC dI cI cZ cY h qx qy ql qs qc n ((m_ltI lf i (m_ltO lf n (0, co) i) j).1) xs ys lf sy ((m_ltI lf i (m_ltO lf n (0, co) i) j).2) (nI i) (nI j)) (cwV 2 hts gX0_listTriangles_X0_leftOf rfl rfl rfl hd_X0_leftOf ⟨Nat.le_of_ble_eq_true rfl, Nat.le_of_ble_eq_true rfl⟩) hP hK (va_recv hK hP (ci := 0) (q0 := 0) rfl rfl) rfl hl.1 rfl (lv_room (Nat.le_of_ble_eq_true rfl)) dX0_listTriangles_30 ⟨Nat.zero_le _, Nat.zero_le _⟩ ?_
              refine lv_istore_n (lv' := [(3, .int (m_leftOf lf (nI i) (nI j))), (2, .int (nI j)), (1, .int (nI i)), (0, .ref h)]) hx hb dX0_listTriangles_33 rfl hl (by decide) rfl (fun ls hl => ?_)
              refine lv_aload_n hx hb dX0_listTriangles_34 rfl (lv_at hl 3 rfl) ?_
              refine lv_iload_n hx hb dX0_listTriangles_35 rfl (lv_at hl 1 rfl) ?_
              refine lv_iload_n hx hb dX0_listTriangles_36 rfl (lv_at hl 2 rfl) ?_
              refine rd_cVi (As := [.int (nI j), .int (nI i)]) (rest := []) F (c_X0_leftOf l dC dI cI cZ cY h qx qy ql qs qc n ((m_ltI lf i (m_ltO lf n (0, co) i) j).1) xs ys lf sy ((m_ltI lf i (m_ltO lf n (0, co) i) j).2) (nI j) (nI i)) (cwV 2 hts gX0_listTriangles_X0_leftOf rfl rfl rfl hd_X0_leftOf ⟨Nat.le_of_ble_eq_true rfl, Nat.le_of_ble_eq_true rfl⟩) hP hK (va_recv hK hP (ci := 0) (q0 := 0) rfl rfl) rfl hl.1 rfl (lv_room (Nat.le_of_ble_eq_true rfl)) dX0_listTriangles_37 ⟨Nat.zero_le _, Nat.zero_le _⟩ ?_
              refine lv_istore (lv' := [(4, .int (m_leftOf lf (nI j) (nI i))), (3, .int (m_leftOf lf (nI i) (nI j))), (2, .int (nI j)), (1, .int (nI i)), (0, .ref h)]) hx hb dX0_listTriangles_40 hl (by decide) rfl (fun ls hl => ?_)
              refine lv_aload_n hx hb dX0_listTriangles_42 rfl (lv_at hl 4 rfl) ?_
              refine lv_iload_n hx hb dX0_listTriangles_43 rfl (lv_at hl 3 rfl) ?_
              refine lv_iload_n hx hb dX0_listTriangles_44 rfl (lv_at hl 2 rfl) ?_
              refine lv_iload_n hx hb dX0_listTriangles_45 rfl (lv_at hl 1 rfl) ?_
              refine lv_iload hx hb dX0_listTriangles_46 (lv_at hl 0 rfl) ?_
              refine va_mmin hx hb (hml.trans hl.1.symm) hown (hts _ ma0_X0_listTriangles_min) (hts _ ma1_X0_listTriangles_min) (hts _ ma2_X0_listTriangles_min) (hts _ ma3_X0_listTriangles_min) (Nat.le_of_ble_eq_true rfl) (Nat.le_of_ble_eq_true rfl) (Nat.zero_le _) (Nat.zero_le _) dX0_listTriangles_48 ?_
              show W _ _ _ _ _ _ _ _ _ _ _ _ _ _ _ (F0 _ _ _ (.int (min32 (m_leftOf lf (nI i) (nI j)) (m_leftOf lf (nI j) (nI i))) :: _))
              refine wr_cVv (As := [.int (nI i), .int (nI j), .int (min32 (m_leftOf lf (nI i) (nI j)) (m_leftOf lf (nI j) (nI i)))]) (rest := []) (wr := []) F (c_X0_listTriangle l dC dI cI cZ cY h qx qy ql qs qc n ((m_ltI lf i (m_ltO lf n (0, co) i) j).1) xs ys lf sy ((m_ltI lf i (m_ltO lf n (0, co) i) j).2) (nI i) (nI j) (min32 (m_leftOf lf (nI i) (nI j)) (m_leftOf lf (nI j) (nI i))) H.size (m_ltI_le (m_ltO_le (Nat.zero_le 28) _) _)) (cwV 3 hts gX0_listTriangles_X0_listTriangle rfl rfl rfl hd_X0_listTriangle ⟨Nat.le_of_ble_eq_true rfl, Nat.le_of_ble_eq_true rfl⟩) hP hK hD hS hA [0, 1, 2, 3, 4, 5] [] rfl rfl (by decide) rfl (by decide) (by decide) (va_recv hK hP (ci := 0) (q0 := 0) rfl rfl) rfl hl.1 rfl (lv_room (Nat.le_of_ble_eq_true rfl)) dX0_listTriangles_51 ⟨Nat.zero_le _, Nat.zero_le _⟩ (fun H locs hP hD hS => ?_)
              have hP : va_P (dC, dI) vwCl (wM cI h qx qy ql qs qc n ((m_lt1 (((m_ltI lf i (m_ltO lf n (0, co) i) j).1), ((m_ltI lf i (m_ltO lf n (0, co) i) j).2)) (nI i) (nI j) (min32 (m_leftOf lf (nI i) (nI j)) (m_leftOf lf (nI j) (nI i)))).1) xs ys lf sy ((m_lt1 (((m_ltI lf i (m_ltO lf n (0, co) i) j).1), ((m_ltI lf i (m_ltO lf n (0, co) i) j).2)) (nI i) (nI j) (min32 (m_leftOf lf (nI i) (nI j)) (m_leftOf lf (nI j) (nI i)))).2)) H := hP
              have hD : va_D A (wM cI h qx qy ql qs qc n ((m_lt1 (((m_ltI lf i (m_ltO lf n (0, co) i) j).1), ((m_ltI lf i (m_ltO lf n (0, co) i) j).2)) (nI i) (nI j) (min32 (m_leftOf lf (nI i) (nI j)) (m_leftOf lf (nI j) (nI i)))).1) xs ys lf sy ((m_lt1 (((m_ltI lf i (m_ltO lf n (0, co) i) j).1), ((m_ltI lf i (m_ltO lf n (0, co) i) j).2)) (nI i) (nI j) (min32 (m_leftOf lf (nI i) (nI j)) (m_leftOf lf (nI j) (nI i)))).2)) := hD
              refine lv_aload_n hx hb dX0_listTriangles_54 rfl (lv_at hl 4 rfl) ?_
              refine lv_iload_n hx hb dX0_listTriangles_55 rfl (lv_at hl 3 rfl) ?_
              refine lv_iload_n hx hb dX0_listTriangles_56 rfl (lv_at hl 2 rfl) ?_
              refine lv_iload_n hx hb dX0_listTriangles_57 rfl (lv_at hl 1 rfl) ?_
              refine lv_iload hx hb dX0_listTriangles_58 (lv_at hl 0 rfl) ?_
              refine va_mmax hx hb (hml.trans hl.1.symm) hown (hts _ ma0_X0_listTriangles_max) (hts _ ma1_X0_listTriangles_max) (hts _ ma2_X0_listTriangles_max) (hts _ ma3_X0_listTriangles_max) (Nat.le_of_ble_eq_true rfl) (Nat.le_of_ble_eq_true rfl) (Nat.zero_le _) (Nat.zero_le _) dX0_listTriangles_60 ?_
              show W _ _ _ _ _ _ _ _ _ _ _ _ _ _ _ (F0 _ _ _ (.int (max32 (m_leftOf lf (nI i) (nI j)) (m_leftOf lf (nI j) (nI i))) :: _))
              refine wr_cVv (As := [.int (nI i), .int (nI j), .int (max32 (m_leftOf lf (nI i) (nI j)) (m_leftOf lf (nI j) (nI i)))]) (rest := []) (wr := []) F (c_X0_listTriangle l dC dI cI cZ cY h qx qy ql qs qc n ((m_lt1 (((m_ltI lf i (m_ltO lf n (0, co) i) j).1), ((m_ltI lf i (m_ltO lf n (0, co) i) j).2)) (nI i) (nI j) (min32 (m_leftOf lf (nI i) (nI j)) (m_leftOf lf (nI j) (nI i)))).1) xs ys lf sy ((m_lt1 (((m_ltI lf i (m_ltO lf n (0, co) i) j).1), ((m_ltI lf i (m_ltO lf n (0, co) i) j).2)) (nI i) (nI j) (min32 (m_leftOf lf (nI i) (nI j)) (m_leftOf lf (nI j) (nI i)))).2) (nI i) (nI j) (max32 (m_leftOf lf (nI i) (nI j)) (m_leftOf lf (nI j) (nI i))) H.size (m_lt1_le (m_ltI_le (m_ltO_le (Nat.zero_le 28) _) _))) (cwV 3 hts gX0_listTriangles_X0_listTriangle rfl rfl rfl hd_X0_listTriangle ⟨Nat.le_of_ble_eq_true rfl, Nat.le_of_ble_eq_true rfl⟩) hP hK hD hS hA [0, 1, 2, 3, 4, 5] [] rfl rfl (by decide) rfl (by decide) (by decide) (va_recv hK hP (ci := 0) (q0 := 0) rfl rfl) rfl hl.1 rfl (lv_room (Nat.le_of_ble_eq_true rfl)) dX0_listTriangles_63 ⟨Nat.zero_le _, Nat.zero_le _⟩ (fun H locs hP hD hS => ?_)
              have hP : va_P (dC, dI) vwCl (wM cI h qx qy ql qs qc n ((m_lt1 (((m_lt1 (((m_ltI lf i (m_ltO lf n (0, co) i) j).1), ((m_ltI lf i (m_ltO lf n (0, co) i) j).2)) (nI i) (nI j) (min32 (m_leftOf lf (nI i) (nI j)) (m_leftOf lf (nI j) (nI i)))).1), ((m_lt1 (((m_ltI lf i (m_ltO lf n (0, co) i) j).1), ((m_ltI lf i (m_ltO lf n (0, co) i) j).2)) (nI i) (nI j) (min32 (m_leftOf lf (nI i) (nI j)) (m_leftOf lf (nI j) (nI i)))).2)) (nI i) (nI j) (max32 (m_leftOf lf (nI i) (nI j)) (m_leftOf lf (nI j) (nI i)))).1) xs ys lf sy ((m_lt1 (((m_lt1 (((m_ltI lf i (m_ltO lf n (0, co) i) j).1), ((m_ltI lf i (m_ltO lf n (0, co) i) j).2)) (nI i) (nI j) (min32 (m_leftOf lf (nI i) (nI j)) (m_leftOf lf (nI j) (nI i)))).1), ((m_lt1 (((m_ltI lf i (m_ltO lf n (0, co) i) j).1), ((m_ltI lf i (m_ltO lf n (0, co) i) j).2)) (nI i) (nI j) (min32 (m_leftOf lf (nI i) (nI j)) (m_leftOf lf (nI j) (nI i)))).2)) (nI i) (nI j) (max32 (m_leftOf lf (nI i) (nI j)) (m_leftOf lf (nI j) (nI i)))).2)) H := hP
              have hD : va_D A (wM cI h qx qy ql qs qc n ((m_lt1 (((m_lt1 (((m_ltI lf i (m_ltO lf n (0, co) i) j).1), ((m_ltI lf i (m_ltO lf n (0, co) i) j).2)) (nI i) (nI j) (min32 (m_leftOf lf (nI i) (nI j)) (m_leftOf lf (nI j) (nI i)))).1), ((m_lt1 (((m_ltI lf i (m_ltO lf n (0, co) i) j).1), ((m_ltI lf i (m_ltO lf n (0, co) i) j).2)) (nI i) (nI j) (min32 (m_leftOf lf (nI i) (nI j)) (m_leftOf lf (nI j) (nI i)))).2)) (nI i) (nI j) (max32 (m_leftOf lf (nI i) (nI j)) (m_leftOf lf (nI j) (nI i)))).1) xs ys lf sy ((m_lt1 (((m_lt1 (((m_ltI lf i (m_ltO lf n (0, co) i) j).1), ((m_ltI lf i (m_ltO lf n (0, co) i) j).2)) (nI i) (nI j) (min32 (m_leftOf lf (nI i) (nI j)) (m_leftOf lf (nI j) (nI i)))).1), ((m_lt1 (((m_ltI lf i (m_ltO lf n (0, co) i) j).1), ((m_ltI lf i (m_ltO lf n (0, co) i) j).2)) (nI i) (nI j) (min32 (m_leftOf lf (nI i) (nI j)) (m_leftOf lf (nI j) (nI i)))).2)) (nI i) (nI j) (max32 (m_leftOf lf (nI i) (nI j)) (m_leftOf lf (nI j) (nI i)))).2)) := hD
              refine lv_iinc (v := nI (j + 1)) (lv' := [(2, .int (nI (j + 1))), (4, .int (m_leftOf lf (nI j) (nI i))), (3, .int (m_leftOf lf (nI i) (nI j))), (1, .int (nI i)), (0, .ref h)]) hx hb dX0_listTriangles_66 hl (k := 2) rfl (nI_1 _) (by decide) rfl (fun ls hl => ?_)
              refine lv_goto (tgt := 19) hx hb dX0_listTriangles_69 (by decide) ?_
              have hl := lv_sub (l' := [(2, .int (nI (j + 1))), (1, .int (nI i)), (0, .ref h)]) hl [0, 3, 4] rfl
              have hl : lv_has ls 5 [(2, .int (nI (j + 1))), (1, .int (nI i)), (0, .ref h)] := by
                have e9 : [(2, .int (nI (j + 1))), (1, .int (nI i)), (0, .ref h)] = ([(2, .int (nI (j + 1))), (1, .int (nI i)), (0, .ref h)] : List (Nat × Value)) := by rfl
                rw [← e9]; exact hl
              have e_t : ((m_ltI lf i (m_ltO lf n (0, co) i) (j + 1)).1 : Nat) = (m_lt1 (((m_lt1 (((m_ltI lf i (m_ltO lf n (0, co) i) j).1), ((m_ltI lf i (m_ltO lf n (0, co) i) j).2)) (nI i) (nI j) (min32 (m_leftOf lf (nI i) (nI j)) (m_leftOf lf (nI j) (nI i)))).1), ((m_lt1 (((m_ltI lf i (m_ltO lf n (0, co) i) j).1), ((m_ltI lf i (m_ltO lf n (0, co) i) j).2)) (nI i) (nI j) (min32 (m_leftOf lf (nI i) (nI j)) (m_leftOf lf (nI j) (nI i)))).2)) (nI i) (nI j) (max32 (m_leftOf lf (nI i) (nI j)) (m_leftOf lf (nI j) (nI i)))).1 := by rw [m_ltI_hi hij]; rfl
              have e_co : ((m_ltI lf i (m_ltO lf n (0, co) i) (j + 1)).2 : Nat → Int32) = (m_lt1 (((m_lt1 (((m_ltI lf i (m_ltO lf n (0, co) i) j).1), ((m_ltI lf i (m_ltO lf n (0, co) i) j).2)) (nI i) (nI j) (min32 (m_leftOf lf (nI i) (nI j)) (m_leftOf lf (nI j) (nI i)))).1), ((m_lt1 (((m_ltI lf i (m_ltO lf n (0, co) i) j).1), ((m_ltI lf i (m_ltO lf n (0, co) i) j).2)) (nI i) (nI j) (min32 (m_leftOf lf (nI i) (nI j)) (m_leftOf lf (nI j) (nI i)))).2)) (nI i) (nI j) (max32 (m_leftOf lf (nI i) (nI j)) (m_leftOf lf (nI j) (nI i)))).2 := by rw [m_ltI_hi hij]; rfl
              have hP : va_P (dC, dI) vwCl (wM cI h qx qy ql qs qc n ((m_ltI lf i (m_ltO lf n (0, co) i) (j + 1)).1) xs ys lf sy ((m_ltI lf i (m_ltO lf n (0, co) i) (j + 1)).2)) H := by rw [e_t, e_co]; exact hP
              have hD : va_D A (wM cI h qx qy ql qs qc n ((m_ltI lf i (m_ltO lf n (0, co) i) (j + 1)).1) xs ys lf sy ((m_ltI lf i (m_ltO lf n (0, co) i) (j + 1)).2)) := by rw [e_t, e_co]; exact hD
              exact ih_5 (j + 1) (by omega) (by omega) (by omega) _ hl _ _ hP hD hS
        have hl := lv_sub (l' := [(2, .int ((nI i) + 1)), (1, .int (nI i)), (0, .ref h)]) hl [0, 1, 2] rfl
        have hl : lv_has ls 5 [(2, .int (nI (i + 1))), (1, .int (nI i)), (0, .ref h)] := by
          have e9 : [(2, .int ((nI i) + 1)), (1, .int (nI i)), (0, .ref h)] = ([(2, .int (nI (i + 1))), (1, .int (nI i)), (0, .ref h)] : List (Nat × Value)) := by rw [nI_1]
          rw [← e9]; exact hl
        have e_t : ((m_ltI lf i (m_ltO lf n (0, co) i) (i + 1)).1 : Nat) = (m_ltO lf n (0, co) i).1 := by rw [m_ltI_lo (Nat.le_refl _)]
        have e_co : ((m_ltI lf i (m_ltO lf n (0, co) i) (i + 1)).2 : Nat → Int32) = (m_ltO lf n (0, co) i).2 := by rw [m_ltI_lo (Nat.le_refl _)]
        have hP : va_P (dC, dI) vwCl (wM cI h qx qy ql qs qc n ((m_ltI lf i (m_ltO lf n (0, co) i) (i + 1)).1) xs ys lf sy ((m_ltI lf i (m_ltO lf n (0, co) i) (i + 1)).2)) H := by rw [e_t, e_co]; exact hP
        have hD : va_D A (wM cI h qx qy ql qs qc n ((m_ltI lf i (m_ltO lf n (0, co) i) (i + 1)).1) xs ys lf sy ((m_ltI lf i (m_ltO lf n (0, co) i) (i + 1)).2)) := by rw [e_t, e_co]; exact hD
        exact hL19 _ (i + 1) (Nat.lt_succ_self _) (by omega) (by omega) _ hl _ _ hP hD hS
  have hl := lv_sub (l' := [(1, .int 0), (0, .ref h)]) hl [0, 1] rfl
  have hl : lv_has ls 5 [(1, .int (nI 0)), (0, .ref h)] := by
    have e9 : [(1, .int 0), (0, .ref h)] = ([(1, .int (nI 0)), (0, .ref h)] : List (Nat × Value)) := by rfl
    rw [← e9]; exact hl
  have e_t : ((m_ltO lf n (0, co) 0).1 : Nat) = 0 := by rfl
  have e_co : ((m_ltO lf n (0, co) 0).2 : Nat → Int32) = co := by rfl
  have hP : va_P (dC, dI) vwCl (wM cI h qx qy ql qs qc n ((m_ltO lf n (0, co) 0).1) xs ys lf sy ((m_ltO lf n (0, co) 0).2)) H := by rw [e_t, e_co]; exact hP
  have hD : va_D A (wM cI h qx qy ql qs qc n ((m_ltO lf n (0, co) 0).1) xs ys lf sy ((m_ltO lf n (0, co) 0).2)) := by rw [e_t, e_co]; exact hD
  exact hL7 _ 0 (Nat.lt_succ_self _) (by omega) _ hl _ _ hP hD hS
