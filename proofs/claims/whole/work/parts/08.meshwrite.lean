theorem hd_X0_setStay : yX0_setStay.cls = RX0 ∧ yX0_setStay.cls ≠ "java/lang/invoke/MethodHandle" ∧ yX0_setStay.cls ≠ "java/lang/invoke/VarHandle" ∧ (parseMethodDescriptor yX0_setStay.desc).map (fun d => d.parameters.length) = some 3 := by decide +kernel
theorem hd_X0_setLefts : yX0_setLefts.cls = RX0 ∧ yX0_setLefts.cls ≠ "java/lang/invoke/MethodHandle" ∧ yX0_setLefts.cls ≠ "java/lang/invoke/VarHandle" ∧ (parseMethodDescriptor yX0_setLefts.desc).map (fun d => d.parameters.length) = some 6 := by decide +kernel
theorem hd_X0_addTriangle : yX0_addTriangle.cls = RX0 ∧ yX0_addTriangle.cls ≠ "java/lang/invoke/MethodHandle" ∧ yX0_addTriangle.cls ≠ "java/lang/invoke/VarHandle" ∧ (parseMethodDescriptor yX0_addTriangle.desc).map (fun d => d.parameters.length) = some 3 := by decide +kernel
theorem hd_X0_removeTriangle : yX0_removeTriangle.cls = RX0 ∧ yX0_removeTriangle.cls ≠ "java/lang/invoke/MethodHandle" ∧ yX0_removeTriangle.cls ≠ "java/lang/invoke/VarHandle" ∧ (parseMethodDescriptor yX0_removeTriangle.desc).map (fun d => d.parameters.length) = some 3 := by decide +kernel
theorem hd_X0_cutTriangle : yX0_cutTriangle.cls = RX0 ∧ yX0_cutTriangle.cls ≠ "java/lang/invoke/MethodHandle" ∧ yX0_cutTriangle.cls ≠ "java/lang/invoke/VarHandle" ∧ (parseMethodDescriptor yX0_cutTriangle.desc).map (fun d => d.parameters.length) = some 4 := by decide +kernel
theorem hd_X0_listTriangle : yX0_listTriangle.cls = RX0 ∧ yX0_listTriangle.cls ≠ "java/lang/invoke/MethodHandle" ∧ yX0_listTriangle.cls ≠ "java/lang/invoke/VarHandle" ∧ (parseMethodDescriptor yX0_listTriangle.desc).map (fun d => d.parameters.length) = some 3 := by decide +kernel
theorem hd_X0_listTriangles : yX0_listTriangles.cls = RX0 ∧ yX0_listTriangles.cls ≠ "java/lang/invoke/MethodHandle" ∧ yX0_listTriangles.cls ≠ "java/lang/invoke/VarHandle" ∧ (parseMethodDescriptor yX0_listTriangles.desc).map (fun d => d.parameters.length) = some 0 := by decide +kernel
theorem hd_X0_turnEdge : yX0_turnEdge.cls = RX0 ∧ yX0_turnEdge.cls ≠ "java/lang/invoke/MethodHandle" ∧ yX0_turnEdge.cls ≠ "java/lang/invoke/VarHandle" ∧ (parseMethodDescriptor yX0_turnEdge.desc).map (fun d => d.parameters.length) = some 2 := by decide +kernel
theorem hd_X0_addCairn : yX0_addCairn.cls = RX0 ∧ yX0_addCairn.cls ≠ "java/lang/invoke/MethodHandle" ∧ yX0_addCairn.cls ≠ "java/lang/invoke/VarHandle" ∧ (parseMethodDescriptor yX0_addCairn.desc).map (fun d => d.parameters.length) = some 2 := by decide +kernel
theorem hd_X0_cutEdge : yX0_cutEdge.cls = RX0 ∧ yX0_cutEdge.cls ≠ "java/lang/invoke/MethodHandle" ∧ yX0_cutEdge.cls ≠ "java/lang/invoke/VarHandle" ∧ (parseMethodDescriptor yX0_cutEdge.desc).map (fun d => d.parameters.length) = some 3 := by decide +kernel
theorem hd_X0_turnFirstUnfairEdge : yX0_turnFirstUnfairEdge.cls = RX0 ∧ yX0_turnFirstUnfairEdge.cls ≠ "java/lang/invoke/MethodHandle" ∧ yX0_turnFirstUnfairEdge.cls ≠ "java/lang/invoke/VarHandle" ∧ (parseMethodDescriptor yX0_turnFirstUnfairEdge.desc).map (fun d => d.parameters.length) = some 0 := by decide +kernel
theorem hd_X0_turnUnfairEdges : yX0_turnUnfairEdges.cls = RX0 ∧ yX0_turnUnfairEdges.cls ≠ "java/lang/invoke/MethodHandle" ∧ yX0_turnUnfairEdges.cls ≠ "java/lang/invoke/VarHandle" ∧ (parseMethodDescriptor yX0_turnUnfairEdges.desc).map (fun d => d.parameters.length) = some 0 := by decide +kernel
theorem hd_X0_insert : yX0_insert.cls = RX0 ∧ yX0_insert.cls ≠ "java/lang/invoke/MethodHandle" ∧ yX0_insert.cls ≠ "java/lang/invoke/VarHandle" ∧ (parseMethodDescriptor yX0_insert.desc).map (fun d => d.parameters.length) = some 2 := by decide +kernel
theorem in_X0_setStay_X0 : ∀ w ∈ wsX00, w ∈ wsX0_setStay := by decide +kernel
theorem fl_X0_setStay_21 : (Cond.fieldLink RX0 21 "MoorTriangles$Mesh" "stays" "[I") ∈ wsX0_setStay := by decide +kernel
set_option maxHeartbeats 4000000 in
set_option maxRecDepth 100000 in
theorem c_X0_setStay (l : Launch) (dC : Nat → ClassId) (dI : Nat → Nat → Nat) (cI cZ cY : ClassId) (h qx qy ql qs qc : Nat) (n t : Nat) (xs ys lf sy co : Nat → Int32) (a : Int32) (b : Int32) (z : Int32) (sz : Nat) : Met l yX0_setStay wsX0_setStay ({ frames := 1, cells := 0, slots := 0, locals := 21 }) (va_Pc [.ref h, .int a, .int b, .int z] (wrP (dC, dI) (gTY cI cZ cY) (wM cI h qx qy ql qs qc n t xs ys lf sy co) sz)) (wrQv (dC, dI) (gTY cI cZ cY) (wM cI h qx qy ql qs qc n t xs ys lf (m_setSt n sy a b z) co) (va_A (wM cI h qx qy ql qs qc n t xs ys lf sy co) sz)) 0 0 (va_A (wM cI h qx qy ql qs qc n t xs ys lf sy co) sz) := by
  refine wr_start (cc := cX0_setStay) (maxL := 4) (ret := none) (Q0 := wrQv (dC, dI) (gTY cI cZ cY) (wM cI h qx qy ql qs qc n t xs ys lf (m_setSt n sy a b z) co)) RX0 (by decide) rfl rfl (Nat.le_of_ble_eq_true rfl) ?_
  intro p e s m below meth c ⟨hx, hb, hr, hml, hown, hts, hlocks, hin⟩ hP hK A hD hA hS ls hl
  have F : CallFix p m c cX0_setStay 4 s ([.ref h, .int a, .int b, .int z] : List Value).toArray wsX0_setStay RX0 := ⟨hx, hb, hml, hown, hts⟩
  have hl : lv_has ls 4 [(0, .ref h), (1, .int a), (2, .int b), (3, .int z)] := hl
  refine lv_aload_n hx hb dX0_setStay_0 rfl (lv_at hl 0 rfl) ?_
  refine lv_iload_n hx hb dX0_setStay_1 rfl (lv_at hl 1 rfl) ?_
  refine rd_cVi (As := [.int a]) (rest := []) F (c_X0_isCairn l dC dI cI cZ cY h qx qy ql qs qc n t xs ys lf sy co a) (cwV 1 hts gX0_setStay_X0_isCairn rfl rfl rfl hd_X0_isCairn ⟨Nat.le_of_ble_eq_true rfl, Nat.le_of_ble_eq_true rfl⟩) hP hK (va_recv hK hP (ci := 0) (q0 := 0) rfl rfl) rfl hl.1 rfl (lv_room (Nat.le_of_ble_eq_true rfl)) dX0_setStay_2 ⟨Nat.zero_le _, Nat.zero_le _⟩ ?_
  refine lv_if_eqB (tgt := 56) hx hb dX0_setStay_5 (by decide) (fun c_1 => ?_) (fun c_1 => ?_)
  · have e_sy : (m_setSt n sy a b z : Nat → Int32) = sy := by first | contradiction | rfl | (simp only [m_setSt, m_01, c_1]; done) | (simp only [m_setSt, m_01, c_1]; rfl) | (simp [m_setSt, m_01, c_1]; done)
    have hP : va_P (dC, dI) vwCl (wM cI h qx qy ql qs qc n t xs ys lf (m_setSt n sy a b z) co) s.heap := by rw [e_sy]; exact hP
    have hD : va_D A (wM cI h qx qy ql qs qc n t xs ys lf (m_setSt n sy a b z) co) := by rw [e_sy]; exact hD
    exact wr_vret hx hb hr hlocks hP hK hD hS dX0_setStay_56
  · refine lv_aload_n hx hb dX0_setStay_8 rfl (lv_at hl 0 rfl) ?_
    refine lv_iload_n hx hb dX0_setStay_9 rfl (lv_at hl 2 rfl) ?_
    refine rd_cVi (As := [.int b]) (rest := []) F (c_X0_isCairn l dC dI cI cZ cY h qx qy ql qs qc n t xs ys lf sy co b) (cwV 1 hts gX0_setStay_X0_isCairn rfl rfl rfl hd_X0_isCairn ⟨Nat.le_of_ble_eq_true rfl, Nat.le_of_ble_eq_true rfl⟩) hP hK (va_recv hK hP (ci := 0) (q0 := 0) rfl rfl) rfl hl.1 rfl (lv_room (Nat.le_of_ble_eq_true rfl)) dX0_setStay_10 ⟨Nat.zero_le _, Nat.zero_le _⟩ ?_
    refine lv_if_eqB (tgt := 56) hx hb dX0_setStay_13 (by decide) (fun c_2 => ?_) (fun c_2 => ?_)
    · have e_sy : (m_setSt n sy a b z : Nat → Int32) = sy := by first | contradiction | rfl | (simp only [m_setSt, m_01, c_1, c_2]; done) | (simp only [m_setSt, m_01, c_1, c_2]; rfl) | (simp [m_setSt, m_01, c_1, c_2]; done)
      have hP : va_P (dC, dI) vwCl (wM cI h qx qy ql qs qc n t xs ys lf (m_setSt n sy a b z) co) s.heap := by rw [e_sy]; exact hP
      have hD : va_D A (wM cI h qx qy ql qs qc n t xs ys lf (m_setSt n sy a b z) co) := by rw [e_sy]; exact hD
      exact wr_vret hx hb hr hlocks hP hK hD hS dX0_setStay_56
    · refine lv_aload_n hx hb dX0_setStay_16 rfl (lv_at hl 0 rfl) ?_
      refine va_get (D := (dC, dI)) (ci := 0) (v := .ref qs) (C := RX0) (T := TX0) (N := 7) hx hb hts in_X0_setStay_X0 hown hK hP 0 rfl rfl 5 (by decide) (hts (.fieldLink RX0 21 "MoorTriangles$Mesh" "stays" "[I") fl_X0_setStay_21) (fun _ h9 => h9) rfl dX0_setStay_17 ?_
      refine lv_iload_n hx hb dX0_setStay_20 rfl (lv_at hl 1 rfl) ?_
      refine lv_bipush (v := 17) hx hb dX0_setStay_21 (by decide) ?_
      refine lv_imul hx hb dX0_setStay_23 ?_
      refine lv_iload_n hx hb dX0_setStay_24 rfl (lv_at hl 2 rfl) ?_
      refine lv_iadd hx hb dX0_setStay_25 ?_
      refine lv_iload_n hx hb dX0_setStay_26 rfl (lv_at hl 3 rfl) ?_
      refine lv_if_eq (tgt := 34) hx hb dX0_setStay_27 (by decide) (fun c_3 => ?_) (fun c_3 => ?_)
      · refine lv_iconst (v := 0) hx hb dX0_setStay_34 (by decide) ?_
        refine va_iast (D := (dC, dI)) hx hb hK hP hD hS 4 0 rfl rfl (m_isCairn_in c_1 c_2) dX0_setStay_35 (fun H locs hP hD hS => ?_)
        have hP : va_P (dC, dI) vwCl (wM cI h qx qy ql qs qc n t xs ys lf (upd sy ((a * 17) + b).toNatClampNeg 0) co) H := hP
        have hD : va_D A (wM cI h qx qy ql qs qc n t xs ys lf (upd sy ((a * 17) + b).toNatClampNeg 0) co) := hD
        refine lv_aload_n hx hb dX0_setStay_36 rfl (lv_at hl 0 rfl) ?_
        refine va_get (D := (dC, dI)) (ci := 0) (v := .ref qs) (C := RX0) (T := TX0) (N := 7) hx hb hts in_X0_setStay_X0 hown hK hP 0 rfl rfl 5 (by decide) (hts (.fieldLink RX0 21 "MoorTriangles$Mesh" "stays" "[I") fl_X0_setStay_21) (fun _ h9 => h9) rfl dX0_setStay_37 ?_
        refine lv_iload_n hx hb dX0_setStay_40 rfl (lv_at hl 2 rfl) ?_
        refine lv_bipush (v := 17) hx hb dX0_setStay_41 (by decide) ?_
        refine lv_imul hx hb dX0_setStay_43 ?_
        refine lv_iload_n hx hb dX0_setStay_44 rfl (lv_at hl 1 rfl) ?_
        refine lv_iadd hx hb dX0_setStay_45 ?_
        refine lv_iload_n hx hb dX0_setStay_46 rfl (lv_at hl 3 rfl) ?_
        refine lv_if_eq (tgt := 54) hx hb dX0_setStay_47 (by decide) (fun c_4 => ?_) (fun c_4 => ?_)
        · refine lv_iconst (v := 0) hx hb dX0_setStay_54 (by decide) ?_
          refine va_iast (D := (dC, dI)) hx hb hK hP hD hS 4 0 rfl rfl (m_isCairn_in c_2 c_1) dX0_setStay_55 (fun H locs hP hD hS => ?_)
          have hP : va_P (dC, dI) vwCl (wM cI h qx qy ql qs qc n t xs ys lf (upd (upd sy ((a * 17) + b).toNatClampNeg 0) ((b * 17) + a).toNatClampNeg 0) co) H := hP
          have hD : va_D A (wM cI h qx qy ql qs qc n t xs ys lf (upd (upd sy ((a * 17) + b).toNatClampNeg 0) ((b * 17) + a).toNatClampNeg 0) co) := hD
          have e_sy : (m_setSt n sy a b z : Nat → Int32) = (upd (upd sy ((a * 17) + b).toNatClampNeg 0) ((b * 17) + a).toNatClampNeg 0) := by first | contradiction | rfl | (simp only [m_setSt, m_01, c_1, c_2, c_3, c_4]; done) | (simp only [m_setSt, m_01, c_1, c_2, c_3, c_4]; rfl) | (simp [m_setSt, m_01, c_1, c_2, c_3, c_4]; done)
          have hP : va_P (dC, dI) vwCl (wM cI h qx qy ql qs qc n t xs ys lf (m_setSt n sy a b z) co) H := by rw [e_sy]; exact hP
          have hD : va_D A (wM cI h qx qy ql qs qc n t xs ys lf (m_setSt n sy a b z) co) := by rw [e_sy]; exact hD
          exact wr_vret hx hb hr hlocks hP hK hD hS dX0_setStay_56
        · refine lv_iconst (v := 1) hx hb dX0_setStay_50 (by decide) ?_
          refine lv_goto (tgt := 55) hx hb dX0_setStay_51 (by decide) ?_
          refine va_iast (D := (dC, dI)) hx hb hK hP hD hS 4 0 rfl rfl (m_isCairn_in c_2 c_1) dX0_setStay_55 (fun H locs hP hD hS => ?_)
          have hP : va_P (dC, dI) vwCl (wM cI h qx qy ql qs qc n t xs ys lf (upd (upd sy ((a * 17) + b).toNatClampNeg 0) ((b * 17) + a).toNatClampNeg 1) co) H := hP
          have hD : va_D A (wM cI h qx qy ql qs qc n t xs ys lf (upd (upd sy ((a * 17) + b).toNatClampNeg 0) ((b * 17) + a).toNatClampNeg 1) co) := hD
          have e_sy : (m_setSt n sy a b z : Nat → Int32) = (upd (upd sy ((a * 17) + b).toNatClampNeg 0) ((b * 17) + a).toNatClampNeg 1) := by first | contradiction | rfl | (simp only [m_setSt, m_01, c_1, c_2, c_3, c_4]; done) | (simp only [m_setSt, m_01, c_1, c_2, c_3, c_4]; rfl) | (simp [m_setSt, m_01, c_1, c_2, c_3, c_4]; done)
          have hP : va_P (dC, dI) vwCl (wM cI h qx qy ql qs qc n t xs ys lf (m_setSt n sy a b z) co) H := by rw [e_sy]; exact hP
          have hD : va_D A (wM cI h qx qy ql qs qc n t xs ys lf (m_setSt n sy a b z) co) := by rw [e_sy]; exact hD
          exact wr_vret hx hb hr hlocks hP hK hD hS dX0_setStay_56
      · refine lv_iconst (v := 1) hx hb dX0_setStay_30 (by decide) ?_
        refine lv_goto (tgt := 35) hx hb dX0_setStay_31 (by decide) ?_
        refine va_iast (D := (dC, dI)) hx hb hK hP hD hS 4 0 rfl rfl (m_isCairn_in c_1 c_2) dX0_setStay_35 (fun H locs hP hD hS => ?_)
        have hP : va_P (dC, dI) vwCl (wM cI h qx qy ql qs qc n t xs ys lf (upd sy ((a * 17) + b).toNatClampNeg 1) co) H := hP
        have hD : va_D A (wM cI h qx qy ql qs qc n t xs ys lf (upd sy ((a * 17) + b).toNatClampNeg 1) co) := hD
        refine lv_aload_n hx hb dX0_setStay_36 rfl (lv_at hl 0 rfl) ?_
        refine va_get (D := (dC, dI)) (ci := 0) (v := .ref qs) (C := RX0) (T := TX0) (N := 7) hx hb hts in_X0_setStay_X0 hown hK hP 0 rfl rfl 5 (by decide) (hts (.fieldLink RX0 21 "MoorTriangles$Mesh" "stays" "[I") fl_X0_setStay_21) (fun _ h9 => h9) rfl dX0_setStay_37 ?_
        refine lv_iload_n hx hb dX0_setStay_40 rfl (lv_at hl 2 rfl) ?_
        refine lv_bipush (v := 17) hx hb dX0_setStay_41 (by decide) ?_
        refine lv_imul hx hb dX0_setStay_43 ?_
        refine lv_iload_n hx hb dX0_setStay_44 rfl (lv_at hl 1 rfl) ?_
        refine lv_iadd hx hb dX0_setStay_45 ?_
        refine lv_iload_n hx hb dX0_setStay_46 rfl (lv_at hl 3 rfl) ?_
        refine lv_if_eq (tgt := 54) hx hb dX0_setStay_47 (by decide) (fun c_5 => ?_) (fun c_5 => ?_)
        · refine lv_iconst (v := 0) hx hb dX0_setStay_54 (by decide) ?_
          refine va_iast (D := (dC, dI)) hx hb hK hP hD hS 4 0 rfl rfl (m_isCairn_in c_2 c_1) dX0_setStay_55 (fun H locs hP hD hS => ?_)
          have hP : va_P (dC, dI) vwCl (wM cI h qx qy ql qs qc n t xs ys lf (upd (upd sy ((a * 17) + b).toNatClampNeg 1) ((b * 17) + a).toNatClampNeg 0) co) H := hP
          have hD : va_D A (wM cI h qx qy ql qs qc n t xs ys lf (upd (upd sy ((a * 17) + b).toNatClampNeg 1) ((b * 17) + a).toNatClampNeg 0) co) := hD
          have e_sy : (m_setSt n sy a b z : Nat → Int32) = (upd (upd sy ((a * 17) + b).toNatClampNeg 1) ((b * 17) + a).toNatClampNeg 0) := by first | contradiction | rfl | (simp only [m_setSt, m_01, c_1, c_2, c_3, c_5]; done) | (simp only [m_setSt, m_01, c_1, c_2, c_3, c_5]; rfl) | (simp [m_setSt, m_01, c_1, c_2, c_3, c_5]; done)
          have hP : va_P (dC, dI) vwCl (wM cI h qx qy ql qs qc n t xs ys lf (m_setSt n sy a b z) co) H := by rw [e_sy]; exact hP
          have hD : va_D A (wM cI h qx qy ql qs qc n t xs ys lf (m_setSt n sy a b z) co) := by rw [e_sy]; exact hD
          exact wr_vret hx hb hr hlocks hP hK hD hS dX0_setStay_56
        · refine lv_iconst (v := 1) hx hb dX0_setStay_50 (by decide) ?_
          refine lv_goto (tgt := 55) hx hb dX0_setStay_51 (by decide) ?_
          refine va_iast (D := (dC, dI)) hx hb hK hP hD hS 4 0 rfl rfl (m_isCairn_in c_2 c_1) dX0_setStay_55 (fun H locs hP hD hS => ?_)
          have hP : va_P (dC, dI) vwCl (wM cI h qx qy ql qs qc n t xs ys lf (upd (upd sy ((a * 17) + b).toNatClampNeg 1) ((b * 17) + a).toNatClampNeg 1) co) H := hP
          have hD : va_D A (wM cI h qx qy ql qs qc n t xs ys lf (upd (upd sy ((a * 17) + b).toNatClampNeg 1) ((b * 17) + a).toNatClampNeg 1) co) := hD
          have e_sy : (m_setSt n sy a b z : Nat → Int32) = (upd (upd sy ((a * 17) + b).toNatClampNeg 1) ((b * 17) + a).toNatClampNeg 1) := by first | contradiction | rfl | (simp only [m_setSt, m_01, c_1, c_2, c_3, c_5]; done) | (simp only [m_setSt, m_01, c_1, c_2, c_3, c_5]; rfl) | (simp [m_setSt, m_01, c_1, c_2, c_3, c_5]; done)
          have hP : va_P (dC, dI) vwCl (wM cI h qx qy ql qs qc n t xs ys lf (m_setSt n sy a b z) co) H := by rw [e_sy]; exact hP
          have hD : va_D A (wM cI h qx qy ql qs qc n t xs ys lf (m_setSt n sy a b z) co) := by rw [e_sy]; exact hD
          exact wr_vret hx hb hr hlocks hP hK hD hS dX0_setStay_56
theorem in_X0_setLefts_X0 : ∀ w ∈ wsX00, w ∈ wsX0_setLefts := by decide +kernel
theorem fl_X0_setLefts_18 : (Cond.fieldLink RX0 18 "MoorTriangles$Mesh" "lefts" "[I") ∈ wsX0_setLefts := by decide +kernel
set_option maxHeartbeats 4000000 in
set_option maxRecDepth 100000 in
theorem c_X0_setLefts (l : Launch) (dC : Nat → ClassId) (dI : Nat → Nat → Nat) (cI cZ cY : ClassId) (h qx qy ql qs qc : Nat) (n t : Nat) (xs ys lf sy co : Nat → Int32) (a : Int32) (b : Int32) (k : Int32) (x : Int32) (y : Int32) (z : Int32) (sz : Nat) : Met l yX0_setLefts wsX0_setLefts ({ frames := 1, cells := 0, slots := 0, locals := 21 }) (va_Pc [.ref h, .int a, .int b, .int k, .int x, .int y, .int z] (wrP (dC, dI) (gTY cI cZ cY) (wM cI h qx qy ql qs qc n t xs ys lf sy co) sz)) (wrQv (dC, dI) (gTY cI cZ cY) (wM cI h qx qy ql qs qc n t xs ys (m_setL n lf a b k x y z) sy co) (va_A (wM cI h qx qy ql qs qc n t xs ys lf sy co) sz)) 0 0 (va_A (wM cI h qx qy ql qs qc n t xs ys lf sy co) sz) := by
  refine wr_start (cc := cX0_setLefts) (maxL := 7) (ret := none) (Q0 := wrQv (dC, dI) (gTY cI cZ cY) (wM cI h qx qy ql qs qc n t xs ys (m_setL n lf a b k x y z) sy co)) RX0 (by decide) rfl rfl (Nat.le_of_ble_eq_true rfl) ?_
  intro p e s m below meth c ⟨hx, hb, hr, hml, hown, hts, hlocks, hin⟩ hP hK A hD hA hS ls hl
  have F : CallFix p m c cX0_setLefts 7 s ([.ref h, .int a, .int b, .int k, .int x, .int y, .int z] : List Value).toArray wsX0_setLefts RX0 := ⟨hx, hb, hml, hown, hts⟩
  have hl : lv_has ls 7 [(0, .ref h), (1, .int a), (2, .int b), (3, .int k), (4, .int x), (5, .int y), (6, .int z)] := hl
  refine lv_aload_n hx hb dX0_setLefts_0 rfl (lv_at hl 0 rfl) ?_
  refine lv_iload_n hx hb dX0_setLefts_1 rfl (lv_at hl 1 rfl) ?_
  refine rd_cVi (As := [.int a]) (rest := []) F (c_X0_isCairn l dC dI cI cZ cY h qx qy ql qs qc n t xs ys lf sy co a) (cwV 1 hts gX0_setLefts_X0_isCairn rfl rfl rfl hd_X0_isCairn ⟨Nat.le_of_ble_eq_true rfl, Nat.le_of_ble_eq_true rfl⟩) hP hK (va_recv hK hP (ci := 0) (q0 := 0) rfl rfl) rfl hl.1 rfl (lv_room (Nat.le_of_ble_eq_true rfl)) dX0_setLefts_2 ⟨Nat.zero_le _, Nat.zero_le _⟩ ?_
  refine lv_if_eqB (tgt := 63) hx hb dX0_setLefts_5 (by decide) (fun c_1 => ?_) (fun c_1 => ?_)
  · have e_lf : (m_setL n lf a b k x y z : Nat → Int32) = lf := by first | contradiction | rfl | (simp only [m_setL, c_1]; done) | (simp only [m_setL, c_1]; rfl) | (simp [m_setL, c_1]; done)
    have hP : va_P (dC, dI) vwCl (wM cI h qx qy ql qs qc n t xs ys (m_setL n lf a b k x y z) sy co) s.heap := by rw [e_lf]; exact hP
    have hD : va_D A (wM cI h qx qy ql qs qc n t xs ys (m_setL n lf a b k x y z) sy co) := by rw [e_lf]; exact hD
    exact wr_vret hx hb hr hlocks hP hK hD hS dX0_setLefts_63
  · refine lv_aload_n hx hb dX0_setLefts_8 rfl (lv_at hl 0 rfl) ?_
    refine lv_iload_n hx hb dX0_setLefts_9 rfl (lv_at hl 2 rfl) ?_
    refine rd_cVi (As := [.int b]) (rest := []) F (c_X0_isCairn l dC dI cI cZ cY h qx qy ql qs qc n t xs ys lf sy co b) (cwV 1 hts gX0_setLefts_X0_isCairn rfl rfl rfl hd_X0_isCairn ⟨Nat.le_of_ble_eq_true rfl, Nat.le_of_ble_eq_true rfl⟩) hP hK (va_recv hK hP (ci := 0) (q0 := 0) rfl rfl) rfl hl.1 rfl (lv_room (Nat.le_of_ble_eq_true rfl)) dX0_setLefts_10 ⟨Nat.zero_le _, Nat.zero_le _⟩ ?_
    refine lv_if_eqB (tgt := 63) hx hb dX0_setLefts_13 (by decide) (fun c_2 => ?_) (fun c_2 => ?_)
    · have e_lf : (m_setL n lf a b k x y z : Nat → Int32) = lf := by first | contradiction | rfl | (simp only [m_setL, c_1, c_2]; done) | (simp only [m_setL, c_1, c_2]; rfl) | (simp [m_setL, c_1, c_2]; done)
      have hP : va_P (dC, dI) vwCl (wM cI h qx qy ql qs qc n t xs ys (m_setL n lf a b k x y z) sy co) s.heap := by rw [e_lf]; exact hP
      have hD : va_D A (wM cI h qx qy ql qs qc n t xs ys (m_setL n lf a b k x y z) sy co) := by rw [e_lf]; exact hD
      exact wr_vret hx hb hr hlocks hP hK hD hS dX0_setLefts_63
    · refine lv_aload_n hx hb dX0_setLefts_16 rfl (lv_at hl 0 rfl) ?_
      refine lv_iload_n hx hb dX0_setLefts_17 rfl (lv_at hl 3 rfl) ?_
      refine rd_cVi (As := [.int k]) (rest := []) F (c_X0_isCairn l dC dI cI cZ cY h qx qy ql qs qc n t xs ys lf sy co k) (cwV 1 hts gX0_setLefts_X0_isCairn rfl rfl rfl hd_X0_isCairn ⟨Nat.le_of_ble_eq_true rfl, Nat.le_of_ble_eq_true rfl⟩) hP hK (va_recv hK hP (ci := 0) (q0 := 0) rfl rfl) rfl hl.1 rfl (lv_room (Nat.le_of_ble_eq_true rfl)) dX0_setLefts_18 ⟨Nat.zero_le _, Nat.zero_le _⟩ ?_
      refine lv_if_eqB (tgt := 63) hx hb dX0_setLefts_21 (by decide) (fun c_3 => ?_) (fun c_3 => ?_)
      · have e_lf : (m_setL n lf a b k x y z : Nat → Int32) = lf := by first | contradiction | rfl | (simp only [m_setL, c_1, c_2, c_3]; done) | (simp only [m_setL, c_1, c_2, c_3]; rfl) | (simp [m_setL, c_1, c_2, c_3]; done)
        have hP : va_P (dC, dI) vwCl (wM cI h qx qy ql qs qc n t xs ys (m_setL n lf a b k x y z) sy co) s.heap := by rw [e_lf]; exact hP
        have hD : va_D A (wM cI h qx qy ql qs qc n t xs ys (m_setL n lf a b k x y z) sy co) := by rw [e_lf]; exact hD
        exact wr_vret hx hb hr hlocks hP hK hD hS dX0_setLefts_63
      · refine lv_aload_n hx hb dX0_setLefts_24 rfl (lv_at hl 0 rfl) ?_
        refine va_get (D := (dC, dI)) (ci := 0) (v := .ref ql) (C := RX0) (T := TX0) (N := 7) hx hb hts in_X0_setLefts_X0 hown hK hP 0 rfl rfl 4 (by decide) (hts (.fieldLink RX0 18 "MoorTriangles$Mesh" "lefts" "[I") fl_X0_setLefts_18) (fun _ h9 => h9) rfl dX0_setLefts_25 ?_
        refine lv_iload_n hx hb dX0_setLefts_28 rfl (lv_at hl 1 rfl) ?_
        refine lv_bipush (v := 17) hx hb dX0_setLefts_29 (by decide) ?_
        refine lv_imul hx hb dX0_setLefts_31 ?_
        refine lv_iload_n hx hb dX0_setLefts_32 rfl (lv_at hl 2 rfl) ?_
        refine lv_iadd hx hb dX0_setLefts_33 ?_
        refine lv_iload hx hb dX0_setLefts_34 (lv_at hl 4 rfl) ?_
        refine va_iast (D := (dC, dI)) hx hb hK hP hD hS 3 0 rfl rfl (m_isCairn_in c_1 c_2) dX0_setLefts_36 (fun H locs hP hD hS => ?_)
        have hP : va_P (dC, dI) vwCl (wM cI h qx qy ql qs qc n t xs ys (upd lf ((a * 17) + b).toNatClampNeg x) sy co) H := hP
        have hD : va_D A (wM cI h qx qy ql qs qc n t xs ys (upd lf ((a * 17) + b).toNatClampNeg x) sy co) := hD
        refine lv_aload_n hx hb dX0_setLefts_37 rfl (lv_at hl 0 rfl) ?_
        refine va_get (D := (dC, dI)) (ci := 0) (v := .ref ql) (C := RX0) (T := TX0) (N := 7) hx hb hts in_X0_setLefts_X0 hown hK hP 0 rfl rfl 4 (by decide) (hts (.fieldLink RX0 18 "MoorTriangles$Mesh" "lefts" "[I") fl_X0_setLefts_18) (fun _ h9 => h9) rfl dX0_setLefts_38 ?_
        refine lv_iload_n hx hb dX0_setLefts_41 rfl (lv_at hl 2 rfl) ?_
        refine lv_bipush (v := 17) hx hb dX0_setLefts_42 (by decide) ?_
        refine lv_imul hx hb dX0_setLefts_44 ?_
        refine lv_iload_n hx hb dX0_setLefts_45 rfl (lv_at hl 3 rfl) ?_
        refine lv_iadd hx hb dX0_setLefts_46 ?_
        refine lv_iload hx hb dX0_setLefts_47 (lv_at hl 5 rfl) ?_
        refine va_iast (D := (dC, dI)) hx hb hK hP hD hS 3 0 rfl rfl (m_isCairn_in c_2 c_3) dX0_setLefts_49 (fun H locs hP hD hS => ?_)
        have hP : va_P (dC, dI) vwCl (wM cI h qx qy ql qs qc n t xs ys (upd (upd lf ((a * 17) + b).toNatClampNeg x) ((b * 17) + k).toNatClampNeg y) sy co) H := hP
        have hD : va_D A (wM cI h qx qy ql qs qc n t xs ys (upd (upd lf ((a * 17) + b).toNatClampNeg x) ((b * 17) + k).toNatClampNeg y) sy co) := hD
        refine lv_aload_n hx hb dX0_setLefts_50 rfl (lv_at hl 0 rfl) ?_
        refine va_get (D := (dC, dI)) (ci := 0) (v := .ref ql) (C := RX0) (T := TX0) (N := 7) hx hb hts in_X0_setLefts_X0 hown hK hP 0 rfl rfl 4 (by decide) (hts (.fieldLink RX0 18 "MoorTriangles$Mesh" "lefts" "[I") fl_X0_setLefts_18) (fun _ h9 => h9) rfl dX0_setLefts_51 ?_
        refine lv_iload_n hx hb dX0_setLefts_54 rfl (lv_at hl 3 rfl) ?_
        refine lv_bipush (v := 17) hx hb dX0_setLefts_55 (by decide) ?_
        refine lv_imul hx hb dX0_setLefts_57 ?_
        refine lv_iload_n hx hb dX0_setLefts_58 rfl (lv_at hl 1 rfl) ?_
        refine lv_iadd hx hb dX0_setLefts_59 ?_
        refine lv_iload hx hb dX0_setLefts_60 (lv_at hl 6 rfl) ?_
        refine va_iast (D := (dC, dI)) hx hb hK hP hD hS 3 0 rfl rfl (m_isCairn_in c_3 c_1) dX0_setLefts_62 (fun H locs hP hD hS => ?_)
        have hP : va_P (dC, dI) vwCl (wM cI h qx qy ql qs qc n t xs ys (upd (upd (upd lf ((a * 17) + b).toNatClampNeg x) ((b * 17) + k).toNatClampNeg y) ((k * 17) + a).toNatClampNeg z) sy co) H := hP
        have hD : va_D A (wM cI h qx qy ql qs qc n t xs ys (upd (upd (upd lf ((a * 17) + b).toNatClampNeg x) ((b * 17) + k).toNatClampNeg y) ((k * 17) + a).toNatClampNeg z) sy co) := hD
        have e_lf : (m_setL n lf a b k x y z : Nat → Int32) = (upd (upd (upd lf ((a * 17) + b).toNatClampNeg x) ((b * 17) + k).toNatClampNeg y) ((k * 17) + a).toNatClampNeg z) := by first | contradiction | rfl | (simp only [m_setL, c_1, c_2, c_3]; done) | (simp only [m_setL, c_1, c_2, c_3]; rfl) | (simp [m_setL, c_1, c_2, c_3]; done)
        have hP : va_P (dC, dI) vwCl (wM cI h qx qy ql qs qc n t xs ys (m_setL n lf a b k x y z) sy co) H := by rw [e_lf]; exact hP
        have hD : va_D A (wM cI h qx qy ql qs qc n t xs ys (m_setL n lf a b k x y z) sy co) := by rw [e_lf]; exact hD
        exact wr_vret hx hb hr hlocks hP hK hD hS dX0_setLefts_63
set_option maxHeartbeats 4000000 in
set_option maxRecDepth 100000 in
theorem c_X0_addTriangle (l : Launch) (dC : Nat → ClassId) (dI : Nat → Nat → Nat) (cI cZ cY : ClassId) (h qx qy ql qs qc : Nat) (n t : Nat) (xs ys lf sy co : Nat → Int32) (a : Int32) (b : Int32) (k : Int32) (sz : Nat) : Met l yX0_addTriangle wsX0_addTriangle ({ frames := 2, cells := 0, slots := 0, locals := 47 }) (va_Pc [.ref h, .int a, .int b, .int k] (wrP (dC, dI) (gTY cI cZ cY) (wM cI h qx qy ql qs qc n t xs ys lf sy co) sz)) (wrQv (dC, dI) (gTY cI cZ cY) (wM cI h qx qy ql qs qc n t xs ys (m_addT n xs ys lf a b k) sy co) (va_A (wM cI h qx qy ql qs qc n t xs ys lf sy co) sz)) 0 0 (va_A (wM cI h qx qy ql qs qc n t xs ys lf sy co) sz) := by
  refine wr_start (cc := cX0_addTriangle) (maxL := 4) (ret := none) (Q0 := wrQv (dC, dI) (gTY cI cZ cY) (wM cI h qx qy ql qs qc n t xs ys (m_addT n xs ys lf a b k) sy co)) RX0 (by decide) rfl rfl (Nat.le_of_ble_eq_true rfl) ?_
  intro p e s m below meth c ⟨hx, hb, hr, hml, hown, hts, hlocks, hin⟩ hP hK A hD hA hS ls hl
  have F : CallFix p m c cX0_addTriangle 4 s ([.ref h, .int a, .int b, .int k] : List Value).toArray wsX0_addTriangle RX0 := ⟨hx, hb, hml, hown, hts⟩
  have hl : lv_has ls 4 [(0, .ref h), (1, .int a), (2, .int b), (3, .int k)] := hl
  refine lv_aload_n hx hb dX0_addTriangle_0 rfl (lv_at hl 0 rfl) ?_
  refine lv_iload_n hx hb dX0_addTriangle_1 rfl (lv_at hl 1 rfl) ?_
  refine lv_iload_n hx hb dX0_addTriangle_2 rfl (lv_at hl 2 rfl) ?_
  refine lv_aload_n hx hb dX0_addTriangle_3 rfl (lv_at hl 0 rfl) ?_
  refine lv_iload_n hx hb dX0_addTriangle_4 rfl (lv_at hl 3 rfl) ?_
  refine rd_cVi (As := [.int k]) (rest := [.int b, .int a, .ref h]) F (c_X0_xOf l dC dI cI cZ cY h qx qy ql qs qc n t xs ys lf sy co k) (cwV 1 hts gX0_addTriangle_X0_xOf rfl rfl rfl hd_X0_xOf ⟨Nat.le_of_ble_eq_true rfl, Nat.le_of_ble_eq_true rfl⟩) hP hK (va_recv hK hP (ci := 0) (q0 := 0) rfl rfl) rfl hl.1 rfl (lv_room (Nat.le_of_ble_eq_true rfl)) dX0_addTriangle_5 ⟨Nat.zero_le _, Nat.zero_le _⟩ ?_
  refine lv_aload_n hx hb dX0_addTriangle_8 rfl (lv_at hl 0 rfl) ?_
  refine lv_iload_n hx hb dX0_addTriangle_9 rfl (lv_at hl 3 rfl) ?_
  refine rd_cVi (As := [.int k]) (rest := [.int (m_xOf xs k), .int b, .int a, .ref h]) F (c_X0_yOf l dC dI cI cZ cY h qx qy ql qs qc n t xs ys lf sy co k) (cwV 1 hts gX0_addTriangle_X0_yOf rfl rfl rfl hd_X0_yOf ⟨Nat.le_of_ble_eq_true rfl, Nat.le_of_ble_eq_true rfl⟩) hP hK (va_recv hK hP (ci := 0) (q0 := 0) rfl rfl) rfl hl.1 rfl (lv_room (Nat.le_of_ble_eq_true rfl)) dX0_addTriangle_10 ⟨Nat.zero_le _, Nat.zero_le _⟩ ?_
  refine rd_cVi (As := [.int a, .int b, .int (m_xOf xs k), .int (m_xOf ys k)]) (rest := []) F (c_X0_turn l dC dI cI cZ cY h qx qy ql qs qc n t xs ys lf sy co a b (m_xOf xs k) (m_xOf ys k)) (cwV 4 hts gX0_addTriangle_X0_turn rfl rfl rfl hd_X0_turn ⟨Nat.le_of_ble_eq_true rfl, Nat.le_of_ble_eq_true rfl⟩) hP hK (va_recv hK hP (ci := 0) (q0 := 0) rfl rfl) rfl hl.1 rfl (lv_room (Nat.le_of_ble_eq_true rfl)) dX0_addTriangle_13 ⟨Nat.zero_le _, Nat.zero_le _⟩ ?_
  refine lv_if_le (tgt := 32) hx hb dX0_addTriangle_16 (by decide) (fun c_1 => ?_) (fun c_1 => ?_)
  · refine lv_aload_n hx hb dX0_addTriangle_32 rfl (lv_at hl 0 rfl) ?_
    refine lv_iload_n hx hb dX0_addTriangle_33 rfl (lv_at hl 1 rfl) ?_
    refine lv_iload_n hx hb dX0_addTriangle_34 rfl (lv_at hl 3 rfl) ?_
    refine lv_iload_n hx hb dX0_addTriangle_35 rfl (lv_at hl 2 rfl) ?_
    refine lv_iload_n hx hb dX0_addTriangle_36 rfl (lv_at hl 2 rfl) ?_
    refine lv_iload_n hx hb dX0_addTriangle_37 rfl (lv_at hl 1 rfl) ?_
    refine lv_iload_n hx hb dX0_addTriangle_38 rfl (lv_at hl 3 rfl) ?_
    refine wr_cVv (As := [.int a, .int k, .int b, .int b, .int a, .int k]) (rest := []) (wr := []) F (c_X0_setLefts l dC dI cI cZ cY h qx qy ql qs qc n t xs ys lf sy co a k b b a k s.heap.size) (cwV 6 hts gX0_addTriangle_X0_setLefts rfl rfl rfl hd_X0_setLefts ⟨Nat.le_of_ble_eq_true rfl, Nat.le_of_ble_eq_true rfl⟩) hP hK hD hS hA [0, 1, 2, 3, 4, 5] [] rfl rfl (by decide) rfl (by decide) (by decide) (va_recv hK hP (ci := 0) (q0 := 0) rfl rfl) rfl hl.1 rfl (lv_room (Nat.le_of_ble_eq_true rfl)) dX0_addTriangle_39 ⟨Nat.zero_le _, Nat.zero_le _⟩ (fun H locs hP hD hS => ?_)
    have hP : va_P (dC, dI) vwCl (wM cI h qx qy ql qs qc n t xs ys (m_setL n lf a k b b a k) sy co) H := hP
    have hD : va_D A (wM cI h qx qy ql qs qc n t xs ys (m_setL n lf a k b b a k) sy co) := hD
    have e_lf : (m_addT n xs ys lf a b k : Nat → Int32) = m_setL n lf a k b b a k := by first | contradiction | rfl | (simp only [m_addT, c_1]; done) | (simp only [m_addT, c_1]; rfl) | (simp [m_addT, c_1]; done)
    have hP : va_P (dC, dI) vwCl (wM cI h qx qy ql qs qc n t xs ys (m_addT n xs ys lf a b k) sy co) H := by rw [e_lf]; exact hP
    have hD : va_D A (wM cI h qx qy ql qs qc n t xs ys (m_addT n xs ys lf a b k) sy co) := by rw [e_lf]; exact hD
    exact wr_vret hx hb hr hlocks hP hK hD hS dX0_addTriangle_42
  · refine lv_aload_n hx hb dX0_addTriangle_19 rfl (lv_at hl 0 rfl) ?_
    refine lv_iload_n hx hb dX0_addTriangle_20 rfl (lv_at hl 1 rfl) ?_
    refine lv_iload_n hx hb dX0_addTriangle_21 rfl (lv_at hl 2 rfl) ?_
    refine lv_iload_n hx hb dX0_addTriangle_22 rfl (lv_at hl 3 rfl) ?_
    refine lv_iload_n hx hb dX0_addTriangle_23 rfl (lv_at hl 3 rfl) ?_
    refine lv_iload_n hx hb dX0_addTriangle_24 rfl (lv_at hl 1 rfl) ?_
    refine lv_iload_n hx hb dX0_addTriangle_25 rfl (lv_at hl 2 rfl) ?_
    refine wr_cVv (As := [.int a, .int b, .int k, .int k, .int a, .int b]) (rest := []) (wr := []) F (c_X0_setLefts l dC dI cI cZ cY h qx qy ql qs qc n t xs ys lf sy co a b k k a b s.heap.size) (cwV 6 hts gX0_addTriangle_X0_setLefts rfl rfl rfl hd_X0_setLefts ⟨Nat.le_of_ble_eq_true rfl, Nat.le_of_ble_eq_true rfl⟩) hP hK hD hS hA [0, 1, 2, 3, 4, 5] [] rfl rfl (by decide) rfl (by decide) (by decide) (va_recv hK hP (ci := 0) (q0 := 0) rfl rfl) rfl hl.1 rfl (lv_room (Nat.le_of_ble_eq_true rfl)) dX0_addTriangle_26 ⟨Nat.zero_le _, Nat.zero_le _⟩ (fun H locs hP hD hS => ?_)
    have hP : va_P (dC, dI) vwCl (wM cI h qx qy ql qs qc n t xs ys (m_setL n lf a b k k a b) sy co) H := hP
    have hD : va_D A (wM cI h qx qy ql qs qc n t xs ys (m_setL n lf a b k k a b) sy co) := hD
    refine lv_goto (tgt := 42) hx hb dX0_addTriangle_29 (by decide) ?_
    have e_lf : (m_addT n xs ys lf a b k : Nat → Int32) = m_setL n lf a b k k a b := by first | contradiction | rfl | (simp only [m_addT, c_1]; done) | (simp only [m_addT, c_1]; rfl) | (simp [m_addT, c_1]; done)
    have hP : va_P (dC, dI) vwCl (wM cI h qx qy ql qs qc n t xs ys (m_addT n xs ys lf a b k) sy co) H := by rw [e_lf]; exact hP
    have hD : va_D A (wM cI h qx qy ql qs qc n t xs ys (m_addT n xs ys lf a b k) sy co) := by rw [e_lf]; exact hD
    exact wr_vret hx hb hr hlocks hP hK hD hS dX0_addTriangle_42
set_option maxHeartbeats 4000000 in
set_option maxRecDepth 100000 in
theorem c_X0_removeTriangle (l : Launch) (dC : Nat → ClassId) (dI : Nat → Nat → Nat) (cI cZ cY : ClassId) (h qx qy ql qs qc : Nat) (n t : Nat) (xs ys lf sy co : Nat → Int32) (a : Int32) (b : Int32) (k : Int32) (sz : Nat) : Met l yX0_removeTriangle wsX0_removeTriangle ({ frames := 2, cells := 0, slots := 0, locals := 47 }) (va_Pc [.ref h, .int a, .int b, .int k] (wrP (dC, dI) (gTY cI cZ cY) (wM cI h qx qy ql qs qc n t xs ys lf sy co) sz)) (wrQv (dC, dI) (gTY cI cZ cY) (wM cI h qx qy ql qs qc n t xs ys (m_remT n xs ys lf a b k) sy co) (va_A (wM cI h qx qy ql qs qc n t xs ys lf sy co) sz)) 0 0 (va_A (wM cI h qx qy ql qs qc n t xs ys lf sy co) sz) := by
  refine wr_start (cc := cX0_removeTriangle) (maxL := 4) (ret := none) (Q0 := wrQv (dC, dI) (gTY cI cZ cY) (wM cI h qx qy ql qs qc n t xs ys (m_remT n xs ys lf a b k) sy co)) RX0 (by decide) rfl rfl (Nat.le_of_ble_eq_true rfl) ?_
  intro p e s m below meth c ⟨hx, hb, hr, hml, hown, hts, hlocks, hin⟩ hP hK A hD hA hS ls hl
  have F : CallFix p m c cX0_removeTriangle 4 s ([.ref h, .int a, .int b, .int k] : List Value).toArray wsX0_removeTriangle RX0 := ⟨hx, hb, hml, hown, hts⟩
  have hl : lv_has ls 4 [(0, .ref h), (1, .int a), (2, .int b), (3, .int k)] := hl
  refine lv_aload_n hx hb dX0_removeTriangle_0 rfl (lv_at hl 0 rfl) ?_
  refine lv_iload_n hx hb dX0_removeTriangle_1 rfl (lv_at hl 1 rfl) ?_
  refine lv_iload_n hx hb dX0_removeTriangle_2 rfl (lv_at hl 2 rfl) ?_
  refine lv_aload_n hx hb dX0_removeTriangle_3 rfl (lv_at hl 0 rfl) ?_
  refine lv_iload_n hx hb dX0_removeTriangle_4 rfl (lv_at hl 3 rfl) ?_
  refine rd_cVi (As := [.int k]) (rest := [.int b, .int a, .ref h]) F (c_X0_xOf l dC dI cI cZ cY h qx qy ql qs qc n t xs ys lf sy co k) (cwV 1 hts gX0_removeTriangle_X0_xOf rfl rfl rfl hd_X0_xOf ⟨Nat.le_of_ble_eq_true rfl, Nat.le_of_ble_eq_true rfl⟩) hP hK (va_recv hK hP (ci := 0) (q0 := 0) rfl rfl) rfl hl.1 rfl (lv_room (Nat.le_of_ble_eq_true rfl)) dX0_removeTriangle_5 ⟨Nat.zero_le _, Nat.zero_le _⟩ ?_
  refine lv_aload_n hx hb dX0_removeTriangle_8 rfl (lv_at hl 0 rfl) ?_
  refine lv_iload_n hx hb dX0_removeTriangle_9 rfl (lv_at hl 3 rfl) ?_
  refine rd_cVi (As := [.int k]) (rest := [.int (m_xOf xs k), .int b, .int a, .ref h]) F (c_X0_yOf l dC dI cI cZ cY h qx qy ql qs qc n t xs ys lf sy co k) (cwV 1 hts gX0_removeTriangle_X0_yOf rfl rfl rfl hd_X0_yOf ⟨Nat.le_of_ble_eq_true rfl, Nat.le_of_ble_eq_true rfl⟩) hP hK (va_recv hK hP (ci := 0) (q0 := 0) rfl rfl) rfl hl.1 rfl (lv_room (Nat.le_of_ble_eq_true rfl)) dX0_removeTriangle_10 ⟨Nat.zero_le _, Nat.zero_le _⟩ ?_
  refine rd_cVi (As := [.int a, .int b, .int (m_xOf xs k), .int (m_xOf ys k)]) (rest := []) F (c_X0_turn l dC dI cI cZ cY h qx qy ql qs qc n t xs ys lf sy co a b (m_xOf xs k) (m_xOf ys k)) (cwV 4 hts gX0_removeTriangle_X0_turn rfl rfl rfl hd_X0_turn ⟨Nat.le_of_ble_eq_true rfl, Nat.le_of_ble_eq_true rfl⟩) hP hK (va_recv hK hP (ci := 0) (q0 := 0) rfl rfl) rfl hl.1 rfl (lv_room (Nat.le_of_ble_eq_true rfl)) dX0_removeTriangle_13 ⟨Nat.zero_le _, Nat.zero_le _⟩ ?_
  refine lv_if_le (tgt := 32) hx hb dX0_removeTriangle_16 (by decide) (fun c_1 => ?_) (fun c_1 => ?_)
  · refine lv_aload_n hx hb dX0_removeTriangle_32 rfl (lv_at hl 0 rfl) ?_
    refine lv_iload_n hx hb dX0_removeTriangle_33 rfl (lv_at hl 1 rfl) ?_
    refine lv_iload_n hx hb dX0_removeTriangle_34 rfl (lv_at hl 3 rfl) ?_
    refine lv_iload_n hx hb dX0_removeTriangle_35 rfl (lv_at hl 2 rfl) ?_
    refine lv_iconst (v := (-1)) hx hb dX0_removeTriangle_36 (by decide) ?_
    refine lv_iconst (v := (-1)) hx hb dX0_removeTriangle_37 (by decide) ?_
    refine lv_iconst (v := (-1)) hx hb dX0_removeTriangle_38 (by decide) ?_
    refine wr_cVv (As := [.int a, .int k, .int b, .int (-1), .int (-1), .int (-1)]) (rest := []) (wr := []) F (c_X0_setLefts l dC dI cI cZ cY h qx qy ql qs qc n t xs ys lf sy co a k b (-1) (-1) (-1) s.heap.size) (cwV 6 hts gX0_removeTriangle_X0_setLefts rfl rfl rfl hd_X0_setLefts ⟨Nat.le_of_ble_eq_true rfl, Nat.le_of_ble_eq_true rfl⟩) hP hK hD hS hA [0, 1, 2, 3, 4, 5] [] rfl rfl (by decide) rfl (by decide) (by decide) (va_recv hK hP (ci := 0) (q0 := 0) rfl rfl) rfl hl.1 rfl (lv_room (Nat.le_of_ble_eq_true rfl)) dX0_removeTriangle_39 ⟨Nat.zero_le _, Nat.zero_le _⟩ (fun H locs hP hD hS => ?_)
    have hP : va_P (dC, dI) vwCl (wM cI h qx qy ql qs qc n t xs ys (m_setL n lf a k b (-1) (-1) (-1)) sy co) H := hP
    have hD : va_D A (wM cI h qx qy ql qs qc n t xs ys (m_setL n lf a k b (-1) (-1) (-1)) sy co) := hD
    have e_lf : (m_remT n xs ys lf a b k : Nat → Int32) = m_setL n lf a k b (-1) (-1) (-1) := by first | contradiction | rfl | (simp only [m_remT, c_1]; done) | (simp only [m_remT, c_1]; rfl) | (simp [m_remT, c_1]; done)
    have hP : va_P (dC, dI) vwCl (wM cI h qx qy ql qs qc n t xs ys (m_remT n xs ys lf a b k) sy co) H := by rw [e_lf]; exact hP
    have hD : va_D A (wM cI h qx qy ql qs qc n t xs ys (m_remT n xs ys lf a b k) sy co) := by rw [e_lf]; exact hD
    exact wr_vret hx hb hr hlocks hP hK hD hS dX0_removeTriangle_42
  · refine lv_aload_n hx hb dX0_removeTriangle_19 rfl (lv_at hl 0 rfl) ?_
    refine lv_iload_n hx hb dX0_removeTriangle_20 rfl (lv_at hl 1 rfl) ?_
    refine lv_iload_n hx hb dX0_removeTriangle_21 rfl (lv_at hl 2 rfl) ?_
    refine lv_iload_n hx hb dX0_removeTriangle_22 rfl (lv_at hl 3 rfl) ?_
    refine lv_iconst (v := (-1)) hx hb dX0_removeTriangle_23 (by decide) ?_
    refine lv_iconst (v := (-1)) hx hb dX0_removeTriangle_24 (by decide) ?_
    refine lv_iconst (v := (-1)) hx hb dX0_removeTriangle_25 (by decide) ?_
    refine wr_cVv (As := [.int a, .int b, .int k, .int (-1), .int (-1), .int (-1)]) (rest := []) (wr := []) F (c_X0_setLefts l dC dI cI cZ cY h qx qy ql qs qc n t xs ys lf sy co a b k (-1) (-1) (-1) s.heap.size) (cwV 6 hts gX0_removeTriangle_X0_setLefts rfl rfl rfl hd_X0_setLefts ⟨Nat.le_of_ble_eq_true rfl, Nat.le_of_ble_eq_true rfl⟩) hP hK hD hS hA [0, 1, 2, 3, 4, 5] [] rfl rfl (by decide) rfl (by decide) (by decide) (va_recv hK hP (ci := 0) (q0 := 0) rfl rfl) rfl hl.1 rfl (lv_room (Nat.le_of_ble_eq_true rfl)) dX0_removeTriangle_26 ⟨Nat.zero_le _, Nat.zero_le _⟩ (fun H locs hP hD hS => ?_)
    have hP : va_P (dC, dI) vwCl (wM cI h qx qy ql qs qc n t xs ys (m_setL n lf a b k (-1) (-1) (-1)) sy co) H := hP
    have hD : va_D A (wM cI h qx qy ql qs qc n t xs ys (m_setL n lf a b k (-1) (-1) (-1)) sy co) := hD
    refine lv_goto (tgt := 42) hx hb dX0_removeTriangle_29 (by decide) ?_
    have e_lf : (m_remT n xs ys lf a b k : Nat → Int32) = m_setL n lf a b k (-1) (-1) (-1) := by first | contradiction | rfl | (simp only [m_remT, c_1]; done) | (simp only [m_remT, c_1]; rfl) | (simp [m_remT, c_1]; done)
    have hP : va_P (dC, dI) vwCl (wM cI h qx qy ql qs qc n t xs ys (m_remT n xs ys lf a b k) sy co) H := by rw [e_lf]; exact hP
    have hD : va_D A (wM cI h qx qy ql qs qc n t xs ys (m_remT n xs ys lf a b k) sy co) := by rw [e_lf]; exact hD
    exact wr_vret hx hb hr hlocks hP hK hD hS dX0_removeTriangle_42
set_option maxHeartbeats 4000000 in
set_option maxRecDepth 100000 in
theorem c_X0_cutTriangle (l : Launch) (dC : Nat → ClassId) (dI : Nat → Nat → Nat) (cI cZ cY : ClassId) (h qx qy ql qs qc : Nat) (n t : Nat) (xs ys lf sy co : Nat → Int32) (a : Int32) (b : Int32) (k : Int32) (z : Int32) (sz : Nat) : Met l yX0_cutTriangle wsX0_cutTriangle ({ frames := 3, cells := 0, slots := 0, locals := 70 }) (va_Pc [.ref h, .int a, .int b, .int k, .int z] (wrP (dC, dI) (gTY cI cZ cY) (wM cI h qx qy ql qs qc n t xs ys lf sy co) sz)) (wrQv (dC, dI) (gTY cI cZ cY) (wM cI h qx qy ql qs qc n t xs ys (m_cutT n xs ys lf a b k z) sy co) (va_A (wM cI h qx qy ql qs qc n t xs ys lf sy co) sz)) 0 0 (va_A (wM cI h qx qy ql qs qc n t xs ys lf sy co) sz) := by
  refine wr_start (cc := cX0_cutTriangle) (maxL := 5) (ret := none) (Q0 := wrQv (dC, dI) (gTY cI cZ cY) (wM cI h qx qy ql qs qc n t xs ys (m_cutT n xs ys lf a b k z) sy co)) RX0 (by decide) rfl rfl (Nat.le_of_ble_eq_true rfl) ?_
  intro p e s m below meth c ⟨hx, hb, hr, hml, hown, hts, hlocks, hin⟩ hP hK A hD hA hS ls hl
  have F : CallFix p m c cX0_cutTriangle 5 s ([.ref h, .int a, .int b, .int k, .int z] : List Value).toArray wsX0_cutTriangle RX0 := ⟨hx, hb, hml, hown, hts⟩
  have hl : lv_has ls 5 [(0, .ref h), (1, .int a), (2, .int b), (3, .int k), (4, .int z)] := hl
  refine lv_iload_n hx hb dX0_cutTriangle_0 rfl (lv_at hl 3 rfl) ?_
  refine lv_iconst (v := (-1)) hx hb dX0_cutTriangle_1 (by decide) ?_
  refine lv_icmp_eq (tgt := 28) hx hb dX0_cutTriangle_2 (by decide) (fun c_1 => ?_) (fun c_1 => ?_)
  · have e_lf : (m_cutT n xs ys lf a b k z : Nat → Int32) = lf := by first | contradiction | rfl | (simp only [m_cutT, c_1]; done) | (simp only [m_cutT, c_1]; rfl) | (simp [m_cutT, c_1]; done)
    have hP : va_P (dC, dI) vwCl (wM cI h qx qy ql qs qc n t xs ys (m_cutT n xs ys lf a b k z) sy co) s.heap := by rw [e_lf]; exact hP
    have hD : va_D A (wM cI h qx qy ql qs qc n t xs ys (m_cutT n xs ys lf a b k z) sy co) := by rw [e_lf]; exact hD
    exact wr_vret hx hb hr hlocks hP hK hD hS dX0_cutTriangle_28
  · refine lv_aload_n hx hb dX0_cutTriangle_5 rfl (lv_at hl 0 rfl) ?_
    refine lv_iload_n hx hb dX0_cutTriangle_6 rfl (lv_at hl 1 rfl) ?_
    refine lv_iload_n hx hb dX0_cutTriangle_7 rfl (lv_at hl 2 rfl) ?_
    refine lv_iload_n hx hb dX0_cutTriangle_8 rfl (lv_at hl 3 rfl) ?_
    refine wr_cVv (As := [.int a, .int b, .int k]) (rest := []) (wr := []) F (c_X0_removeTriangle l dC dI cI cZ cY h qx qy ql qs qc n t xs ys lf sy co a b k s.heap.size) (cwV 3 hts gX0_cutTriangle_X0_removeTriangle rfl rfl rfl hd_X0_removeTriangle ⟨Nat.le_of_ble_eq_true rfl, Nat.le_of_ble_eq_true rfl⟩) hP hK hD hS hA [0, 1, 2, 3, 4, 5] [] rfl rfl (by decide) rfl (by decide) (by decide) (va_recv hK hP (ci := 0) (q0 := 0) rfl rfl) rfl hl.1 rfl (lv_room (Nat.le_of_ble_eq_true rfl)) dX0_cutTriangle_9 ⟨Nat.zero_le _, Nat.zero_le _⟩ (fun H locs hP hD hS => ?_)
    have hP : va_P (dC, dI) vwCl (wM cI h qx qy ql qs qc n t xs ys (m_remT n xs ys lf a b k) sy co) H := hP
    have hD : va_D A (wM cI h qx qy ql qs qc n t xs ys (m_remT n xs ys lf a b k) sy co) := hD
    refine lv_aload_n hx hb dX0_cutTriangle_12 rfl (lv_at hl 0 rfl) ?_
    refine lv_iload hx hb dX0_cutTriangle_13 (lv_at hl 4 rfl) ?_
    refine lv_iload_n hx hb dX0_cutTriangle_15 rfl (lv_at hl 3 rfl) ?_
    refine lv_iload_n hx hb dX0_cutTriangle_16 rfl (lv_at hl 1 rfl) ?_
    refine wr_cVv (As := [.int z, .int k, .int a]) (rest := []) (wr := []) F (c_X0_addTriangle l dC dI cI cZ cY h qx qy ql qs qc n t xs ys (m_remT n xs ys lf a b k) sy co z k a H.size) (cwV 3 hts gX0_cutTriangle_X0_addTriangle rfl rfl rfl hd_X0_addTriangle ⟨Nat.le_of_ble_eq_true rfl, Nat.le_of_ble_eq_true rfl⟩) hP hK hD hS hA [0, 1, 2, 3, 4, 5] [] rfl rfl (by decide) rfl (by decide) (by decide) (va_recv hK hP (ci := 0) (q0 := 0) rfl rfl) rfl hl.1 rfl (lv_room (Nat.le_of_ble_eq_true rfl)) dX0_cutTriangle_17 ⟨Nat.zero_le _, Nat.zero_le _⟩ (fun H locs hP hD hS => ?_)
    have hP : va_P (dC, dI) vwCl (wM cI h qx qy ql qs qc n t xs ys (m_addT n xs ys (m_remT n xs ys lf a b k) z k a) sy co) H := hP
    have hD : va_D A (wM cI h qx qy ql qs qc n t xs ys (m_addT n xs ys (m_remT n xs ys lf a b k) z k a) sy co) := hD
    refine lv_aload_n hx hb dX0_cutTriangle_20 rfl (lv_at hl 0 rfl) ?_
    refine lv_iload hx hb dX0_cutTriangle_21 (lv_at hl 4 rfl) ?_
    refine lv_iload_n hx hb dX0_cutTriangle_23 rfl (lv_at hl 3 rfl) ?_
    refine lv_iload_n hx hb dX0_cutTriangle_24 rfl (lv_at hl 2 rfl) ?_
    refine wr_cVv (As := [.int z, .int k, .int b]) (rest := []) (wr := []) F (c_X0_addTriangle l dC dI cI cZ cY h qx qy ql qs qc n t xs ys (m_addT n xs ys (m_remT n xs ys lf a b k) z k a) sy co z k b H.size) (cwV 3 hts gX0_cutTriangle_X0_addTriangle rfl rfl rfl hd_X0_addTriangle ⟨Nat.le_of_ble_eq_true rfl, Nat.le_of_ble_eq_true rfl⟩) hP hK hD hS hA [0, 1, 2, 3, 4, 5] [] rfl rfl (by decide) rfl (by decide) (by decide) (va_recv hK hP (ci := 0) (q0 := 0) rfl rfl) rfl hl.1 rfl (lv_room (Nat.le_of_ble_eq_true rfl)) dX0_cutTriangle_25 ⟨Nat.zero_le _, Nat.zero_le _⟩ (fun H locs hP hD hS => ?_)
    have hP : va_P (dC, dI) vwCl (wM cI h qx qy ql qs qc n t xs ys (m_addT n xs ys (m_addT n xs ys (m_remT n xs ys lf a b k) z k a) z k b) sy co) H := hP
    have hD : va_D A (wM cI h qx qy ql qs qc n t xs ys (m_addT n xs ys (m_addT n xs ys (m_remT n xs ys lf a b k) z k a) z k b) sy co) := hD
    have e_lf : (m_cutT n xs ys lf a b k z : Nat → Int32) = m_addT n xs ys (m_addT n xs ys (m_remT n xs ys lf a b k) z k a) z k b := by first | contradiction | rfl | (simp only [m_cutT, c_1]; done) | (simp only [m_cutT, c_1]; rfl) | (simp [m_cutT, c_1]; done)
    have hP : va_P (dC, dI) vwCl (wM cI h qx qy ql qs qc n t xs ys (m_cutT n xs ys lf a b k z) sy co) H := by rw [e_lf]; exact hP
    have hD : va_D A (wM cI h qx qy ql qs qc n t xs ys (m_cutT n xs ys lf a b k z) sy co) := by rw [e_lf]; exact hD
    exact wr_vret hx hb hr hlocks hP hK hD hS dX0_cutTriangle_28
