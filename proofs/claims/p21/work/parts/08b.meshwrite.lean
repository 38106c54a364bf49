set_option maxHeartbeats 4000000 in
set_option maxRecDepth 100000 in
theorem c_X0_turnEdge (l : Launch) (dC : Nat → ClassId) (dI : Nat → Nat → Nat) (cI cZ cY : ClassId) (h qx qy ql qs qc : Nat) (n t : Nat) (xs ys lf sy co : Nat → Int32) (a : Int32) (b : Int32) (sz : Nat) (hn : n ≤ 17) : Met l yX0_turnEdge wsX0_turnEdge ({ frames := 3, cells := 0, slots := 0, locals := 70 }) (va_Pc [.ref h, .int a, .int b] (wrP (dC, dI) (gTY cI cZ cY) (wM cI h qx qy ql qs qc n t xs ys lf sy co) sz)) (wrQv (dC, dI) (gTY cI cZ cY) (wM cI h qx qy ql qs qc n ((m_list n (m_tE n xs ys lf a b) co).1) xs ys (m_tE n xs ys lf a b) sy ((m_list n (m_tE n xs ys lf a b) co).2)) (va_A (wM cI h qx qy ql qs qc n t xs ys lf sy co) sz)) 0 0 (va_A (wM cI h qx qy ql qs qc n t xs ys lf sy co) sz) := by
  refine wr_start (cc := cX0_turnEdge) (maxL := 5) (ret := none) (Q0 := wrQv (dC, dI) (gTY cI cZ cY) (wM cI h qx qy ql qs qc n ((m_list n (m_tE n xs ys lf a b) co).1) xs ys (m_tE n xs ys lf a b) sy ((m_list n (m_tE n xs ys lf a b) co).2))) RX0 (by decide) rfl rfl (Nat.le_of_ble_eq_true rfl) ?_
  intro p e s m below meth c ⟨hx, hb, hr, hml, hown, hts, hlocks, hin⟩ hP hK A hD hA hS ls hl
  have F : CallFix p m c cX0_turnEdge 5 s ([.ref h, .int a, .int b] : List Value).toArray wsX0_turnEdge RX0 := ⟨hx, hb, hml, hown, hts⟩
  have hl : lv_has ls 5 [(0, .ref h), (1, .int a), (2, .int b)] := hl
  refine lv_aload_n hx hb dX0_turnEdge_0 rfl (lv_at hl 0 rfl) ?_
  refine lv_iload_n hx hb dX0_turnEdge_1 rfl (lv_at hl 1 rfl) ?_
  refine lv_iload_n hx hb dX0_turnEdge_2 rfl (lv_at hl 2 rfl) ?_
  refine rd_cVi (As := [.int a, .int b]) (rest := []) F (c_X0_leftOf l dC dI cI cZ cY h qx qy ql qs qc n t xs ys lf sy co a b) (cwV 2 hts gX0_turnEdge_X0_leftOf rfl rfl rfl hd_X0_leftOf ⟨Nat.le_of_ble_eq_true rfl, Nat.le_of_ble_eq_true rfl⟩) hP hK (va_recv hK hP (ci := 0) (q0 := 0) rfl rfl) rfl hl.1 rfl (lv_room (Nat.le_of_ble_eq_true rfl)) dX0_turnEdge_3 ⟨Nat.zero_le _, Nat.zero_le _⟩ ?_
  refine lv_istore_n (lv' := [(3, .int (m_leftOf lf a b)), (0, .ref h), (1, .int a), (2, .int b)]) hx hb dX0_turnEdge_6 rfl hl (by decide) rfl (fun ls hl => ?_)
  refine lv_aload_n hx hb dX0_turnEdge_7 rfl (lv_at hl 1 rfl) ?_
  refine lv_iload_n hx hb dX0_turnEdge_8 rfl (lv_at hl 3 rfl) ?_
  refine lv_iload_n hx hb dX0_turnEdge_9 rfl (lv_at hl 2 rfl) ?_
  refine rd_cVi (As := [.int b, .int a]) (rest := []) F (c_X0_leftOf l dC dI cI cZ cY h qx qy ql qs qc n t xs ys lf sy co b a) (cwV 2 hts gX0_turnEdge_X0_leftOf rfl rfl rfl hd_X0_leftOf ⟨Nat.le_of_ble_eq_true rfl, Nat.le_of_ble_eq_true rfl⟩) hP hK (va_recv hK hP (ci := 0) (q0 := 0) rfl rfl) rfl hl.1 rfl (lv_room (Nat.le_of_ble_eq_true rfl)) dX0_turnEdge_10 ⟨Nat.zero_le _, Nat.zero_le _⟩ ?_
  refine lv_istore (lv' := [(4, .int (m_leftOf lf b a)), (3, .int (m_leftOf lf a b)), (0, .ref h), (1, .int a), (2, .int b)]) hx hb dX0_turnEdge_13 hl (by decide) rfl (fun ls hl => ?_)
  refine lv_aload_n hx hb dX0_turnEdge_15 rfl (lv_at hl 2 rfl) ?_
  refine lv_iload_n hx hb dX0_turnEdge_16 rfl (lv_at hl 3 rfl) ?_
  refine lv_iload_n hx hb dX0_turnEdge_17 rfl (lv_at hl 4 rfl) ?_
  refine lv_iload_n hx hb dX0_turnEdge_18 rfl (lv_at hl 1 rfl) ?_
  refine wr_cVv (As := [.int a, .int b, .int (m_leftOf lf a b)]) (rest := []) (wr := []) F (c_X0_removeTriangle l dC dI cI cZ cY h qx qy ql qs qc n t xs ys lf sy co a b (m_leftOf lf a b) s.heap.size) (cwV 3 hts gX0_turnEdge_X0_removeTriangle rfl rfl rfl hd_X0_removeTriangle ⟨Nat.le_of_ble_eq_true rfl, Nat.le_of_ble_eq_true rfl⟩) hP hK hD hS hA [0, 1, 2, 3, 4, 5] [] rfl rfl (by decide) rfl (by decide) (by decide) (va_recv hK hP (ci := 0) (q0 := 0) rfl rfl) rfl hl.1 rfl (lv_room (Nat.le_of_ble_eq_true rfl)) dX0_turnEdge_19 ⟨Nat.zero_le _, Nat.zero_le _⟩ (fun H locs hP hD hS => ?_)
  have hP : va_P (dC, dI) vwCl (wM cI h qx qy ql qs qc n t xs ys (m_remT n xs ys lf a b (m_leftOf lf a b)) sy co) H := hP
  have hD : va_D A (wM cI h qx qy ql qs qc n t xs ys (m_remT n xs ys lf a b (m_leftOf lf a b)) sy co) := hD
  refine lv_aload_n hx hb dX0_turnEdge_22 rfl (lv_at hl 2 rfl) ?_
  refine lv_iload_n hx hb dX0_turnEdge_23 rfl (lv_at hl 3 rfl) ?_
  refine lv_iload_n hx hb dX0_turnEdge_24 rfl (lv_at hl 4 rfl) ?_
  refine lv_iload hx hb dX0_turnEdge_25 (lv_at hl 0 rfl) ?_
  refine wr_cVv (As := [.int a, .int b, .int (m_leftOf lf b a)]) (rest := []) (wr := []) F (c_X0_removeTriangle l dC dI cI cZ cY h qx qy ql qs qc n t xs ys (m_remT n xs ys lf a b (m_leftOf lf a b)) sy co a b (m_leftOf lf b a) H.size) (cwV 3 hts gX0_turnEdge_X0_removeTriangle rfl rfl rfl hd_X0_removeTriangle ⟨Nat.le_of_ble_eq_true rfl, Nat.le_of_ble_eq_true rfl⟩) hP hK hD hS hA [0, 1, 2, 3, 4, 5] [] rfl rfl (by decide) rfl (by decide) (by decide) (va_recv hK hP (ci := 0) (q0 := 0) rfl rfl) rfl hl.1 rfl (lv_room (Nat.le_of_ble_eq_true rfl)) dX0_turnEdge_27 ⟨Nat.zero_le _, Nat.zero_le _⟩ (fun H locs hP hD hS => ?_)
  have hP : va_P (dC, dI) vwCl (wM cI h qx qy ql qs qc n t xs ys (m_remT n xs ys (m_remT n xs ys lf a b (m_leftOf lf a b)) a b (m_leftOf lf b a)) sy co) H := hP
  have hD : va_D A (wM cI h qx qy ql qs qc n t xs ys (m_remT n xs ys (m_remT n xs ys lf a b (m_leftOf lf a b)) a b (m_leftOf lf b a)) sy co) := hD
  refine lv_aload_n hx hb dX0_turnEdge_30 rfl (lv_at hl 2 rfl) ?_
  refine lv_iload_n hx hb dX0_turnEdge_31 rfl (lv_at hl 1 rfl) ?_
  refine lv_iload hx hb dX0_turnEdge_32 (lv_at hl 0 rfl) ?_
  refine lv_iload_n hx hb dX0_turnEdge_34 rfl (lv_at hl 3 rfl) ?_
  refine wr_cVv (As := [.int (m_leftOf lf a b), .int (m_leftOf lf b a), .int a]) (rest := []) (wr := []) F (c_X0_addTriangle l dC dI cI cZ cY h qx qy ql qs qc n t xs ys (m_remT n xs ys (m_remT n xs ys lf a b (m_leftOf lf a b)) a b (m_leftOf lf b a)) sy co (m_leftOf lf a b) (m_leftOf lf b a) a H.size) (cwV 3 hts gX0_turnEdge_X0_addTriangle rfl rfl rfl hd_X0_addTriangle ⟨Nat.le_of_ble_eq_true rfl, Nat.le_of_ble_eq_true rfl⟩) hP hK hD hS hA [0, 1, 2, 3, 4, 5] [] rfl rfl (by decide) rfl (by decide) (by decide) (va_recv hK hP (ci := 0) (q0 := 0) rfl rfl) rfl hl.1 rfl (lv_room (Nat.le_of_ble_eq_true rfl)) dX0_turnEdge_35 ⟨Nat.zero_le _, Nat.zero_le _⟩ (fun H locs hP hD hS => ?_)
  have hP : va_P (dC, dI) vwCl (wM cI h qx qy ql qs qc n t xs ys (m_addT n xs ys (m_remT n xs ys (m_remT n xs ys lf a b (m_leftOf lf a b)) a b (m_leftOf lf b a)) (m_leftOf lf a b) (m_leftOf lf b a) a) sy co) H := hP
  have hD : va_D A (wM cI h qx qy ql qs qc n t xs ys (m_addT n xs ys (m_remT n xs ys (m_remT n xs ys lf a b (m_leftOf lf a b)) a b (m_leftOf lf b a)) (m_leftOf lf a b) (m_leftOf lf b a) a) sy co) := hD
  refine lv_aload_n hx hb dX0_turnEdge_38 rfl (lv_at hl 2 rfl) ?_
  refine lv_iload_n hx hb dX0_turnEdge_39 rfl (lv_at hl 1 rfl) ?_
  refine lv_iload hx hb dX0_turnEdge_40 (lv_at hl 0 rfl) ?_
  refine lv_iload_n hx hb dX0_turnEdge_42 rfl (lv_at hl 4 rfl) ?_
  refine wr_cVv (As := [.int (m_leftOf lf a b), .int (m_leftOf lf b a), .int b]) (rest := []) (wr := []) F (c_X0_addTriangle l dC dI cI cZ cY h qx qy ql qs qc n t xs ys (m_addT n xs ys (m_remT n xs ys (m_remT n xs ys lf a b (m_leftOf lf a b)) a b (m_leftOf lf b a)) (m_leftOf lf a b) (m_leftOf lf b a) a) sy co (m_leftOf lf a b) (m_leftOf lf b a) b H.size) (cwV 3 hts gX0_turnEdge_X0_addTriangle rfl rfl rfl hd_X0_addTriangle ⟨Nat.le_of_ble_eq_true rfl, Nat.le_of_ble_eq_true rfl⟩) hP hK hD hS hA [0, 1, 2, 3, 4, 5] [] rfl rfl (by decide) rfl (by decide) (by decide) (va_recv hK hP (ci := 0) (q0 := 0) rfl rfl) rfl hl.1 rfl (lv_room (Nat.le_of_ble_eq_true rfl)) dX0_turnEdge_43 ⟨Nat.zero_le _, Nat.zero_le _⟩ (fun H locs hP hD hS => ?_)
  have hP : va_P (dC, dI) vwCl (wM cI h qx qy ql qs qc n t xs ys (m_addT n xs ys (m_addT n xs ys (m_remT n xs ys (m_remT n xs ys lf a b (m_leftOf lf a b)) a b (m_leftOf lf b a)) (m_leftOf lf a b) (m_leftOf lf b a) a) (m_leftOf lf a b) (m_leftOf lf b a) b) sy co) H := hP
  have hD : va_D A (wM cI h qx qy ql qs qc n t xs ys (m_addT n xs ys (m_addT n xs ys (m_remT n xs ys (m_remT n xs ys lf a b (m_leftOf lf a b)) a b (m_leftOf lf b a)) (m_leftOf lf a b) (m_leftOf lf b a) a) (m_leftOf lf a b) (m_leftOf lf b a) b) sy co) := hD
  refine lv_aload_n hx hb dX0_turnEdge_46 rfl (lv_at hl 2 rfl) ?_
  refine wr_cVv (As := []) (rest := []) (wr := []) F (c_X0_listTriangles l dC dI cI cZ cY h qx qy ql qs qc n t xs ys (m_addT n xs ys (m_addT n xs ys (m_remT n xs ys (m_remT n xs ys lf a b (m_leftOf lf a b)) a b (m_leftOf lf b a)) (m_leftOf lf a b) (m_leftOf lf b a) a) (m_leftOf lf a b) (m_leftOf lf b a) b) sy co H.size hn) (cwV 0 hts gX0_turnEdge_X0_listTriangles rfl rfl rfl hd_X0_listTriangles ⟨Nat.le_of_ble_eq_true rfl, Nat.le_of_ble_eq_true rfl⟩) hP hK hD hS hA [0, 1, 2, 3, 4, 5] [] rfl rfl (by decide) rfl (by decide) (by decide) (va_recv hK hP (ci := 0) (q0 := 0) rfl rfl) rfl hl.1 rfl (lv_room (Nat.le_of_ble_eq_true rfl)) dX0_turnEdge_47 ⟨Nat.zero_le _, Nat.zero_le _⟩ (fun H locs hP hD hS => ?_)
  have hP : va_P (dC, dI) vwCl (wM cI h qx qy ql qs qc n ((m_list n (m_addT n xs ys (m_addT n xs ys (m_remT n xs ys (m_remT n xs ys lf a b (m_leftOf lf a b)) a b (m_leftOf lf b a)) (m_leftOf lf a b) (m_leftOf lf b a) a) (m_leftOf lf a b) (m_leftOf lf b a) b) co).1) xs ys (m_addT n xs ys (m_addT n xs ys (m_remT n xs ys (m_remT n xs ys lf a b (m_leftOf lf a b)) a b (m_leftOf lf b a)) (m_leftOf lf a b) (m_leftOf lf b a) a) (m_leftOf lf a b) (m_leftOf lf b a) b) sy ((m_list n (m_addT n xs ys (m_addT n xs ys (m_remT n xs ys (m_remT n xs ys lf a b (m_leftOf lf a b)) a b (m_leftOf lf b a)) (m_leftOf lf a b) (m_leftOf lf b a) a) (m_leftOf lf a b) (m_leftOf lf b a) b) co).2)) H := hP
  have hD : va_D A (wM cI h qx qy ql qs qc n ((m_list n (m_addT n xs ys (m_addT n xs ys (m_remT n xs ys (m_remT n xs ys lf a b (m_leftOf lf a b)) a b (m_leftOf lf b a)) (m_leftOf lf a b) (m_leftOf lf b a) a) (m_leftOf lf a b) (m_leftOf lf b a) b) co).1) xs ys (m_addT n xs ys (m_addT n xs ys (m_remT n xs ys (m_remT n xs ys lf a b (m_leftOf lf a b)) a b (m_leftOf lf b a)) (m_leftOf lf a b) (m_leftOf lf b a) a) (m_leftOf lf a b) (m_leftOf lf b a) b) sy ((m_list n (m_addT n xs ys (m_addT n xs ys (m_remT n xs ys (m_remT n xs ys lf a b (m_leftOf lf a b)) a b (m_leftOf lf b a)) (m_leftOf lf a b) (m_leftOf lf b a) a) (m_leftOf lf a b) (m_leftOf lf b a) b) co).2)) := hD
  have e_t : ((m_list n (m_tE n xs ys lf a b) co).1 : Nat) = (m_list n (m_addT n xs ys (m_addT n xs ys (m_remT n xs ys (m_remT n xs ys lf a b (m_leftOf lf a b)) a b (m_leftOf lf b a)) (m_leftOf lf a b) (m_leftOf lf b a) a) (m_leftOf lf a b) (m_leftOf lf b a) b) co).1 := by rfl
  have e_lf : (m_tE n xs ys lf a b : Nat → Int32) = (m_addT n xs ys (m_addT n xs ys (m_remT n xs ys (m_remT n xs ys lf a b (m_leftOf lf a b)) a b (m_leftOf lf b a)) (m_leftOf lf a b) (m_leftOf lf b a) a) (m_leftOf lf a b) (m_leftOf lf b a) b) := by rfl
  have e_co : ((m_list n (m_tE n xs ys lf a b) co).2 : Nat → Int32) = (m_list n (m_addT n xs ys (m_addT n xs ys (m_remT n xs ys (m_remT n xs ys lf a b (m_leftOf lf a b)) a b (m_leftOf lf b a)) (m_leftOf lf a b) (m_leftOf lf b a) a) (m_leftOf lf a b) (m_leftOf lf b a) b) co).2 := by rfl
  have hP : va_P (dC, dI) vwCl (wM cI h qx qy ql qs qc n ((m_list n (m_tE n xs ys lf a b) co).1) xs ys (m_tE n xs ys lf a b) sy ((m_list n (m_tE n xs ys lf a b) co).2)) H := by rw [e_t, e_co, e_lf]; exact hP
  have hD : va_D A (wM cI h qx qy ql qs qc n ((m_list n (m_tE n xs ys lf a b) co).1) xs ys (m_tE n xs ys lf a b) sy ((m_list n (m_tE n xs ys lf a b) co).2)) := by rw [e_t, e_co, e_lf]; exact hD
  exact wr_vret hx hb hr hlocks hP hK hD hS dX0_turnEdge_50
theorem in_X0_addCairn_X0 : ∀ w ∈ wsX00, w ∈ wsX0_addCairn := by decide +kernel
theorem fl_X0_addCairn_38 : (Cond.fieldLink RX0 38 "MoorTriangles$Mesh" "cairns" "I") ∈ wsX0_addCairn := by decide +kernel
theorem fl_X0_addCairn_11 : (Cond.fieldLink RX0 11 "MoorTriangles$Mesh" "xs" "[I") ∈ wsX0_addCairn := by decide +kernel
theorem fl_X0_addCairn_15 : (Cond.fieldLink RX0 15 "MoorTriangles$Mesh" "ys" "[I") ∈ wsX0_addCairn := by decide +kernel
set_option maxHeartbeats 4000000 in
set_option maxRecDepth 100000 in
theorem c_X0_addCairn (l : Launch) (dC : Nat → ClassId) (dI : Nat → Nat → Nat) (cI cZ cY : ClassId) (h qx qy ql qs qc : Nat) (n t : Nat) (xs ys lf sy co : Nat → Int32) (x : Int32) (y : Int32) (sz : Nat) (hn : n < 17) : Met l yX0_addCairn wsX0_addCairn ({ frames := 0, cells := 0, slots := 0, locals := 0 }) (va_Pc [.ref h, .int x, .int y] (wrP (dC, dI) (gTY cI cZ cY) (wM cI h qx qy ql qs qc n t xs ys lf sy co) sz)) (wrQi (dC, dI) (gTY cI cZ cY) (nI n) (wM cI h qx qy ql qs qc (n + 1) t (m_ac n xs x) (m_ac n ys y) lf sy co) (va_A (wM cI h qx qy ql qs qc n t xs ys lf sy co) sz)) 0 0 (va_A (wM cI h qx qy ql qs qc n t xs ys lf sy co) sz) := by
  refine wr_start (cc := cX0_addCairn) (maxL := 4) (ret := (some .int)) (Q0 := wrQi (dC, dI) (gTY cI cZ cY) (nI n) (wM cI h qx qy ql qs qc (n + 1) t (m_ac n xs x) (m_ac n ys y) lf sy co)) RX0 (by decide) rfl rfl (Nat.le_of_ble_eq_true rfl) ?_
  intro p e s m below meth c ⟨hx, hb, hr, hml, hown, hts, hlocks, hin⟩ hP hK A hD hA hS ls hl
  have F : CallFix p m c cX0_addCairn 4 s ([.ref h, .int x, .int y] : List Value).toArray wsX0_addCairn RX0 := ⟨hx, hb, hml, hown, hts⟩
  have hl : lv_has ls 4 [(0, .ref h), (1, .int x), (2, .int y)] := hl
  refine lv_aload_n hx hb dX0_addCairn_0 rfl (lv_at hl 0 rfl) ?_
  refine va_get (D := (dC, dI)) (ci := 0) (v := .int (nI n)) (C := RX0) (T := TX0) (N := 7) hx hb hts in_X0_addCairn_X0 hown hK hP 0 rfl rfl 0 (by decide) (hts (.fieldLink RX0 38 "MoorTriangles$Mesh" "cairns" "I") fl_X0_addCairn_38) (fun _ h9 => h9) rfl dX0_addCairn_1 ?_
  refine lv_istore_n (lv' := [(3, .int (nI n)), (0, .ref h), (1, .int x), (2, .int y)]) hx hb dX0_addCairn_4 rfl hl (by decide) rfl (fun ls hl => ?_)
  refine lv_iload_n hx hb dX0_addCairn_5 rfl (lv_at hl 0 rfl) ?_
  refine lv_if_lt (tgt := 15) hx hb dX0_addCairn_6 (by decide) (fun c_1 => ?_) (fun c_1 => ?_)
  · exact absurd c_1 (nI_pos (by omega))
  · refine lv_iload_n hx hb dX0_addCairn_9 rfl (lv_at hl 0 rfl) ?_
    refine lv_bipush (v := 17) hx hb dX0_addCairn_10 (by decide) ?_
    refine lv_icmp_lt (tgt := 17) hx hb dX0_addCairn_12 (by decide) (fun c_2 => ?_) (fun c_2 => ?_)
    · refine lv_aload_n hx hb dX0_addCairn_17 rfl (lv_at hl 1 rfl) ?_
      refine va_get (D := (dC, dI)) (ci := 0) (v := .ref qx) (C := RX0) (T := TX0) (N := 7) hx hb hts in_X0_addCairn_X0 hown hK hP 0 rfl rfl 2 (by decide) (hts (.fieldLink RX0 11 "MoorTriangles$Mesh" "xs" "[I") fl_X0_addCairn_11) (fun _ h9 => h9) rfl dX0_addCairn_18 ?_
      refine lv_iload_n hx hb dX0_addCairn_21 rfl (lv_at hl 0 rfl) ?_
      refine lv_iload_n hx hb dX0_addCairn_22 rfl (lv_at hl 2 rfl) ?_
      refine va_iast (D := (dC, dI)) hx hb hK hP hD hS 1 0 rfl rfl (vp_in_nI hn (by decide)) dX0_addCairn_23 (fun H locs hP hD hS => ?_)
      have hP : va_P (dC, dI) vwCl (wM cI h qx qy ql qs qc n t (upd xs (nI n).toNatClampNeg x) ys lf sy co) H := hP
      have hD : va_D A (wM cI h qx qy ql qs qc n t (upd xs (nI n).toNatClampNeg x) ys lf sy co) := hD
      refine lv_aload_n hx hb dX0_addCairn_24 rfl (lv_at hl 1 rfl) ?_
      refine va_get (D := (dC, dI)) (ci := 0) (v := .ref qy) (C := RX0) (T := TX0) (N := 7) hx hb hts in_X0_addCairn_X0 hown hK hP 0 rfl rfl 3 (by decide) (hts (.fieldLink RX0 15 "MoorTriangles$Mesh" "ys" "[I") fl_X0_addCairn_15) (fun _ h9 => h9) rfl dX0_addCairn_25 ?_
      refine lv_iload_n hx hb dX0_addCairn_28 rfl (lv_at hl 0 rfl) ?_
      refine lv_iload_n hx hb dX0_addCairn_29 rfl (lv_at hl 3 rfl) ?_
      refine va_iast (D := (dC, dI)) hx hb hK hP hD hS 2 0 rfl rfl (vp_in_nI hn (by decide)) dX0_addCairn_30 (fun H locs hP hD hS => ?_)
      have hP : va_P (dC, dI) vwCl (wM cI h qx qy ql qs qc n t (upd xs (nI n).toNatClampNeg x) (upd ys (nI n).toNatClampNeg y) lf sy co) H := hP
      have hD : va_D A (wM cI h qx qy ql qs qc n t (upd xs (nI n).toNatClampNeg x) (upd ys (nI n).toNatClampNeg y) lf sy co) := hD
      refine lv_aload_n hx hb dX0_addCairn_31 rfl (lv_at hl 1 rfl) ?_
      refine lv_dup hx hb dX0_addCairn_32 rfl ?_
      refine va_get (D := (dC, dI)) (ci := 0) (v := .int (nI n)) (C := RX0) (T := TX0) (N := 7) hx hb hts in_X0_addCairn_X0 hown hK hP 0 rfl rfl 0 (by decide) (hts (.fieldLink RX0 38 "MoorTriangles$Mesh" "cairns" "I") fl_X0_addCairn_38) (fun _ h9 => h9) rfl dX0_addCairn_33 ?_
      refine lv_iconst (v := 1) hx hb dX0_addCairn_36 (by decide) ?_
      refine lv_iadd hx hb dX0_addCairn_37 ?_
      refine lv_cvi (nI_1 _) ?_
      refine va_put (D := (dC, dI)) (ci := 0) (v := .int (nI (n + 1))) (ty := .int) (C := RX0) (T := TX0) (N := 7) hx hb hts in_X0_addCairn_X0 tyX0 tyX0_ok nmX0 hown hK hP hD hS 0 rfl rfl 0 (by decide) (hts (.fieldLink RX0 38 "MoorTriangles$Mesh" "cairns" "I") fl_X0_addCairn_38) (fun _ h9 => h9) rfl (by decide +kernel) rfl rfl (Nat.le_of_ble_eq_true rfl) dX0_addCairn_38 (fun H locs hP hD hS => ?_)
      have hP : va_P (dC, dI) vwCl (wM cI h qx qy ql qs qc (n + 1) t (upd xs (nI n).toNatClampNeg x) (upd ys (nI n).toNatClampNeg y) lf sy co) H := hP
      have hD : va_D A (wM cI h qx qy ql qs qc (n + 1) t (upd xs (nI n).toNatClampNeg x) (upd ys (nI n).toNatClampNeg y) lf sy co) := hD
      refine lv_iload_n hx hb dX0_addCairn_41 rfl (lv_at hl 0 rfl) ?_
      have e_n : (n + 1 : Nat) = (n + 1) := by rfl
      have e_xs : (m_ac n xs x : Nat → Int32) = (upd xs (nI n).toNatClampNeg x) := by rfl
      have e_ys : (m_ac n ys y : Nat → Int32) = (upd ys (nI n).toNatClampNeg y) := by rfl
      have hP : va_P (dC, dI) vwCl (wM cI h qx qy ql qs qc (n + 1) t (m_ac n xs x) (m_ac n ys y) lf sy co) H := by rw [e_n, e_xs, e_ys]; exact hP
      have hD : va_D A (wM cI h qx qy ql qs qc (n + 1) t (m_ac n xs x) (m_ac n ys y) lf sy co) := by rw [e_n, e_xs, e_ys]; exact hD
      exact wr_iret hx hb hr hlocks (by rfl) hP hK hD hS dX0_addCairn_42
    · exact absurd ((nI_ltI (by omega) (by decide)).mpr hn) c_2
set_option maxHeartbeats 4000000 in
set_option maxRecDepth 100000 in
theorem c_X0_cutEdge (l : Launch) (dC : Nat → ClassId) (dI : Nat → Nat → Nat) (cI cZ cY : ClassId) (h qx qy ql qs qc : Nat) (n t : Nat) (xs ys lf sy co : Nat → Int32) (a : Int32) (b : Int32) (k : Int32) (sz : Nat) : Met l yX0_cutEdge wsX0_cutEdge ({ frames := 4, cells := 0, slots := 0, locals := 94 }) (va_Pc [.ref h, .int a, .int b, .int k] (wrP (dC, dI) (gTY cI cZ cY) (wM cI h qx qy ql qs qc n t xs ys lf sy co) sz)) (wrQv (dC, dI) (gTY cI cZ cY) (wM cI h qx qy ql qs qc n t xs ys (m_cELf n xs ys lf a b k) (m_cESy n sy a b k) co) (va_A (wM cI h qx qy ql qs qc n t xs ys lf sy co) sz)) 0 0 (va_A (wM cI h qx qy ql qs qc n t xs ys lf sy co) sz) := by
  refine wr_start (cc := cX0_cutEdge) (maxL := 6) (ret := none) (Q0 := wrQv (dC, dI) (gTY cI cZ cY) (wM cI h qx qy ql qs qc n t xs ys (m_cELf n xs ys lf a b k) (m_cESy n sy a b k) co)) RX0 (by decide) rfl rfl (Nat.le_of_ble_eq_true rfl) ?_
  intro p e s m below meth c ⟨hx, hb, hr, hml, hown, hts, hlocks, hin⟩ hP hK A hD hA hS ls hl
  have F : CallFix p m c cX0_cutEdge 6 s ([.ref h, .int a, .int b, .int k] : List Value).toArray wsX0_cutEdge RX0 := ⟨hx, hb, hml, hown, hts⟩
  have hl : lv_has ls 6 [(0, .ref h), (1, .int a), (2, .int b), (3, .int k)] := hl
  refine lv_aload_n hx hb dX0_cutEdge_0 rfl (lv_at hl 0 rfl) ?_
  refine lv_iload_n hx hb dX0_cutEdge_1 rfl (lv_at hl 1 rfl) ?_
  refine lv_iload_n hx hb dX0_cutEdge_2 rfl (lv_at hl 2 rfl) ?_
  refine rd_cVi (As := [.int a, .int b]) (rest := []) F (c_X0_leftOf l dC dI cI cZ cY h qx qy ql qs qc n t xs ys lf sy co a b) (cwV 2 hts gX0_cutEdge_X0_leftOf rfl rfl rfl hd_X0_leftOf ⟨Nat.le_of_ble_eq_true rfl, Nat.le_of_ble_eq_true rfl⟩) hP hK (va_recv hK hP (ci := 0) (q0 := 0) rfl rfl) rfl hl.1 rfl (lv_room (Nat.le_of_ble_eq_true rfl)) dX0_cutEdge_3 ⟨Nat.zero_le _, Nat.zero_le _⟩ ?_
  refine lv_istore (lv' := [(4, .int (m_leftOf lf a b)), (0, .ref h), (1, .int a), (2, .int b), (3, .int k)]) hx hb dX0_cutEdge_6 hl (by decide) rfl (fun ls hl => ?_)
  refine lv_aload_n hx hb dX0_cutEdge_8 rfl (lv_at hl 1 rfl) ?_
  refine lv_iload_n hx hb dX0_cutEdge_9 rfl (lv_at hl 3 rfl) ?_
  refine lv_iload_n hx hb dX0_cutEdge_10 rfl (lv_at hl 2 rfl) ?_
  refine rd_cVi (As := [.int b, .int a]) (rest := []) F (c_X0_leftOf l dC dI cI cZ cY h qx qy ql qs qc n t xs ys lf sy co b a) (cwV 2 hts gX0_cutEdge_X0_leftOf rfl rfl rfl hd_X0_leftOf ⟨Nat.le_of_ble_eq_true rfl, Nat.le_of_ble_eq_true rfl⟩) hP hK (va_recv hK hP (ci := 0) (q0 := 0) rfl rfl) rfl hl.1 rfl (lv_room (Nat.le_of_ble_eq_true rfl)) dX0_cutEdge_11 ⟨Nat.zero_le _, Nat.zero_le _⟩ ?_
  refine lv_istore (lv' := [(5, .int (m_leftOf lf b a)), (4, .int (m_leftOf lf a b)), (0, .ref h), (1, .int a), (2, .int b), (3, .int k)]) hx hb dX0_cutEdge_14 hl (by decide) rfl (fun ls hl => ?_)
  refine lv_aload_n hx hb dX0_cutEdge_16 rfl (lv_at hl 2 rfl) ?_
  refine lv_iload_n hx hb dX0_cutEdge_17 rfl (lv_at hl 3 rfl) ?_
  refine lv_iload_n hx hb dX0_cutEdge_18 rfl (lv_at hl 4 rfl) ?_
  refine lv_iload hx hb dX0_cutEdge_19 (lv_at hl 1 rfl) ?_
  refine lv_iload_n hx hb dX0_cutEdge_21 rfl (lv_at hl 5 rfl) ?_
  refine wr_cVv (As := [.int a, .int b, .int (m_leftOf lf a b), .int k]) (rest := []) (wr := []) F (c_X0_cutTriangle l dC dI cI cZ cY h qx qy ql qs qc n t xs ys lf sy co a b (m_leftOf lf a b) k s.heap.size) (cwV 4 hts gX0_cutEdge_X0_cutTriangle rfl rfl rfl hd_X0_cutTriangle ⟨Nat.le_of_ble_eq_true rfl, Nat.le_of_ble_eq_true rfl⟩) hP hK hD hS hA [0, 1, 2, 3, 4, 5] [] rfl rfl (by decide) rfl (by decide) (by decide) (va_recv hK hP (ci := 0) (q0 := 0) rfl rfl) rfl hl.1 rfl (lv_room (Nat.le_of_ble_eq_true rfl)) dX0_cutEdge_22 ⟨Nat.zero_le _, Nat.zero_le _⟩ (fun H locs hP hD hS => ?_)
  have hP : va_P (dC, dI) vwCl (wM cI h qx qy ql qs qc n t xs ys (m_cutT n xs ys lf a b (m_leftOf lf a b) k) sy co) H := hP
  have hD : va_D A (wM cI h qx qy ql qs qc n t xs ys (m_cutT n xs ys lf a b (m_leftOf lf a b) k) sy co) := hD
  refine lv_aload_n hx hb dX0_cutEdge_25 rfl (lv_at hl 2 rfl) ?_
  refine lv_iload_n hx hb dX0_cutEdge_26 rfl (lv_at hl 3 rfl) ?_
  refine lv_iload_n hx hb dX0_cutEdge_27 rfl (lv_at hl 4 rfl) ?_
  refine lv_iload hx hb dX0_cutEdge_28 (lv_at hl 0 rfl) ?_
  refine lv_iload_n hx hb dX0_cutEdge_30 rfl (lv_at hl 5 rfl) ?_
  refine wr_cVv (As := [.int a, .int b, .int (m_leftOf lf b a), .int k]) (rest := []) (wr := []) F (c_X0_cutTriangle l dC dI cI cZ cY h qx qy ql qs qc n t xs ys (m_cutT n xs ys lf a b (m_leftOf lf a b) k) sy co a b (m_leftOf lf b a) k H.size) (cwV 4 hts gX0_cutEdge_X0_cutTriangle rfl rfl rfl hd_X0_cutTriangle ⟨Nat.le_of_ble_eq_true rfl, Nat.le_of_ble_eq_true rfl⟩) hP hK hD hS hA [0, 1, 2, 3, 4, 5] [] rfl rfl (by decide) rfl (by decide) (by decide) (va_recv hK hP (ci := 0) (q0 := 0) rfl rfl) rfl hl.1 rfl (lv_room (Nat.le_of_ble_eq_true rfl)) dX0_cutEdge_31 ⟨Nat.zero_le _, Nat.zero_le _⟩ (fun H locs hP hD hS => ?_)
  have hP : va_P (dC, dI) vwCl (wM cI h qx qy ql qs qc n t xs ys (m_cutT n xs ys (m_cutT n xs ys lf a b (m_leftOf lf a b) k) a b (m_leftOf lf b a) k) sy co) H := hP
  have hD : va_D A (wM cI h qx qy ql qs qc n t xs ys (m_cutT n xs ys (m_cutT n xs ys lf a b (m_leftOf lf a b) k) a b (m_leftOf lf b a) k) sy co) := hD
  refine lv_aload_n hx hb dX0_cutEdge_34 rfl (lv_at hl 2 rfl) ?_
  refine lv_iload_n hx hb dX0_cutEdge_35 rfl (lv_at hl 3 rfl) ?_
  refine lv_iload_n hx hb dX0_cutEdge_36 rfl (lv_at hl 4 rfl) ?_
  refine rd_cVi (As := [.int a, .int b]) (rest := []) F (c_X0_mustStay l dC dI cI cZ cY h qx qy ql qs qc n t xs ys (m_cutT n xs ys (m_cutT n xs ys lf a b (m_leftOf lf a b) k) a b (m_leftOf lf b a) k) sy co a b) (cwV 2 hts gX0_cutEdge_X0_mustStay rfl rfl rfl hd_X0_mustStay ⟨Nat.le_of_ble_eq_true rfl, Nat.le_of_ble_eq_true rfl⟩) hP hK (va_recv hK hP (ci := 0) (q0 := 0) rfl rfl) rfl hl.1 rfl (lv_room (Nat.le_of_ble_eq_true rfl)) dX0_cutEdge_37 ⟨Nat.zero_le _, Nat.zero_le _⟩ ?_
  refine lv_if_eqB (tgt := 64) hx hb dX0_cutEdge_40 (by decide) (fun c_1 => ?_) (fun c_1 => ?_)
  · have e_lf : (m_cELf n xs ys lf a b k : Nat → Int32) = m_cutT n xs ys (m_cutT n xs ys lf a b (m_leftOf lf a b) k) a b (m_leftOf lf b a) k := by rfl
    have e_sy : (m_cESy n sy a b k : Nat → Int32) = sy := by first | (simp only [m_cESy, c_1]; done) | (simp only [m_cESy, c_1]; rfl) | (simp [m_cESy, c_1]; done)
    have hP : va_P (dC, dI) vwCl (wM cI h qx qy ql qs qc n t xs ys (m_cELf n xs ys lf a b k) (m_cESy n sy a b k) co) H := by rw [e_lf, e_sy]; exact hP
    have hD : va_D A (wM cI h qx qy ql qs qc n t xs ys (m_cELf n xs ys lf a b k) (m_cESy n sy a b k) co) := by rw [e_lf, e_sy]; exact hD
    exact wr_vret hx hb hr hlocks hP hK hD hS dX0_cutEdge_64
  · refine lv_aload_n hx hb dX0_cutEdge_43 rfl (lv_at hl 2 rfl) ?_
    refine lv_iload_n hx hb dX0_cutEdge_44 rfl (lv_at hl 3 rfl) ?_
    refine lv_iload_n hx hb dX0_cutEdge_45 rfl (lv_at hl 4 rfl) ?_
    refine lv_iconst (v := 0) hx hb dX0_cutEdge_46 (by decide) ?_
    refine wr_cVv (As := [.int a, .int b, .int 0]) (rest := []) (wr := []) F (c_X0_setStay l dC dI cI cZ cY h qx qy ql qs qc n t xs ys (m_cutT n xs ys (m_cutT n xs ys lf a b (m_leftOf lf a b) k) a b (m_leftOf lf b a) k) sy co a b 0 H.size) (cwV 3 hts gX0_cutEdge_X0_setStay rfl rfl rfl hd_X0_setStay ⟨Nat.le_of_ble_eq_true rfl, Nat.le_of_ble_eq_true rfl⟩) hP hK hD hS hA [0, 1, 2, 3, 4, 5] [] rfl rfl (by decide) rfl (by decide) (by decide) (va_recv hK hP (ci := 0) (q0 := 0) rfl rfl) rfl hl.1 rfl (lv_room (Nat.le_of_ble_eq_true rfl)) dX0_cutEdge_47 ⟨Nat.zero_le _, Nat.zero_le _⟩ (fun H locs hP hD hS => ?_)
    have hP : va_P (dC, dI) vwCl (wM cI h qx qy ql qs qc n t xs ys (m_cutT n xs ys (m_cutT n xs ys lf a b (m_leftOf lf a b) k) a b (m_leftOf lf b a) k) (m_setSt n sy a b 0) co) H := hP
    have hD : va_D A (wM cI h qx qy ql qs qc n t xs ys (m_cutT n xs ys (m_cutT n xs ys lf a b (m_leftOf lf a b) k) a b (m_leftOf lf b a) k) (m_setSt n sy a b 0) co) := hD
    refine lv_aload_n hx hb dX0_cutEdge_50 rfl (lv_at hl 2 rfl) ?_
    refine lv_iload_n hx hb dX0_cutEdge_51 rfl (lv_at hl 3 rfl) ?_
    refine lv_iload_n hx hb dX0_cutEdge_52 rfl (lv_at hl 5 rfl) ?_
    refine lv_iconst (v := 1) hx hb dX0_cutEdge_53 (by decide) ?_
    refine wr_cVv (As := [.int a, .int k, .int 1]) (rest := []) (wr := []) F (c_X0_setStay l dC dI cI cZ cY h qx qy ql qs qc n t xs ys (m_cutT n xs ys (m_cutT n xs ys lf a b (m_leftOf lf a b) k) a b (m_leftOf lf b a) k) (m_setSt n sy a b 0) co a k 1 H.size) (cwV 3 hts gX0_cutEdge_X0_setStay rfl rfl rfl hd_X0_setStay ⟨Nat.le_of_ble_eq_true rfl, Nat.le_of_ble_eq_true rfl⟩) hP hK hD hS hA [0, 1, 2, 3, 4, 5] [] rfl rfl (by decide) rfl (by decide) (by decide) (va_recv hK hP (ci := 0) (q0 := 0) rfl rfl) rfl hl.1 rfl (lv_room (Nat.le_of_ble_eq_true rfl)) dX0_cutEdge_54 ⟨Nat.zero_le _, Nat.zero_le _⟩ (fun H locs hP hD hS => ?_)
    have hP : va_P (dC, dI) vwCl (wM cI h qx qy ql qs qc n t xs ys (m_cutT n xs ys (m_cutT n xs ys lf a b (m_leftOf lf a b) k) a b (m_leftOf lf b a) k) (m_setSt n (m_setSt n sy a b 0) a k 1) co) H := hP
    have hD : va_D A (wM cI h qx qy ql qs qc n t xs ys (m_cutT n xs ys (m_cutT n xs ys lf a b (m_leftOf lf a b) k) a b (m_leftOf lf b a) k) (m_setSt n (m_setSt n sy a b 0) a k 1) co) := hD
    refine lv_aload_n hx hb dX0_cutEdge_57 rfl (lv_at hl 2 rfl) ?_
    refine lv_iload_n hx hb dX0_cutEdge_58 rfl (lv_at hl 4 rfl) ?_
    refine lv_iload_n hx hb dX0_cutEdge_59 rfl (lv_at hl 5 rfl) ?_
    refine lv_iconst (v := 1) hx hb dX0_cutEdge_60 (by decide) ?_
    refine wr_cVv (As := [.int b, .int k, .int 1]) (rest := []) (wr := []) F (c_X0_setStay l dC dI cI cZ cY h qx qy ql qs qc n t xs ys (m_cutT n xs ys (m_cutT n xs ys lf a b (m_leftOf lf a b) k) a b (m_leftOf lf b a) k) (m_setSt n (m_setSt n sy a b 0) a k 1) co b k 1 H.size) (cwV 3 hts gX0_cutEdge_X0_setStay rfl rfl rfl hd_X0_setStay ⟨Nat.le_of_ble_eq_true rfl, Nat.le_of_ble_eq_true rfl⟩) hP hK hD hS hA [0, 1, 2, 3, 4, 5] [] rfl rfl (by decide) rfl (by decide) (by decide) (va_recv hK hP (ci := 0) (q0 := 0) rfl rfl) rfl hl.1 rfl (lv_room (Nat.le_of_ble_eq_true rfl)) dX0_cutEdge_61 ⟨Nat.zero_le _, Nat.zero_le _⟩ (fun H locs hP hD hS => ?_)
    have hP : va_P (dC, dI) vwCl (wM cI h qx qy ql qs qc n t xs ys (m_cutT n xs ys (m_cutT n xs ys lf a b (m_leftOf lf a b) k) a b (m_leftOf lf b a) k) (m_setSt n (m_setSt n (m_setSt n sy a b 0) a k 1) b k 1) co) H := hP
    have hD : va_D A (wM cI h qx qy ql qs qc n t xs ys (m_cutT n xs ys (m_cutT n xs ys lf a b (m_leftOf lf a b) k) a b (m_leftOf lf b a) k) (m_setSt n (m_setSt n (m_setSt n sy a b 0) a k 1) b k 1) co) := hD
    have e_lf : (m_cELf n xs ys lf a b k : Nat → Int32) = (m_cutT n xs ys (m_cutT n xs ys lf a b (m_leftOf lf a b) k) a b (m_leftOf lf b a) k) := by rfl
    have e_sy : (m_cESy n sy a b k : Nat → Int32) = m_setSt n (m_setSt n (m_setSt n sy a b 0) a k 1) b k 1 := by first | (simp only [m_cESy, c_1]; done) | (simp only [m_cESy, c_1]; rfl) | (simp [m_cESy, c_1]; done)
    have hP : va_P (dC, dI) vwCl (wM cI h qx qy ql qs qc n t xs ys (m_cELf n xs ys lf a b k) (m_cESy n sy a b k) co) H := by rw [e_lf, e_sy]; exact hP
    have hD : va_D A (wM cI h qx qy ql qs qc n t xs ys (m_cELf n xs ys lf a b k) (m_cESy n sy a b k) co) := by rw [e_lf, e_sy]; exact hD
    exact wr_vret hx hb hr hlocks hP hK hD hS dX0_cutEdge_64
