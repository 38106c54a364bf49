/-! the moor: methods that only read, by program (gen_x.py) -/
theorem hd_X1_heightOf : yX1_heightOf.cls = RX1 ∧ yX1_heightOf.cls ≠ "java/lang/invoke/MethodHandle" ∧ yX1_heightOf.cls ≠ "java/lang/invoke/VarHandle" ∧ (parseMethodDescriptor yX1_heightOf.desc).map (fun d => d.parameters.length) = some 1 := by decide +kernel
theorem in_X1_heightOf_X1 : ∀ w ∈ wsX10, w ∈ wsX1_heightOf := by decide +kernel
theorem fl_X1_heightOf_19 : (Cond.fieldLink RX1 19 "MoorTriangles" "heights" "[I") ∈ wsX1_heightOf := by decide +kernel
set_option maxHeartbeats 4000000 in
set_option maxRecDepth 100000 in
theorem c_X1_heightOf (l : Launch) (dC : Nat → ClassId) (dI : Nat → Nat → Nat) (cI cZ cY : ClassId) (o qo : Nat) (hs : Nat → Int32) (fl : Int32) (h qx qy ql qs qc n t : Nat) (xs ys lf sy co : Nat → Int32) (h2 qx2 qy2 ql2 qs2 qc2 n2 t2 : Nat) (xs2 ys2 lf2 sy2 co2 : Nat → Int32) (a : Int32) : Met l yX1_heightOf wsX1_heightOf ({ frames := 0, cells := 0, slots := 0, locals := 0 }) (va_Pc [.ref o, .int a] (fun U => va_P (dC, dI) vwCl (wX cI o qo hs fl h qx qy ql qs qc n t xs ys lf sy co h2 qx2 qy2 ql2 qs2 qc2 n2 t2 xs2 ys2 lf2 sy2 co2) U.heap ∧ va_K (dC, dI) vwCl (gTY cI cZ cY) U)) (vp_Si (fun r => r = x_hOf hs a)) 0 0 (fun _ => False) := by
  refine rd_start (cc := cX1_heightOf) (maxL := 2) (ret := (some .int)) RX1 (by decide) rfl rfl (Nat.le_of_ble_eq_true rfl) ?_
  intro p e s m below meth c ⟨hx, hb, hr, hml, hown, hts, hlocks⟩ hP hK ls hl
  have F : CallFix p m c cX1_heightOf 2 s ([.ref o, .int a] : List Value).toArray wsX1_heightOf RX1 := ⟨hx, hb, hml, hown, hts⟩
  have hl : lv_has ls 2 [(0, .ref o), (1, .int a)] := hl
  refine lv_iload_n hx hb dX1_heightOf_0 rfl (lv_at hl 1 rfl) ?_
  refine lv_if_lt (tgt := 22) hx hb dX1_heightOf_1 (by decide) (fun c_1 => ?_) (fun c_1 => ?_)
  · refine lv_iconst (v := 0) hx hb dX1_heightOf_22 (by decide) ?_
    exact rd_iret hx hb hr hlocks (by rw [x_hOf, if_pos c_1]) dX1_heightOf_23
  · refine lv_iload_n hx hb dX1_heightOf_4 rfl (lv_at hl 1 rfl) ?_
    refine lv_aload_n hx hb dX1_heightOf_5 rfl (lv_at hl 0 rfl) ?_
    refine va_get (D := (dC, dI)) (ci := 1) (v := .ref qo) (C := RX1) (T := TX1) (N := 4) hx hb hts in_X1_heightOf_X1 hown hK hP 0 rfl rfl 2 (by decide) (hts (.fieldLink RX1 19 "MoorTriangles" "heights" "[I") fl_X1_heightOf_19) (fun _ h9 => h9) rfl dX1_heightOf_6 ?_
    refine va_alen (D := (dC, dI)) hx hb hK hP 1 0 rfl rfl (v := 16) (by rfl) dX1_heightOf_9 ?_
    refine lv_icmp_ge (tgt := 22) hx hb dX1_heightOf_10 (by decide) (fun c_2 => ?_) (fun c_2 => ?_)
    · refine lv_iconst (v := 0) hx hb dX1_heightOf_22 (by decide) ?_
      exact rd_iret hx hb hr hlocks (by rw [x_hOf, if_neg c_1, if_pos c_2]) dX1_heightOf_23
    · refine lv_aload_n hx hb dX1_heightOf_13 rfl (lv_at hl 0 rfl) ?_
      refine va_get (D := (dC, dI)) (ci := 1) (v := .ref qo) (C := RX1) (T := TX1) (N := 4) hx hb hts in_X1_heightOf_X1 hown hK hP 0 rfl rfl 2 (by decide) (hts (.fieldLink RX1 19 "MoorTriangles" "heights" "[I") fl_X1_heightOf_19) (fun _ h9 => h9) rfl dX1_heightOf_14 ?_
      refine lv_iload_n hx hb dX1_heightOf_17 rfl (lv_at hl 1 rfl) ?_
      refine va_iald (D := (dC, dI)) hx hb hK hP 1 0 rfl rfl (in_of 16 (by decide) rfl c_1 c_2) dX1_heightOf_18 ?_
      refine lv_goto (tgt := 23) hx hb dX1_heightOf_19 (by decide) ?_
      exact rd_iret hx hb hr hlocks (by rw [x_hOf, if_neg c_1, if_neg c_2]) dX1_heightOf_23
theorem hd_X1_cairnFact : yX1_cairnFact.cls = RX1 ∧ yX1_cairnFact.cls ≠ "java/lang/invoke/MethodHandle" ∧ yX1_cairnFact.cls ≠ "java/lang/invoke/VarHandle" ∧ (parseMethodDescriptor yX1_cairnFact.desc).map (fun d => d.parameters.length) = some 2 := by decide +kernel
theorem in_X1_cairnFact_X1 : ∀ w ∈ wsX10, w ∈ wsX1_cairnFact := by decide +kernel
theorem fl_X1_cairnFact_10 : (Cond.fieldLink RX1 10 "MoorTriangles" "mesh" "LMoorTriangles$Mesh;") ∈ wsX1_cairnFact := by decide +kernel
set_option maxHeartbeats 4000000 in
set_option maxRecDepth 100000 in
theorem c_X1_cairnFact (l : Launch) (dC : Nat → ClassId) (dI : Nat → Nat → Nat) (cI cZ cY : ClassId) (o qo : Nat) (hs : Nat → Int32) (fl : Int32) (h qx qy ql qs qc n t : Nat) (xs ys lf sy co : Nat → Int32) (h2 qx2 qy2 ql2 qs2 qc2 n2 t2 : Nat) (xs2 ys2 lf2 sy2 co2 : Nat → Int32) (a : Int32) (w : Int32) (hn : n ≤ 17) : Met l yX1_cairnFact wsX1_cairnFact ({ frames := 3, cells := 0, slots := 0, locals := 67 }) (va_Pc [.ref o, .int a, .int w] (fun U => va_P (dC, dI) vwCl (wX cI o qo hs fl h qx qy ql qs qc n t xs ys lf sy co h2 qx2 qy2 ql2 qs2 qc2 n2 t2 xs2 ys2 lf2 sy2 co2) U.heap ∧ va_K (dC, dI) vwCl (gTY cI cZ cY) U)) (vp_Si (fun r => r = x_cFact n xs ys lf hs a w)) 0 0 (fun _ => False) := by
  refine rd_start (cc := cX1_cairnFact) (maxL := 3) (ret := (some .int)) RX1 (by decide) rfl rfl (Nat.le_of_ble_eq_true rfl) ?_
  intro p e s m below meth c ⟨hx, hb, hr, hml, hown, hts, hlocks⟩ hP hK ls hl
  have F : CallFix p m c cX1_cairnFact 3 s ([.ref o, .int a, .int w] : List Value).toArray wsX1_cairnFact RX1 := ⟨hx, hb, hml, hown, hts⟩
  have hl : lv_has ls 3 [(0, .ref o), (1, .int a), (2, .int w)] := hl
  refine lv_iload_n hx hb dX1_cairnFact_0 rfl (lv_at hl 2 rfl) ?_
  by_cases c_1 : w = 0
  · refine lv_tsw (k := 0) (off := 31) (tgt := 32) hx hb dX1_cairnFact_1 c_1 (by decide +kernel) (by decide +kernel) (by decide +kernel) (by decide) ?_
    refine lv_aload_n hx hb dX1_cairnFact_32 rfl (lv_at hl 0 rfl) ?_
    refine va_get (D := (dC, dI)) (ci := 1) (v := .ref h) (C := RX1) (T := TX1) (N := 4) hx hb hts in_X1_cairnFact_X1 hown hK hP 0 rfl rfl 0 (by decide) (hts (.fieldLink RX1 10 "MoorTriangles" "mesh" "LMoorTriangles$Mesh;") fl_X1_cairnFact_10) (fun _ h9 => h9) rfl dX1_cairnFact_33 ?_
    refine lv_iload_n hx hb dX1_cairnFact_36 rfl (lv_at hl 1 rfl) ?_
    refine rd_cVi (As := [.int a]) (rest := []) F (c_X0_xOf l dC dI cI cZ cY h qx qy ql qs qc n t xs ys lf sy co a) (cwV 1 hts gX1_cairnFact_X0_xOf rfl rfl rfl hd_X0_xOf ⟨Nat.le_of_ble_eq_true rfl, Nat.le_of_ble_eq_true rfl⟩) (hP.sub (ws' := wM cI h qx qy ql qs qc n t xs ys lf sy co) [2, 3, 4, 5, 6, 7] rfl) hK (va_recv hK hP (ci := 0) (q0 := 2) rfl rfl) rfl hl.1 rfl (lv_room (Nat.le_of_ble_eq_true rfl)) dX1_cairnFact_37 ⟨Nat.zero_le _, Nat.zero_le _⟩ ?_
    exact rd_iret hx hb hr hlocks (by rw [x_cFact, if_pos c_1]) dX1_cairnFact_40
  by_cases c_2 : w = 1
  · refine lv_tsw (k := 1) (off := 40) (tgt := 41) hx hb dX1_cairnFact_1 c_2 (by decide +kernel) (by decide +kernel) (by decide +kernel) (by decide) ?_
    refine lv_aload_n hx hb dX1_cairnFact_41 rfl (lv_at hl 0 rfl) ?_
    refine va_get (D := (dC, dI)) (ci := 1) (v := .ref h) (C := RX1) (T := TX1) (N := 4) hx hb hts in_X1_cairnFact_X1 hown hK hP 0 rfl rfl 0 (by decide) (hts (.fieldLink RX1 10 "MoorTriangles" "mesh" "LMoorTriangles$Mesh;") fl_X1_cairnFact_10) (fun _ h9 => h9) rfl dX1_cairnFact_42 ?_
    refine lv_iload_n hx hb dX1_cairnFact_45 rfl (lv_at hl 1 rfl) ?_
    refine rd_cVi (As := [.int a]) (rest := []) F (c_X0_yOf l dC dI cI cZ cY h qx qy ql qs qc n t xs ys lf sy co a) (cwV 1 hts gX1_cairnFact_X0_yOf rfl rfl rfl hd_X0_yOf ⟨Nat.le_of_ble_eq_true rfl, Nat.le_of_ble_eq_true rfl⟩) (hP.sub (ws' := wM cI h qx qy ql qs qc n t xs ys lf sy co) [2, 3, 4, 5, 6, 7] rfl) hK (va_recv hK hP (ci := 0) (q0 := 2) rfl rfl) rfl hl.1 rfl (lv_room (Nat.le_of_ble_eq_true rfl)) dX1_cairnFact_46 ⟨Nat.zero_le _, Nat.zero_le _⟩ ?_
    exact rd_iret hx hb hr hlocks (by rw [x_cFact, if_neg c_1, if_pos c_2]) dX1_cairnFact_49
  by_cases c_3 : w = 2
  · refine lv_tsw (k := 2) (off := 49) (tgt := 50) hx hb dX1_cairnFact_1 c_3 (by decide +kernel) (by decide +kernel) (by decide +kernel) (by decide) ?_
    refine lv_aload_n hx hb dX1_cairnFact_50 rfl (lv_at hl 0 rfl) ?_
    refine lv_iload_n hx hb dX1_cairnFact_51 rfl (lv_at hl 1 rfl) ?_
    refine rd_cVi (As := [.int a]) (rest := []) F (c_X1_heightOf l dC dI cI cZ cY o qo hs fl h qx qy ql qs qc n t xs ys lf sy co h2 qx2 qy2 ql2 qs2 qc2 n2 t2 xs2 ys2 lf2 sy2 co2 a) (cwV 1 hts gX1_cairnFact_X1_heightOf rfl rfl rfl hd_X1_heightOf ⟨Nat.le_of_ble_eq_true rfl, Nat.le_of_ble_eq_true rfl⟩) hP hK (va_recv hK hP (ci := 1) (q0 := 0) rfl rfl) rfl hl.1 rfl (lv_room (Nat.le_of_ble_eq_true rfl)) dX1_cairnFact_52 ⟨Nat.zero_le _, Nat.zero_le _⟩ ?_
    exact rd_iret hx hb hr hlocks (by rw [x_cFact, if_neg c_1, if_neg c_2, if_pos c_3]) dX1_cairnFact_55
  by_cases c_4 : w = 3
  · refine lv_tsw (k := 3) (off := 55) (tgt := 56) hx hb dX1_cairnFact_1 c_4 (by decide +kernel) (by decide +kernel) (by decide +kernel) (by decide) ?_
    refine lv_aload_n hx hb dX1_cairnFact_56 rfl (lv_at hl 0 rfl) ?_
    refine va_get (D := (dC, dI)) (ci := 1) (v := .ref h) (C := RX1) (T := TX1) (N := 4) hx hb hts in_X1_cairnFact_X1 hown hK hP 0 rfl rfl 0 (by decide) (hts (.fieldLink RX1 10 "MoorTriangles" "mesh" "LMoorTriangles$Mesh;") fl_X1_cairnFact_10) (fun _ h9 => h9) rfl dX1_cairnFact_57 ?_
    refine lv_iload_n hx hb dX1_cairnFact_60 rfl (lv_at hl 1 rfl) ?_
    refine rd_cVi (As := [.int a]) (rest := []) F (c_X0_edgesAt l dC dI cI cZ cY h qx qy ql qs qc n t xs ys lf sy co a hn) (cwV 1 hts gX1_cairnFact_X0_edgesAt rfl rfl rfl hd_X0_edgesAt ⟨Nat.le_of_ble_eq_true rfl, Nat.le_of_ble_eq_true rfl⟩) (hP.sub (ws' := wM cI h qx qy ql qs qc n t xs ys lf sy co) [2, 3, 4, 5, 6, 7] rfl) hK (va_recv hK hP (ci := 0) (q0 := 2) rfl rfl) rfl hl.1 rfl (lv_room (Nat.le_of_ble_eq_true rfl)) dX1_cairnFact_61 ⟨Nat.zero_le _, Nat.zero_le _⟩ ?_
    exact rd_iret hx hb hr hlocks (by rw [x_cFact, if_neg c_1, if_neg c_2, if_neg c_3, if_pos c_4]) dX1_cairnFact_64
  refine lv_tableOut (tgt := 65) hx hb dX1_cairnFact_1 (tsw_out4 c_1 c_2 c_3 c_4) (by decide) ?_
  refine lv_aload_n hx hb dX1_cairnFact_65 rfl (lv_at hl 0 rfl) ?_
  refine va_get (D := (dC, dI)) (ci := 1) (v := .ref h) (C := RX1) (T := TX1) (N := 4) hx hb hts in_X1_cairnFact_X1 hown hK hP 0 rfl rfl 0 (by decide) (hts (.fieldLink RX1 10 "MoorTriangles" "mesh" "LMoorTriangles$Mesh;") fl_X1_cairnFact_10) (fun _ h9 => h9) rfl dX1_cairnFact_66 ?_
  refine lv_iload_n hx hb dX1_cairnFact_69 rfl (lv_at hl 1 rfl) ?_
  refine rd_cVi (As := [.int a]) (rest := []) F (c_X0_trianglesAt l dC dI cI cZ cY h qx qy ql qs qc n t xs ys lf sy co a hn) (cwV 1 hts gX1_cairnFact_X0_trianglesAt rfl rfl rfl hd_X0_trianglesAt ⟨Nat.le_of_ble_eq_true rfl, Nat.le_of_ble_eq_true rfl⟩) (hP.sub (ws' := wM cI h qx qy ql qs qc n t xs ys lf sy co) [2, 3, 4, 5, 6, 7] rfl) hK (va_recv hK hP (ci := 0) (q0 := 2) rfl rfl) rfl hl.1 rfl (lv_room (Nat.le_of_ble_eq_true rfl)) dX1_cairnFact_70 ⟨Nat.zero_le _, Nat.zero_le _⟩ ?_
  exact rd_iret hx hb hr hlocks (by rw [x_cFact, if_neg c_1, if_neg c_2, if_neg c_3, if_neg c_4]) dX1_cairnFact_73
theorem hd_X1_triangleFact : yX1_triangleFact.cls = RX1 ∧ yX1_triangleFact.cls ≠ "java/lang/invoke/MethodHandle" ∧ yX1_triangleFact.cls ≠ "java/lang/invoke/VarHandle" ∧ (parseMethodDescriptor yX1_triangleFact.desc).map (fun d => d.parameters.length) = some 2 := by decide +kernel
theorem in_X1_triangleFact_X1 : ∀ w ∈ wsX10, w ∈ wsX1_triangleFact := by decide +kernel
theorem fl_X1_triangleFact_10 : (Cond.fieldLink RX1 10 "MoorTriangles" "mesh" "LMoorTriangles$Mesh;") ∈ wsX1_triangleFact := by decide +kernel
set_option maxHeartbeats 4000000 in
set_option maxRecDepth 100000 in
theorem c_X1_triangleFact (l : Launch) (dC : Nat → ClassId) (dI : Nat → Nat → Nat) (cI cZ cY : ClassId) (o qo : Nat) (hs : Nat → Int32) (fl : Int32) (h qx qy ql qs qc n t : Nat) (xs ys lf sy co : Nat → Int32) (h2 qx2 qy2 ql2 qs2 qc2 n2 t2 : Nat) (xs2 ys2 lf2 sy2 co2 : Nat → Int32) (k : Int32) (w : Int32) : Met l yX1_triangleFact wsX1_triangleFact ({ frames := 3, cells := 0, slots := 0, locals := 67 }) (va_Pc [.ref o, .int k, .int w] (fun U => va_P (dC, dI) vwCl (wX cI o qo hs fl h qx qy ql qs qc n t xs ys lf sy co h2 qx2 qy2 ql2 qs2 qc2 n2 t2 xs2 ys2 lf2 sy2 co2) U.heap ∧ va_K (dC, dI) vwCl (gTY cI cZ cY) U)) (vp_Si (fun r => r = x_tFact xs ys co k w)) 0 0 (fun _ => False) := by
  refine rd_start (cc := cX1_triangleFact) (maxL := 3) (ret := (some .int)) RX1 (by decide) rfl rfl (Nat.le_of_ble_eq_true rfl) ?_
  intro p e s m below meth c ⟨hx, hb, hr, hml, hown, hts, hlocks⟩ hP hK ls hl
  have F : CallFix p m c cX1_triangleFact 3 s ([.ref o, .int k, .int w] : List Value).toArray wsX1_triangleFact RX1 := ⟨hx, hb, hml, hown, hts⟩
  have hl : lv_has ls 3 [(0, .ref o), (1, .int k), (2, .int w)] := hl
  refine lv_iload_n hx hb dX1_triangleFact_0 rfl (lv_at hl 2 rfl) ?_
  refine lv_iconst (v := 3) hx hb dX1_triangleFact_1 (by decide) ?_
  refine lv_icmp_ne (tgt := 16) hx hb dX1_triangleFact_2 (by decide) (fun c_1 => ?_) (fun c_1 => ?_)
  · refine lv_aload_n hx hb dX1_triangleFact_16 rfl (lv_at hl 0 rfl) ?_
    refine va_get (D := (dC, dI)) (ci := 1) (v := .ref h) (C := RX1) (T := TX1) (N := 4) hx hb hts in_X1_triangleFact_X1 hown hK hP 0 rfl rfl 0 (by decide) (hts (.fieldLink RX1 10 "MoorTriangles" "mesh" "LMoorTriangles$Mesh;") fl_X1_triangleFact_10) (fun _ h9 => h9) rfl dX1_triangleFact_17 ?_
    refine lv_iload_n hx hb dX1_triangleFact_20 rfl (lv_at hl 1 rfl) ?_
    refine lv_iload_n hx hb dX1_triangleFact_21 rfl (lv_at hl 2 rfl) ?_
    refine rd_cVi (As := [.int k, .int w]) (rest := []) F (c_X0_corner l dC dI cI cZ cY h qx qy ql qs qc n t xs ys lf sy co k w) (cwV 2 hts gX1_triangleFact_X0_corner rfl rfl rfl hd_X0_corner ⟨Nat.le_of_ble_eq_true rfl, Nat.le_of_ble_eq_true rfl⟩) (hP.sub (ws' := wM cI h qx qy ql qs qc n t xs ys lf sy co) [2, 3, 4, 5, 6, 7] rfl) hK (va_recv hK hP (ci := 0) (q0 := 2) rfl rfl) rfl hl.1 rfl (lv_room (Nat.le_of_ble_eq_true rfl)) dX1_triangleFact_22 ⟨Nat.zero_le _, Nat.zero_le _⟩ ?_
    exact rd_iret hx hb hr hlocks (by rw [x_tFact, if_neg c_1]) dX1_triangleFact_25
  · refine lv_aload_n hx hb dX1_triangleFact_5 rfl (lv_at hl 0 rfl) ?_
    refine va_get (D := (dC, dI)) (ci := 1) (v := .ref h) (C := RX1) (T := TX1) (N := 4) hx hb hts in_X1_triangleFact_X1 hown hK hP 0 rfl rfl 0 (by decide) (hts (.fieldLink RX1 10 "MoorTriangles" "mesh" "LMoorTriangles$Mesh;") fl_X1_triangleFact_10) (fun _ h9 => h9) rfl dX1_triangleFact_6 ?_
    refine lv_iload_n hx hb dX1_triangleFact_9 rfl (lv_at hl 1 rfl) ?_
    refine rd_cVi (As := [.int k]) (rest := []) F (c_X0_areaOf l dC dI cI cZ cY h qx qy ql qs qc n t xs ys lf sy co k) (cwV 1 hts gX1_triangleFact_X0_areaOf rfl rfl rfl hd_X0_areaOf ⟨Nat.le_of_ble_eq_true rfl, Nat.le_of_ble_eq_true rfl⟩) (hP.sub (ws' := wM cI h qx qy ql qs qc n t xs ys lf sy co) [2, 3, 4, 5, 6, 7] rfl) hK (va_recv hK hP (ci := 0) (q0 := 2) rfl rfl) rfl hl.1 rfl (lv_room (Nat.le_of_ble_eq_true rfl)) dX1_triangleFact_10 ⟨Nat.zero_le _, Nat.zero_le _⟩ ?_
    refine lv_goto (tgt := 25) hx hb dX1_triangleFact_13 (by decide) ?_
    exact rd_iret hx hb hr hlocks (by rw [x_tFact, if_pos c_1]) dX1_triangleFact_25
theorem hd_X1_edgeFact : yX1_edgeFact.cls = RX1 ∧ yX1_edgeFact.cls ≠ "java/lang/invoke/MethodHandle" ∧ yX1_edgeFact.cls ≠ "java/lang/invoke/VarHandle" ∧ (parseMethodDescriptor yX1_edgeFact.desc).map (fun d => d.parameters.length) = some 3 := by decide +kernel
theorem in_X1_edgeFact_X1 : ∀ w ∈ wsX10, w ∈ wsX1_edgeFact := by decide +kernel
theorem fl_X1_edgeFact_10 : (Cond.fieldLink RX1 10 "MoorTriangles" "mesh" "LMoorTriangles$Mesh;") ∈ wsX1_edgeFact := by decide +kernel
set_option maxHeartbeats 4000000 in
set_option maxRecDepth 100000 in
theorem c_X1_edgeFact (l : Launch) (dC : Nat → ClassId) (dI : Nat → Nat → Nat) (cI cZ cY : ClassId) (o qo : Nat) (hs : Nat → Int32) (fl : Int32) (h qx qy ql qs qc n t : Nat) (xs ys lf sy co : Nat → Int32) (h2 qx2 qy2 ql2 qs2 qc2 n2 t2 : Nat) (xs2 ys2 lf2 sy2 co2 : Nat → Int32) (a : Int32) (b : Int32) (w : Int32) : Met l yX1_edgeFact wsX1_edgeFact ({ frames := 4, cells := 0, slots := 0, locals := 102 }) (va_Pc [.ref o, .int a, .int b, .int w] (fun U => va_P (dC, dI) vwCl (wX cI o qo hs fl h qx qy ql qs qc n t xs ys lf sy co h2 qx2 qy2 ql2 qs2 qc2 n2 t2 xs2 ys2 lf2 sy2 co2) U.heap ∧ va_K (dC, dI) vwCl (gTY cI cZ cY) U)) (vp_Si (fun r => r = x_eFact n xs ys lf sy a b w)) 0 0 (fun _ => False) := by
  refine rd_start (cc := cX1_edgeFact) (maxL := 4) (ret := (some .int)) RX1 (by decide) rfl rfl (Nat.le_of_ble_eq_true rfl) ?_
  intro p e s m below meth c ⟨hx, hb, hr, hml, hown, hts, hlocks⟩ hP hK ls hl
  have F : CallFix p m c cX1_edgeFact 4 s ([.ref o, .int a, .int b, .int w] : List Value).toArray wsX1_edgeFact RX1 := ⟨hx, hb, hml, hown, hts⟩
  have hl : lv_has ls 4 [(0, .ref o), (1, .int a), (2, .int b), (3, .int w)] := hl
  refine lv_aload_n hx hb dX1_edgeFact_0 rfl (lv_at hl 0 rfl) ?_
  refine va_get (D := (dC, dI)) (ci := 1) (v := .ref h) (C := RX1) (T := TX1) (N := 4) hx hb hts in_X1_edgeFact_X1 hown hK hP 0 rfl rfl 0 (by decide) (hts (.fieldLink RX1 10 "MoorTriangles" "mesh" "LMoorTriangles$Mesh;") fl_X1_edgeFact_10) (fun _ h9 => h9) rfl dX1_edgeFact_1 ?_
  refine lv_iload_n hx hb dX1_edgeFact_4 rfl (lv_at hl 3 rfl) ?_
  refine lv_iload_n hx hb dX1_edgeFact_5 rfl (lv_at hl 1 rfl) ?_
  refine lv_iload_n hx hb dX1_edgeFact_6 rfl (lv_at hl 2 rfl) ?_
  refine rd_cVi (As := [.int w, .int a, .int b]) (rest := []) F (c_X0_isEdgeThat l dC dI cI cZ cY h qx qy ql qs qc n t xs ys lf sy co w a b) (cwV 3 hts gX1_edgeFact_X0_isEdgeThat rfl rfl rfl hd_X0_isEdgeThat ⟨Nat.le_of_ble_eq_true rfl, Nat.le_of_ble_eq_true rfl⟩) (hP.sub (ws' := wM cI h qx qy ql qs qc n t xs ys lf sy co) [2, 3, 4, 5, 6, 7] rfl) hK (va_recv hK hP (ci := 0) (q0 := 2) rfl rfl) rfl hl.1 rfl (lv_room (Nat.le_of_ble_eq_true rfl)) dX1_edgeFact_7 ⟨Nat.zero_le _, Nat.zero_le _⟩ ?_
  refine lv_if_eqB (tgt := 17) hx hb dX1_edgeFact_10 (by decide) (fun c_1 => ?_) (fun c_1 => ?_)
  · refine lv_iconst (v := 0) hx hb dX1_edgeFact_17 (by decide) ?_
    exact rd_iret hx hb hr hlocks (by rw [x_eFact, c_1]; rfl) dX1_edgeFact_18
  · refine lv_iconst (v := 1) hx hb dX1_edgeFact_13 (by decide) ?_
    refine lv_goto (tgt := 18) hx hb dX1_edgeFact_14 (by decide) ?_
    exact rd_iret hx hb hr hlocks (by rw [x_eFact, c_1]; rfl) dX1_edgeFact_18
theorem hd_X1_countOf : yX1_countOf.cls = RX1 ∧ yX1_countOf.cls ≠ "java/lang/invoke/MethodHandle" ∧ yX1_countOf.cls ≠ "java/lang/invoke/VarHandle" ∧ (parseMethodDescriptor yX1_countOf.desc).map (fun d => d.parameters.length) = some 1 := by decide +kernel
theorem in_X1_countOf_X1 : ∀ w ∈ wsX10, w ∈ wsX1_countOf := by decide +kernel
theorem fl_X1_countOf_10 : (Cond.fieldLink RX1 10 "MoorTriangles" "mesh" "LMoorTriangles$Mesh;") ∈ wsX1_countOf := by decide +kernel
theorem in_X1_countOf_X0 : ∀ w ∈ wsX00, w ∈ wsX1_countOf := by decide +kernel
theorem fl_X1_countOf_35 : (Cond.fieldLink RX1 35 "MoorTriangles$Mesh" "cairns" "I") ∈ wsX1_countOf := by decide +kernel
theorem fl_X1_countOf_102 : (Cond.fieldLink RX1 102 "MoorTriangles$Mesh" "triangles" "I") ∈ wsX1_countOf := by decide +kernel
theorem fl_X1_countOf_23 : (Cond.fieldLink RX1 23 "MoorTriangles" "flips" "I") ∈ wsX1_countOf := by decide +kernel
set_option maxHeartbeats 4000000 in
set_option maxRecDepth 100000 in
theorem c_X1_countOf (l : Launch) (dC : Nat → ClassId) (dI : Nat → Nat → Nat) (cI cZ cY : ClassId) (o qo : Nat) (hs : Nat → Int32) (fl : Int32) (h qx qy ql qs qc n t : Nat) (xs ys lf sy co : Nat → Int32) (h2 qx2 qy2 ql2 qs2 qc2 n2 t2 : Nat) (xs2 ys2 lf2 sy2 co2 : Nat → Int32) (w : Int32) (hn : n ≤ 17) : Met l yX1_countOf wsX1_countOf ({ frames := 5, cells := 0, slots := 0, locals := 126 }) (va_Pc [.ref o, .int w] (fun U => va_P (dC, dI) vwCl (wX cI o qo hs fl h qx qy ql qs qc n t xs ys lf sy co h2 qx2 qy2 ql2 qs2 qc2 n2 t2 xs2 ys2 lf2 sy2 co2) U.heap ∧ va_K (dC, dI) vwCl (gTY cI cZ cY) U)) (vp_Si (fun r => r = x_cntOf n t xs ys lf sy fl w)) 0 0 (fun _ => False) := by
  refine rd_start (cc := cX1_countOf) (maxL := 2) (ret := (some .int)) RX1 (by decide) rfl rfl (Nat.le_of_ble_eq_true rfl) ?_
  intro p e s m below meth c ⟨hx, hb, hr, hml, hown, hts, hlocks⟩ hP hK ls hl
  have F : CallFix p m c cX1_countOf 2 s ([.ref o, .int w] : List Value).toArray wsX1_countOf RX1 := ⟨hx, hb, hml, hown, hts⟩
  have hl : lv_has ls 2 [(0, .ref o), (1, .int w)] := hl
  refine lv_iload_n hx hb dX1_countOf_0 rfl (lv_at hl 1 rfl) ?_
  by_cases c_1 : w = 0
  · refine lv_tsw (k := 0) (off := 39) (tgt := 40) hx hb dX1_countOf_1 c_1 (by decide +kernel) (by decide +kernel) (by decide +kernel) (by decide) ?_
    refine lv_aload_n hx hb dX1_countOf_40 rfl (lv_at hl 0 rfl) ?_
    refine va_get (D := (dC, dI)) (ci := 1) (v := .ref h) (C := RX1) (T := TX1) (N := 4) hx hb hts in_X1_countOf_X1 hown hK hP 0 rfl rfl 0 (by decide) (hts (.fieldLink RX1 10 "MoorTriangles" "mesh" "LMoorTriangles$Mesh;") fl_X1_countOf_10) (fun _ h9 => h9) rfl dX1_countOf_41 ?_
    refine va_get (D := (dC, dI)) (ci := 0) (v := .int (nI n)) (C := RX0) (T := TX0) (N := 7) hx hb hts in_X1_countOf_X0 hown hK hP 2 rfl rfl 0 (by decide) (hts (.fieldLink RX1 35 "MoorTriangles$Mesh" "cairns" "I") fl_X1_countOf_35) (fun _ h9 => h9) rfl dX1_countOf_44 ?_
    exact rd_iret hx hb hr hlocks (by rw [x_cntOf, if_pos c_1]) dX1_countOf_47
  by_cases c_2 : w = 1
  · refine lv_tsw (k := 1) (off := 47) (tgt := 48) hx hb dX1_countOf_1 c_2 (by decide +kernel) (by decide +kernel) (by decide +kernel) (by decide) ?_
    refine lv_aload_n hx hb dX1_countOf_48 rfl (lv_at hl 0 rfl) ?_
    refine va_get (D := (dC, dI)) (ci := 1) (v := .ref h) (C := RX1) (T := TX1) (N := 4) hx hb hts in_X1_countOf_X1 hown hK hP 0 rfl rfl 0 (by decide) (hts (.fieldLink RX1 10 "MoorTriangles" "mesh" "LMoorTriangles$Mesh;") fl_X1_countOf_10) (fun _ h9 => h9) rfl dX1_countOf_49 ?_
    refine va_get (D := (dC, dI)) (ci := 0) (v := .int (nI t)) (C := RX0) (T := TX0) (N := 7) hx hb hts in_X1_countOf_X0 hown hK hP 2 rfl rfl 1 (by decide) (hts (.fieldLink RX1 102 "MoorTriangles$Mesh" "triangles" "I") fl_X1_countOf_102) (fun _ h9 => h9) rfl dX1_countOf_52 ?_
    exact rd_iret hx hb hr hlocks (by rw [x_cntOf, if_neg c_1, if_pos c_2]) dX1_countOf_55
  by_cases c_3 : w = 2
  · refine lv_tsw (k := 2) (off := 55) (tgt := 56) hx hb dX1_countOf_1 c_3 (by decide +kernel) (by decide +kernel) (by decide +kernel) (by decide) ?_
    refine lv_aload_n hx hb dX1_countOf_56 rfl (lv_at hl 0 rfl) ?_
    refine va_get (D := (dC, dI)) (ci := 1) (v := .ref h) (C := RX1) (T := TX1) (N := 4) hx hb hts in_X1_countOf_X1 hown hK hP 0 rfl rfl 0 (by decide) (hts (.fieldLink RX1 10 "MoorTriangles" "mesh" "LMoorTriangles$Mesh;") fl_X1_countOf_10) (fun _ h9 => h9) rfl dX1_countOf_57 ?_
    refine lv_iconst (v := 0) hx hb dX1_countOf_60 (by decide) ?_
    refine rd_cVi (As := [.int 0]) (rest := []) F (c_X0_edgesThat l dC dI cI cZ cY h qx qy ql qs qc n t xs ys lf sy co 0 hn) (cwV 1 hts gX1_countOf_X0_edgesThat rfl rfl rfl hd_X0_edgesThat ⟨Nat.le_of_ble_eq_true rfl, Nat.le_of_ble_eq_true rfl⟩) (hP.sub (ws' := wM cI h qx qy ql qs qc n t xs ys lf sy co) [2, 3, 4, 5, 6, 7] rfl) hK (va_recv hK hP (ci := 0) (q0 := 2) rfl rfl) rfl hl.1 rfl (lv_room (Nat.le_of_ble_eq_true rfl)) dX1_countOf_61 ⟨Nat.zero_le _, Nat.zero_le _⟩ ?_
    exact rd_iret hx hb hr hlocks (by rw [x_cntOf, if_neg c_1, if_neg c_2, if_pos c_3]) dX1_countOf_64
  by_cases c_4 : w = 3
  · refine lv_tsw (k := 3) (off := 64) (tgt := 65) hx hb dX1_countOf_1 c_4 (by decide +kernel) (by decide +kernel) (by decide +kernel) (by decide) ?_
    refine lv_aload_n hx hb dX1_countOf_65 rfl (lv_at hl 0 rfl) ?_
    refine va_get (D := (dC, dI)) (ci := 1) (v := .ref h) (C := RX1) (T := TX1) (N := 4) hx hb hts in_X1_countOf_X1 hown hK hP 0 rfl rfl 0 (by decide) (hts (.fieldLink RX1 10 "MoorTriangles" "mesh" "LMoorTriangles$Mesh;") fl_X1_countOf_10) (fun _ h9 => h9) rfl dX1_countOf_66 ?_
    refine lv_iconst (v := 1) hx hb dX1_countOf_69 (by decide) ?_
    refine rd_cVi (As := [.int 1]) (rest := []) F (c_X0_edgesThat l dC dI cI cZ cY h qx qy ql qs qc n t xs ys lf sy co 1 hn) (cwV 1 hts gX1_countOf_X0_edgesThat rfl rfl rfl hd_X0_edgesThat ⟨Nat.le_of_ble_eq_true rfl, Nat.le_of_ble_eq_true rfl⟩) (hP.sub (ws' := wM cI h qx qy ql qs qc n t xs ys lf sy co) [2, 3, 4, 5, 6, 7] rfl) hK (va_recv hK hP (ci := 0) (q0 := 2) rfl rfl) rfl hl.1 rfl (lv_room (Nat.le_of_ble_eq_true rfl)) dX1_countOf_70 ⟨Nat.zero_le _, Nat.zero_le _⟩ ?_
    exact rd_iret hx hb hr hlocks (by rw [x_cntOf, if_neg c_1, if_neg c_2, if_neg c_3, if_pos c_4]) dX1_countOf_73
  by_cases c_5 : w = 4
  · refine lv_tsw (k := 4) (off := 73) (tgt := 74) hx hb dX1_countOf_1 c_5 (by decide +kernel) (by decide +kernel) (by decide +kernel) (by decide) ?_
    refine lv_aload_n hx hb dX1_countOf_74 rfl (lv_at hl 0 rfl) ?_
    refine va_get (D := (dC, dI)) (ci := 1) (v := .ref h) (C := RX1) (T := TX1) (N := 4) hx hb hts in_X1_countOf_X1 hown hK hP 0 rfl rfl 0 (by decide) (hts (.fieldLink RX1 10 "MoorTriangles" "mesh" "LMoorTriangles$Mesh;") fl_X1_countOf_10) (fun _ h9 => h9) rfl dX1_countOf_75 ?_
    refine lv_iconst (v := 2) hx hb dX1_countOf_78 (by decide) ?_
    refine rd_cVi (As := [.int 2]) (rest := []) F (c_X0_edgesThat l dC dI cI cZ cY h qx qy ql qs qc n t xs ys lf sy co 2 hn) (cwV 1 hts gX1_countOf_X0_edgesThat rfl rfl rfl hd_X0_edgesThat ⟨Nat.le_of_ble_eq_true rfl, Nat.le_of_ble_eq_true rfl⟩) (hP.sub (ws' := wM cI h qx qy ql qs qc n t xs ys lf sy co) [2, 3, 4, 5, 6, 7] rfl) hK (va_recv hK hP (ci := 0) (q0 := 2) rfl rfl) rfl hl.1 rfl (lv_room (Nat.le_of_ble_eq_true rfl)) dX1_countOf_79 ⟨Nat.zero_le _, Nat.zero_le _⟩ ?_
    exact rd_iret hx hb hr hlocks (by rw [x_cntOf, if_neg c_1, if_neg c_2, if_neg c_3, if_neg c_4, if_pos c_5]) dX1_countOf_82
  by_cases c_6 : w = 5
  · refine lv_tsw (k := 5) (off := 82) (tgt := 83) hx hb dX1_countOf_1 c_6 (by decide +kernel) (by decide +kernel) (by decide +kernel) (by decide) ?_
    refine lv_aload_n hx hb dX1_countOf_83 rfl (lv_at hl 0 rfl) ?_
    refine va_get (D := (dC, dI)) (ci := 1) (v := .ref h) (C := RX1) (T := TX1) (N := 4) hx hb hts in_X1_countOf_X1 hown hK hP 0 rfl rfl 0 (by decide) (hts (.fieldLink RX1 10 "MoorTriangles" "mesh" "LMoorTriangles$Mesh;") fl_X1_countOf_10) (fun _ h9 => h9) rfl dX1_countOf_84 ?_
    refine lv_iconst (v := 3) hx hb dX1_countOf_87 (by decide) ?_
    refine rd_cVi (As := [.int 3]) (rest := []) F (c_X0_edgesThat l dC dI cI cZ cY h qx qy ql qs qc n t xs ys lf sy co 3 hn) (cwV 1 hts gX1_countOf_X0_edgesThat rfl rfl rfl hd_X0_edgesThat ⟨Nat.le_of_ble_eq_true rfl, Nat.le_of_ble_eq_true rfl⟩) (hP.sub (ws' := wM cI h qx qy ql qs qc n t xs ys lf sy co) [2, 3, 4, 5, 6, 7] rfl) hK (va_recv hK hP (ci := 0) (q0 := 2) rfl rfl) rfl hl.1 rfl (lv_room (Nat.le_of_ble_eq_true rfl)) dX1_countOf_88 ⟨Nat.zero_le _, Nat.zero_le _⟩ ?_
    exact rd_iret hx hb hr hlocks (by rw [x_cntOf, if_neg c_1, if_neg c_2, if_neg c_3, if_neg c_4, if_neg c_5, if_pos c_6]) dX1_countOf_91
  refine lv_tableOut (tgt := 92) hx hb dX1_countOf_1 (tsw_out6 c_1 c_2 c_3 c_4 c_5 c_6) (by decide) ?_
  refine lv_aload_n hx hb dX1_countOf_92 rfl (lv_at hl 0 rfl) ?_
  refine va_get (D := (dC, dI)) (ci := 1) (v := .int fl) (C := RX1) (T := TX1) (N := 4) hx hb hts in_X1_countOf_X1 hown hK hP 0 rfl rfl 3 (by decide) (hts (.fieldLink RX1 23 "MoorTriangles" "flips" "I") fl_X1_countOf_23) (fun _ h9 => h9) rfl dX1_countOf_93 ?_
  exact rd_iret hx hb hr hlocks (by rw [x_cntOf, if_neg c_1, if_neg c_2, if_neg c_3, if_neg c_4, if_neg c_5, if_neg c_6]) dX1_countOf_96
theorem hd_X1_mean : yX1_mean.cls = RX1 ∧ yX1_mean.cls ≠ "java/lang/invoke/MethodHandle" ∧ yX1_mean.cls ≠ "java/lang/invoke/VarHandle" ∧ (parseMethodDescriptor yX1_mean.desc).map (fun d => d.parameters.length) = some 0 := by decide +kernel
theorem in_X1_mean_X1 : ∀ w ∈ wsX10, w ∈ wsX1_mean := by decide +kernel
theorem fl_X1_mean_10 : (Cond.fieldLink RX1 10 "MoorTriangles" "mesh" "LMoorTriangles$Mesh;") ∈ wsX1_mean := by decide +kernel
theorem in_X1_mean_X0 : ∀ w ∈ wsX00, w ∈ wsX1_mean := by decide +kernel
theorem fl_X1_mean_35 : (Cond.fieldLink RX1 35 "MoorTriangles$Mesh" "cairns" "I") ∈ wsX1_mean := by decide +kernel
set_option maxHeartbeats 4000000 in
set_option maxRecDepth 100000 in
theorem c_X1_mean (l : Launch) (dC : Nat → ClassId) (dI : Nat → Nat → Nat) (cI cZ cY : ClassId) (o qo : Nat) (hs : Nat → Int32) (fl : Int32) (h qx qy ql qs qc n t : Nat) (xs ys lf sy co : Nat → Int32) (h2 qx2 qy2 ql2 qs2 qc2 n2 t2 : Nat) (xs2 ys2 lf2 sy2 co2 : Nat → Int32) (hn : n ≤ 17) (hn1 : 1 ≤ n) : Met l yX1_mean wsX1_mean ({ frames := 5, cells := 0, slots := 0, locals := 126 }) (va_Pc [.ref o] (fun U => va_P (dC, dI) vwCl (wX cI o qo hs fl h qx qy ql qs qc n t xs ys lf sy co h2 qx2 qy2 ql2 qs2 qc2 n2 t2 xs2 ys2 lf2 sy2 co2) U.heap ∧ va_K (dC, dI) vwCl (gTY cI cZ cY) U)) (vp_Sd (fun r => r = x_mean n xs ys lf sy)) 0 0 (fun _ => False) := by
  refine rd_start (cc := cX1_mean) (maxL := 2) (ret := (some .double)) RX1 (by decide) rfl rfl (Nat.le_of_ble_eq_true rfl) ?_
  intro p e s m below meth c ⟨hx, hb, hr, hml, hown, hts, hlocks⟩ hP hK ls hl
  have F : CallFix p m c cX1_mean 2 s ([.ref o] : List Value).toArray wsX1_mean RX1 := ⟨hx, hb, hml, hown, hts⟩
  have hl : lv_has ls 2 [(0, .ref o)] := hl
  refine lv_iconst (v := 2) hx hb dX1_mean_0 (by decide) ?_
  refine lv_aload_n hx hb dX1_mean_1 rfl (lv_at hl 0 rfl) ?_
  refine va_get (D := (dC, dI)) (ci := 1) (v := .ref h) (C := RX1) (T := TX1) (N := 4) hx hb hts in_X1_mean_X1 hown hK hP 0 rfl rfl 0 (by decide) (hts (.fieldLink RX1 10 "MoorTriangles" "mesh" "LMoorTriangles$Mesh;") fl_X1_mean_10) (fun _ h9 => h9) rfl dX1_mean_2 ?_
  refine lv_iconst (v := 0) hx hb dX1_mean_5 (by decide) ?_
  refine rd_cVi (As := [.int 0]) (rest := [.int 2]) F (c_X0_edgesThat l dC dI cI cZ cY h qx qy ql qs qc n t xs ys lf sy co 0 hn) (cwV 1 hts gX1_mean_X0_edgesThat rfl rfl rfl hd_X0_edgesThat ⟨Nat.le_of_ble_eq_true rfl, Nat.le_of_ble_eq_true rfl⟩) (hP.sub (ws' := wM cI h qx qy ql qs qc n t xs ys lf sy co) [2, 3, 4, 5, 6, 7] rfl) hK (va_recv hK hP (ci := 0) (q0 := 2) rfl rfl) rfl hl.1 rfl (lv_room (Nat.le_of_ble_eq_true rfl)) dX1_mean_6 ⟨Nat.zero_le _, Nat.zero_le _⟩ ?_
  refine lv_imul hx hb dX1_mean_9 ?_
  refine lv_istore_n (lv' := [(1, .int (2 * (m_edgesThat n xs ys lf sy 0))), (0, .ref o)]) hx hb dX1_mean_10 rfl hl (by decide) rfl (fun ls hl => ?_)
  refine lv_aload_n hx hb dX1_mean_11 rfl (lv_at hl 1 rfl) ?_
  refine va_get (D := (dC, dI)) (ci := 1) (v := .ref h) (C := RX1) (T := TX1) (N := 4) hx hb hts in_X1_mean_X1 hown hK hP 0 rfl rfl 0 (by decide) (hts (.fieldLink RX1 10 "MoorTriangles" "mesh" "LMoorTriangles$Mesh;") fl_X1_mean_10) (fun _ h9 => h9) rfl dX1_mean_12 ?_
  refine va_get (D := (dC, dI)) (ci := 0) (v := .int (nI n)) (C := RX0) (T := TX0) (N := 7) hx hb hts in_X1_mean_X0 hown hK hP 2 rfl rfl 0 (by decide) (hts (.fieldLink RX1 35 "MoorTriangles$Mesh" "cairns" "I") fl_X1_mean_35) (fun _ h9 => h9) rfl dX1_mean_15 ?_
  refine lv_if_le (tgt := 35) hx hb dX1_mean_18 (by decide) (fun c_1 => ?_) (fun c_1 => ?_)
  · refine lv_dconst0 hx hb dX1_mean_35 ?_
    exact rd_dret hx hb hr hlocks (absurd c_1 (nI_nle (by omega) (by omega))) dX1_mean_36
  · refine lv_iload_n hx hb dX1_mean_21 rfl (lv_at hl 0 rfl) ?_
    refine lv_i2d hx hb dX1_mean_22 ?_
    refine lv_aload_n hx hb dX1_mean_23 rfl (lv_at hl 1 rfl) ?_
    refine va_get (D := (dC, dI)) (ci := 1) (v := .ref h) (C := RX1) (T := TX1) (N := 4) hx hb hts in_X1_mean_X1 hown hK hP 0 rfl rfl 0 (by decide) (hts (.fieldLink RX1 10 "MoorTriangles" "mesh" "LMoorTriangles$Mesh;") fl_X1_mean_10) (fun _ h9 => h9) rfl dX1_mean_24 ?_
    refine va_get (D := (dC, dI)) (ci := 0) (v := .int (nI n)) (C := RX0) (T := TX0) (N := 7) hx hb hts in_X1_mean_X0 hown hK hP 2 rfl rfl 0 (by decide) (hts (.fieldLink RX1 35 "MoorTriangles$Mesh" "cairns" "I") fl_X1_mean_35) (fun _ h9 => h9) rfl dX1_mean_27 ?_
    refine lv_i2d hx hb dX1_mean_30 ?_
    refine lv_ddiv hx hb dX1_mean_31 (dv_n64 (rg_sum17 hn (fun k => rg_ct_le _ _)) hn1 hn) ?_
    refine lv_goto (tgt := 36) hx hb dX1_mean_32 (by decide) ?_
    exact rd_dret hx hb hr hlocks rfl dX1_mean_36