/-! the moor: methods that only read, by program (gen_x.py) -/
theorem hd_X1_heightOf : yX1_heightOf.cls = RX1 ∧ yX1_heightOf.cls ≠ "java/lang/invoke/MethodHandle" ∧ yX1_heightOf.cls ≠ "java/lang/invoke/VarHandle" ∧ (parseMethodDescriptor yX1_heightOf.desc).map (fun d => d.parameters.length) = some 1 := by decide +kernel
theorem in_X1_heightOf_X1 : ∀ w ∈ wsX10, w ∈ wsX1_heightOf := by decide +kernel
theorem fl_X1_heightOf_19 : (Cond.fieldLink RX1 19 "MoorTriangles" "heights" "[I") ∈ wsX1_heightOf := by decide +kernel
set_option maxHeartbeats 4000000 in
set_option maxRecDepth 100000 in
theorem c_X1_heightOf (l : Launch) (dC : Nat → ClassId) (dI : Nat → Nat → Nat) (cI cZ cY : ClassId) (o qo : Nat) (hs : Nat → Int32) (fl : Int32) (h qx qy ql qs qc n t : Nat) (xs ys lf sy co : Nat → Int32) (h2 qx2 qy2 ql2 qs2 qc2 n2 t2 : Nat) (xs2 ys2 lf2 sy2 co2 : Nat → Int32) (a : Int32) : Met l yX1_heightOf wsX1_heightOf ({ frames := 0, cells := 0, slots := 0, locals := 0 }) (va_Pc [.ref o, .int a] (fun U => va_P (dC, dI) vwCl (wX cI o qo hs fl h qx qy ql qs qc n t xs ys lf sy co h2 qx2 qy2 ql2 qs2 qc2 n2 t2 xs2 ys2 lf2 sy2 co2) U.heap ∧ va_K (dC, dI) vwCl (gTY cI cZ cY) U)) (vp_Si (fun r => r = x_hOf hs a)) 0 0 (fun _ => False) := by
  refine rd_start (cc := cX1_heightOf) (maxL := 2) (ret := (some .int)) RX1 (by decide) rfl rfl (Nat.le_of_ble_eq_true rfl) ?_
  intro p e s m below meth c ⟨hx, hb, hr, hml, hown, hts, hlocks⟩ hP hK ls hl
  have F : CallFix p m c cX1_heightOf 2 s ([.ref o, .int a] : List Value).toArray wsX1_heightOf RX1 := ⟨hx, hb, hml, hown, hts⟩
  have hl : lv_has ls 2 [(0, .ref o), (1, .int a)] := hl
  refine lv_iload_n hx hb dX1_heightOf_0 rfl (lv_at hl 1 rfl) ?_
  refine lv_if_lt (tgt := 22) hx hb dX1_heightOf_1 (by decide) (fun c_1 => ?_) (fun c_1 => ?_)
  · refine lv_iconst (v := 0) hx hb dX1_heightOf_22 (by decide) ?_
    exact rd_iret hx hb hr hlocks (by rw [x_hOf, if_pos c_1]) dX1_heightOf_23
  · refine lv_iload_n hx hb dX1_heightOf_4 rfl (lv_at hl 1 rfl) ?_
    refine lv_aload_n hx hb dX1_heightOf_5 rfl (lv_at hl 0 rfl) ?_
    refine va_get (D := (dC, dI)) (ci := 1) (v := .ref qo) (C := RX1) (T := TX1) (N := 4) hx hb hts in_X1_heightOf_X1 hown hK hP 0 rfl rfl 2 (by decide) (hts (.fieldLink RX1 19 "MoorTriangles" "heights" "[I") fl_X1_heightOf_19) (fun _ h9 => h9) rfl dX1_heightOf_6 ?_
    refine va_alen (D := (dC, dI)) hx hb hK hP 1 0 rfl rfl (v := 16) (by rfl) dX1_heightOf_9 ?_
    refine lv_icmp_ge (tgt := 22) hx hb dX1_heightOf_10 (by decide) (fun c_2 => ?_) (fun c_2 => ?_)
    · refine lv_iconst (v := 0) hx hb dX1_heightOf_22 (by decide) ?_
      exact rd_iret hx hb hr hlocks (by rw [x_hOf, if_neg c_1, if_pos c_2]) dX1_heightOf_23
    · refine lv_aload_n hx hb dX1_heightOf_13 rfl (lv_at hl 0 rfl) ?_
      refine va_get (D := (dC, dI)) (ci := 1) (v := .ref qo) (C := RX1) (T := TX1) (N := 4) hx hb hts in_X1_heightOf_X1 hown hK hP 0 rfl rfl 2 (by decide) (hts (.fieldLink RX1 19 "MoorTriangles" "heights" "[I") fl_X1_heightOf_19) (fun _ h9 => h9) rfl dX1_heightOf_14 ?_
      refine lv_iload_n hx hb dX1_heightOf_17 rfl (lv_at hl 1 rfl) ?_
      refine va_iald (D := (dC, dI)) hx hb hK hP 1 0 rfl rfl (in_of 16 (by decide) rfl c_1 c_2) dX1_heightOf_18 ?_
      refine lv_goto (tgt := 23) hx hb dX1_heightOf_19 (by decide) ?_
      exact rd_iret hx hb hr hlocks (by rw [x_hOf, if_neg c_1, if_neg c_2]) dX1_heightOf_23
theorem hd_X1_cairnFact : yX1_cairnFact.cls = RX1 ∧ yX1_cairnFact.cls ≠ "java/lang/invoke/MethodHandle" ∧ yX1_cairnFact.cls ≠ "java/lang/invoke/VarHandle" ∧ (parseMethodDescriptor yX1_cairnFact.desc).map (fun d => d.parameters.length) = some 2 := by decide +kernel
theorem in_X1_cairnFact_X1 : ∀ w ∈ wsX10, w ∈ wsX1_cairnFact := by decide +kernel
theorem fl_X1_cairnFact_10 : (Cond.fieldLink RX1 10 "MoorTriangles" "mesh" "LMoorTriangles$Mesh;") ∈ wsX1_cairnFact := by decide +kernel
set_option maxHeartbeats 4000000 in
set_option maxRecDepth 100000 in
theorem c_X1_cairnFact (l : Launch) (dC : Nat → ClassId) (dI : Nat → Nat → Nat) (cI cZ cY : ClassId) (o qo : Nat) (hs : Nat → Int32) (fl : Int32) (h qx qy ql qs qc n t : Nat) (xs ys lf sy co : Nat → Int32) (h2 qx2 qy2 ql2 qs2 qc2 n2 t2 : Nat) (xs2 ys2 lf2 sy2 co2 : Nat → Int32) (a : Int32) (w : Int32) (hn : n ≤ 17) : Met l yX1_cairnFact wsX1_cairnFact ({ frames := 3, cells := 0, slots := 0, locals := 67 }) (va_Pc [.ref o, .int a, .int w] (fun U => va_P (dC, dI) vwCl (wX cI o qo hs fl h qx qy ql qs qc n t xs ys lf sy co h2 qx2 qy2 ql2 qs2 qc2 n2 t2 xs2 ys2 lf2 sy2 co2) U.heap ∧ va_K (dC, dI) vwCl (gTY cI cZ cY) U)) (vp_Si (fun r => r = x_cFact n xs ys lf hs a w)) 0 0 (fun _ => False) := by
  refine rd_start (cc := cX1_cairnFact) (maxL := 3) (ret := (some .int)) RX1 (by decide) rfl rfl (Nat.le_of_ble_eq_true rfl) ?_
  intro p e s m below meth c ⟨hx, hb, hr, hml, hown, hts, hlocks⟩ hP hK ls hl
  have F : CallFix p m c cX1_cairnFact 3 s ([.ref o, .int a, .int w] : List Value).toArray wsX1_cairnFact RX1 := ⟨hx, hb, hml, hown, hts⟩
  have hl : lv_has ls 3 [(0, .ref o), (1, .int a), (2, .int w)] := hl
  refine lv_iload_n hx hb dX1_cairnFact_0 rfl (lv_at hl 2 rfl) ?_
  by_cases c_1 : w = 0
  · refine lv_tsw (k := 0) (off := 31) (tgt := 32) hx hb dX1_cairnFact_1 c_1 (by decide +kernel) (by decide +kernel) (by decide +kernel) (by decide) ?_
    refine lv_aload_n hx hb dX1_cairnFact_32 rfl (lv_at hl 0 rfl) ?_
    refine va_get (D := (dC, dI)) (ci := 1) (v := .ref h) (C := RX1) (T := TX1) (N := 4) hx hb hts in_X1_cairnFact_X1 hown hK hP 0 rfl rfl 0 (by decide) (hts (.fieldLink RX1 10 "MoorTriangles" "mesh" "LMoorTriangles$Mesh;") fl_X1_cairnFact_10) (fun _ h9 => h9) rfl dX1_cairnFact_33 ?_
    refine lv_iload_n hx hb dX1_cairnFact_36 rfl (lv_at hl 1 rfl) ?_
    refine rd_cVi (As := [.int a]) (rest := []) F (c_X0_xOf l dC dI cI cZ cY h qx qy ql qs qc n t xs ys lf sy co a) (cwV 1 hts gX1_cairnFact_X0_xOf rfl rfl rfl hd_X0_xOf ⟨Nat.le_of_ble_eq_true rfl, Nat.le_of_ble_eq_true rfl⟩) (hP.sub (ws' := wM cI h qx qy ql qs qc n t xs ys lf sy co) [2, 3, 4, 5, 6, 7] rfl) hK (va_recv hK hP (ci := 0) (q0 := 2) rfl rfl) rfl hl.1 rfl (lv_room (Nat.le_of_ble_eq_true rfl)) dX1_cairnFact_37 ⟨Nat.zero_le _, Nat.zero_le _⟩ ?_
    exact rd_iret hx hb hr hlocks (by rw [x_cFact, if_pos c_1]) dX1_cairnFact_40
  by_cases c_2 : w = 1
  · refine lv_tsw (k := 1) (off := 40) (tgt := 41) hx hb dX1_cairnFact_1 c_2 (by decide +kernel) (by decide +kernel) (by decide +kernel) (by decide) ?_
    refine lv_aload_n hx hb dX1_cairnFact_41 rfl (lv_at hl 0 rfl) ?_
    refine va_get (D := (dC, dI)) (ci := 1) (v := .ref h) (C := RX1) (T := TX1) (N := 4) hx hb hts in_X1_cairnFact_X1 hown hK hP 0 rfl rfl 0 (by decide) (hts (.fieldLink RX1 10 "MoorTriangles" "mesh" "LMoorTriangles$Mesh;") fl_X1_cairnFact_10) (fun _ h9 => h9) rfl dX1_cairnFact_42 ?_
    refine lv_iload_n hx hb dX1_cairnFact_45 rfl (lv_at hl 1 rfl) ?_
    refine rd_cVi (As := [.int a]) (rest := []) F (c_X0_yOf l dC dI cI cZ cY h qx qy ql qs qc n t xs ys lf sy co a) (cwV 1 hts gX1_cairnFact_X0_yOf rfl rfl rfl hd_X0_yOf ⟨Nat.le_of_ble_eq_true rfl, Nat.le_of_ble_eq_true rfl⟩) (hP.sub (ws' := wM cI h qx qy ql qs qc n t xs ys lf sy co) [2, 3, 4, 5, 6, 7] rfl) hK (va_recv hK hP (ci := 0) (q0 := 2) rfl rfl) rfl hl.1 rfl (lv_room (Nat.le_of_ble_eq_true rfl)) dX1_cairnFact_46 ⟨Nat.zero_le _, Nat.zero_le _⟩ ?_
    exact rd_iret hx hb hr hlocks (by rw [x_cFact, if_neg c_1, if_pos c_2]) dX1_cairnFact_49
  by_cases c_3 : w = 2
  · refine lv_tsw (k := 2) (off := 49) (tgt := 50) hx hb dX1_cairnFact_1 c_3 (by decide +kernel) (by decide +kernel) (by decide +kernel) (by decide) ?_
    refine lv_aload_n hx hb dX1_cairnFact_50 rfl (lv_at hl 0 rfl) ?_
    refine lv_iload_n hx hb dX1_cairnFact_51 rfl (lv_at hl 1 rfl) ?_
    refine rd_cVi (As := [.int a]) (rest := []) F (c_X1_heightOf l dC dI cI cZ cY o qo hs fl h qx qy ql qs qc n t xs ys lf sy co h2 qx2 qy2 ql2 qs2 qc2 n2 t2 xs2 ys2 lf2 sy2 co2 a) (cwV 1 hts gX1_cairnFact_X1_heightOf rfl rfl rfl hd_X1_heightOf ⟨Nat.le_of_ble_eq_true rfl, Nat.le_of_ble_eq_true rfl⟩) hP hK (va_recv hK hP (ci := 1) (q0 := 0) rfl rfl) rfl hl.1 rfl (lv_room (Nat.le_of_ble_eq_true rfl)) dX1_cairnFact_52 ⟨Nat.zero_le _, Nat.zero_le _⟩ ?_
    exact rd_iret hx hb hr hlocks (by rw [x_cFact, if_neg c_1, if_neg c_2, if_pos c_3]) dX1_cairnFact_55
  by_cases c_4 : w = 3
  · refine lv_tsw (k := 3) (off := 55) (tgt := 56) hx hb dX1_cairnFact_1 c_4 (by decide +kernel) (by decide +kernel) (by decide +kernel) (by decide) ?_
    refine lv_aload_n hx hb dX1_cairnFact_56 rfl (lv_at hl 0 rfl) ?_
    refine va_get (D := (dC, dI)) (ci := 1) (v := .ref h) (C := RX1) (T := TX1) (N := 4) hx hb hts in_X1_cairnFact_X1 hown hK hP 0 rfl rfl 0 (by decide) (hts (.fieldLink RX1 10 "MoorTriangles" "mesh" "LMoorTriangles$Mesh;") fl_X1_cairnFact_10) (fun _ h9 => h9) rfl dX1_cairnFact_57 ?_
    refine lv_iload_n hx hb dX1_cairnFact_60 rfl (lv_at hl 1 rfl) ?_
    refine rd_cVi (As := [.int a]) (rest := []) F (c_X0_edgesAt l dC dI cI cZ cY h qx qy ql qs qc n t xs ys lf sy co a hn) (cwV 1 hts gX1_cairnFact_X0_edgesAt rfl rfl rfl hd_X0_edgesAt ⟨Nat.le_of_ble_eq_true rfl, Nat.le_of_ble_eq_true rfl⟩) (hP.sub (ws' := wM cI h qx qy ql qs qc n t xs ys lf sy co) [2, 3, 4, 5, 6, 7] rfl) hK (va_recv hK hP (ci := 0) (q0 := 2) rfl rfl) rfl hl.1 rfl (lv_room (Nat.le_of_ble_eq_true rfl)) dX1_cairnFact_61 ⟨Nat.zero_le _, Nat.zero_le _⟩ ?_
    exact rd_iret hx hb hr hlocks (by rw [x_cFact, if_neg c_1, if_neg c_2, if_neg c_3, if_pos c_4]) dX1_cairnFact_64
  refine lv_tableOut (tgt := 65) hx hb dX1_cairnFact_1 (tsw_out4 c_1 c_2 c_3 c_4) (by decide) ?_
  refine lv_aload_n hx hb dX1_cairnFact_65 rfl (lv_at hl 0 rfl) ?_
  refine va_get (D := (dC, dI)) (ci := 1) (v := .ref h) (C := RX1) (T := TX1) (N := 4) hx hb hts in_X1_cairnFact_X1 hown hK hP 0 rfl rfl 0 (by decide) (hts (.fieldLink RX1 10 "MoorTriangles" "mesh" "LMoorTriangles$Mesh;") fl_X1_cairnFact_10) (fun _ h9 => h9) rfl dX1_cairnFact_66 ?_
  refine lv_iload_n hx hb dX1_cairnFact_69 rfl (lv_at hl 1 rfl) ?_
  refine rd_cVi (As := [.int a]) (rest := []) F (c_X0_trianglesAt l dC dI cI cZ cY h qx qy ql qs qc n t xs ys lf sy co a hn) (cwV 1 hts gX1_cairnFact_X0_trianglesAt rfl rfl rfl hd_X0_trianglesAt ⟨Nat.le_of_ble_eq_true rfl, Nat.le_of_ble_eq_true rfl⟩) (hP.sub (ws' := wM cI h qx qy ql qs qc n t xs ys lf sy co) [2, 3, 4, 5, 6, 7] rfl) hK (va_recv hK hP (ci := 0) (q0 := 2) rfl rfl) rfl hl.1 rfl (lv_room (Nat.le_of_ble_eq_true rfl)) dX1_cairnFact_70 ⟨Nat.zero_le _, Nat.zero_le _⟩ ?_
  exact rd_iret hx hb hr hlocks (by rw [x_cFact, if_neg c_1, if_neg c_2, if_neg c_3, if_neg c_4]) dX1_cairnFact_73
theorem hd_X1_triangleFact : yX1_triangleFact.cls = RX1 ∧ yX1_triangleFact.cls ≠ "java/lang/invoke/MethodHandle" ∧ yX1_triangleFact.cls ≠ "java/lang/invoke/VarHandle" ∧ (parseMethodDescriptor yX1_triangleFact.desc).map (fun d => d.parameters.length) = some 2 := by decide +kernel
theorem in_X1_triangleFact_X1 : ∀ w ∈ wsX10, w ∈ wsX1_triangleFact := by decide +kernel
theorem fl_X1_triangleFact_10 : (Cond.fieldLink RX1 10 "MoorTriangles" "mesh" "LMoorTriangles$Mesh;") ∈ wsX1_triangleFact := by decide +kernel
set_option maxHeartbeats 4000000 in
set_option maxRecDepth 100000 in
theorem c_X1_triangleFact (l : Launch) (dC : Nat → ClassId) (dI : Nat → Nat → Nat) (cI cZ cY : ClassId) (o qo : Nat) (hs : Nat → Int32) (fl : Int32) (h qx qy ql qs qc n t : Nat) (xs ys lf sy co : Nat → Int32) (h2 qx2 qy2 ql2 qs2 qc2 n2 t2 : Nat) (xs2 ys2 lf2 sy2 co2 : Nat → Int32) (k : Int32) (w : Int32) : Met l yX1_triangleFact wsX1_triangleFact ({ frames := 3, cells := 0, slots := 0, locals := 67 }) (va_Pc [.ref o, .int k, .int w] (fun U => va_P (dC, dI) vwCl (wX cI o qo hs fl h qx qy ql qs qc n t xs ys lf sy co h2 qx2 qy2 ql2 qs2 qc2 n2 t2 xs2 ys2 lf2 sy2 co2) U.heap ∧ va_K (dC, dI) vwCl (gTY cI cZ cY) U)) (vp_Si (fun r => r = x_tFact xs ys co k w)) 0 0 (fun _ => False) := by
  refine rd_start (cc := cX1_triangleFact) (maxL := 3) (ret := (some .int)) RX1 (by decide) rfl rfl (Nat.le_of_ble_eq_true rfl) ?_
  intro p e s m below meth c ⟨hx, hb, hr, hml, hown, hts, hlocks⟩ hP hK ls hl
  have F : CallFix p m c cX1_triangleFact 3 s ([.ref o, .int k, .int w] : List Value).toArray wsX1_triangleFact RX1 := ⟨hx, hb, hml, hown, hts⟩
  have hl : lv_has ls 3 [(0, .ref o), (1, .int k), (2, .int w)] := hl
  refine lv_iload_n hx hb dX1_triangleFact_0 rfl (lv_at hl 2 rfl) ?_
  refine lv_iconst (v := 3) hx hb dX1_triangleFact_1 (by decide) ?_
  refine lv_icmp_ne (tgt := 16) hx hb dX1_triangleFact_2 (by decide) (fun c_1 => ?_) (fun c_1 => ?_)
  · refine lv_aload_n hx hb dX1_triangleFact_16 rfl (lv_at hl 0 rfl) ?_
    refine va_get (D := (dC, dI)) (ci := 1) (v := .ref h) (C := RX1) (T := TX1) (N := 4) hx hb hts in_X1_triangleFact_X1 hown hK hP 0 rfl rfl 0 (by decide) (hts (.fieldLink RX1 10 "MoorTriangles" "mesh" "LMoorTriangles$Mesh;") fl_X1_triangleFact_10) (fun _ h9 => h9) rfl dX1_triangleFact_17 ?_
    refine lv_iload_n hx hb dX1_triangleFact_20 rfl (lv_at hl 1 rfl) ?_
    refine lv_iload_n hx hb dX1_triangleFact_21 rfl (lv_at hl 2 rfl) ?_
    refine rd_cVi (As := [.int k, .int w]) (rest := []) F (c_X0_corner l dC dI cI cZ cY h qx qy ql qs qc n t xs ys lf sy co k w) (cwV 2 hts gX1_triangleFact_X0_corner rfl rfl rfl hd_X0_corner ⟨Nat.le_of_ble_eq_true rfl, Nat.le_of_ble_eq_true rfl⟩) (hP.sub (ws' := wM cI h qx qy ql qs qc n t xs ys lf sy co) [2, 3, 4, 5, 6, 7] rfl) hK (va_recv hK hP (ci := 0) (q0 := 2) rfl rfl) rfl hl.1 rfl (lv_room (Nat.le_of_ble_eq_true rfl)) dX1_triangleFact_22 ⟨Nat.zero_le _, Nat.zero_le _⟩ ?_
    exact rd_iret hx hb hr hlocks (by rw [x_tFact, if_neg c_1]) dX1_triangleFact_25
  · refine lv_aload_n hx hb dX1_triangleFact_5 rfl (lv_at hl 0 rfl) ?_
    refine va_get (D := (dC, dI)) (ci := 1) (v := .ref h) (C := RX1) (T := TX1) (N := 4) hx hb hts in_X1_triangleFact_X1 hown hK hP 0 rfl rfl 0 (by decide) (hts (.fieldLink RX1 10 "MoorTriangles" "mesh" "LMoorTriangles$Mesh;") fl_X1_triangleFact_10) (fun _ h9 => h9) rfl dX1_triangleFact_6 ?_
    refine lv_iload_n hx hb dX1_triangleFact_9 rfl (lv_at hl 1 rfl) ?_
    refine rd_cVi (As := [.int k]) (rest := []) F (c_X0_areaOf l dC dI cI cZ cY h qx qy ql qs qc n t xs ys lf sy co k) (cwV 1 hts gX1_triangleFact_X0_areaOf rfl rfl rfl hd_X0_areaOf ⟨Nat.le_of_ble_eq_true rfl, Nat.le_of_ble_eq_true rfl⟩) (hP.sub (ws' := wM cI h qx qy ql qs qc n t xs ys lf sy co) [2, 3, 4, 5, 6, 7] rfl) hK (va_recv hK hP (ci := 0) (q0 := 2) rfl rfl) rfl hl.1 rfl (lv_room (Nat.le_of_ble_eq_true rfl)) dX1_triangleFact_10 ⟨Nat.zero_le _, Nat.zero_le _⟩ ?_
    refine lv_goto (tgt := 25) hx hb dX1_triangleFact_13 (by decide) ?_
    exact rd_iret hx hb hr hlocks (by rw [x_tFact, if_pos c_1]) dX1_triangleFact_25
theorem hd_X1_edgeFact : yX1_edgeFact.cls = RX1 ∧ yX1_edgeFact.cls ≠ "java/lang/invoke/MethodHandle" ∧ yX1_edgeFact.cls ≠ "java/lang/invoke/VarHandle" ∧ (parseMethodDescriptor yX1_edgeFact.desc).map (fun d => d.parameters.length) = some 3 := by decide +kernel
theorem in_X1_edgeFact_X1 : ∀ w ∈ wsX10, w ∈ wsX1_edgeFact := by decide +kernel
theorem fl_X1_edgeFact_10 : (Cond.fieldLink RX1 10 "MoorTriangles" "mesh" "LMoorTriangles$Mesh;") ∈ wsX1_edgeFact := by decide +kernel
set_option maxHeartbeats 4000000 in
set_option maxRecDepth 100000 in
theorem c_X1_edgeFact (l : Launch) (dC : Nat → ClassId) (dI : Nat → Nat → Nat) (cI cZ cY : ClassId) (o qo : Nat) (hs : Nat → Int32) (fl : Int32) (h qx qy ql qs qc n t : Nat) (xs ys lf sy co : Nat → Int32) (h2 qx2 qy2 ql2 qs2 qc2 n2 t2 : Nat) (xs2 ys2 lf2 sy2 co2 : Nat → Int32) (a : Int32) (b : Int32) (w : Int32) : Met l yX1_edgeFact wsX1_edgeFact ({ frames := 4, cells := 0, slots := 0, locals := 102 }) (va_Pc [.ref o, .int a, .int b, .int w] (fun U => va_P (dC, dI) vwCl (wX cI o qo hs fl h qx qy ql qs qc n t xs ys lf sy co h2 qx2 qy2 ql2 qs2 qc2 n2 t2 xs2 ys2 lf2 sy2 co2) U.heap ∧ va_K (dC, dI) vwCl (gTY cI cZ cY) U)) (vp_Si (fun r => r = x_eFact n xs ys lf sy a b w)) 0 0 (fun _ => False) := by
  refine rd_start (cc := cX1_edgeFact) (maxL := 4) (ret := (some .int)) RX1 (by decide) rfl rfl (Nat.le_of_ble_eq_true rfl) ?_
  intro p e s m below meth c ⟨hx, hb, hr, hml, hown, hts, hlocks⟩ hP hK ls hl
  have F : CallFix p m c cX1_edgeFact 4 s ([.ref o, .int a, .int b, .int w] : List Value).toArray wsX1_edgeFact RX1 := ⟨hx, hb, hml, hown, hts⟩
  have hl : lv_has ls 4 [(0, .ref o), (1, .int a), (2, .int b), (3, .int w)] := hl
  refine lv_aload_n hx hb dX1_edgeFact_0 rfl (lv_at hl 0 rfl) ?_
  refine va_get (D := (dC, dI)) (ci := 1) (v := .ref h) (C := RX1) (T := TX1) (N := 4) hx hb hts in_X1_edgeFact_X1 hown hK hP 0 rfl rfl 0 (by decide) (hts (.fieldLink RX1 10 "MoorTriangles" "mesh" "LMoorTriangles$Mesh;") fl_X1_edgeFact_10) (fun _ h9 => h9) rfl dX1_edgeFact_1 ?_
  refine lv_iload_n hx hb dX1_edgeFact_4 rfl (lv_at hl 3 rfl) ?_
  refine lv_iload_n hx hb dX1_edgeFact_5 rfl (lv_at hl 1 rfl) ?_
  refine lv_iload_n hx hb dX1_edgeFact_6 rfl (lv_at hl 2 rfl) ?_
  refine rd_cVi (As := [.int w, .int a, .int b]) (rest := []) F (c_X0_isEdgeThat l dC dI cI cZ cY h qx qy ql qs qc n t xs ys lf sy co w a b) (cwV 3 hts gX1_edgeFact_X0_isEdgeThat rfl rfl rfl hd_X0_isEdgeThat ⟨Nat.le_of_ble_eq_true rfl, Nat.le_of_ble_eq_true rfl⟩) (hP.sub (ws' := wM cI h qx qy ql qs qc n t xs ys lf sy co) [2, 3, 4, 5, 6, 7] rfl) hK (va_recv hK hP (ci := 0) (q0 := 2) rfl rfl) rfl hl.1 rfl (lv_room (Nat.le_of_ble_eq_true rfl)) dX1_edgeFact_7 ⟨Nat.zero_le _, Nat.zero_le _⟩ ?_
  refine lv_if_eqB (tgt := 17) hx hb dX1_edgeFact_10 (by decide) (fun c_1 => ?_) (fun c_1 => ?_)
  · refine lv_iconst (v := 0) hx hb dX1_edgeFact_17 (by decide) ?_
    exact rd_iret hx hb hr hlocks (by rw [x_eFact, c_1]; rfl) dX1_edgeFact_18
  · refine lv_iconst (v := 1) hx hb dX1_edgeFact_13 (by decide) ?_
    refine lv_goto (tgt := 18) hx hb dX1_edgeFact_14 (by decide) ?_
    exact rd_iret hx hb hr hlocks (by rw [x_eFact, c_1]; rfl) dX1_edgeFact_18
theorem hd_X1_countOf : yX1_countOf.cls = RX1 ∧ yX1_countOf.cls ≠ "java/lang/invoke/MethodHandle" ∧ yX1_countOf.cls ≠ "java/lang/invoke/VarHandle" ∧ (parseMethodDescriptor yX1_countOf.desc).map (fun d => d.parameters.length) = some 1 := by decide +kernel
theorem in_X1_countOf_X1 : ∀ w ∈ wsX10, w ∈ wsX1_countOf := by decide +kernel
theorem fl_X1_countOf_10 : (Cond.fieldLink RX1 10 "MoorTriangles" "mesh" "LMoorTriangles$Mesh;") ∈ wsX1_countOf := by decide +kernel
theorem in_X1_countOf_X0 : ∀ w ∈ wsX00, w ∈ wsX1_countOf := by decide +kernel
theorem fl_X1_countOf_35 : (Cond.fieldLink RX1 35 "MoorTriangles$Mesh" "cairns" "I") ∈ wsX1_countOf := by decide +kernel
theorem fl_X1_countOf_102 : (Cond.fieldLink RX1 102 "MoorTriangles$Mesh" "triangles" "I") ∈ wsX1_countOf := by decide +kernel
theorem fl_X1_countOf_23 : (Cond.fieldLink RX1 23 "MoorTriangles" "flips" "I") ∈ wsX1_countOf := by decide +kernel
set_option maxHeartbeats 4000000 in
set_option maxRecDepth 100000 in
theorem c_X1_countOf (l : Launch) (dC : Nat → ClassId) (dI : Nat → Nat → Nat) (cI cZ cY : ClassId) (o qo : Nat) (hs : Nat → Int32) (fl : Int32) (h qx qy ql qs qc n t : Nat) (xs ys lf sy co : Nat → Int32) (h2 qx2 qy2 ql2 qs2 qc2 n2 t2 : Nat) (xs2 ys2 lf2 sy2 co2 : Nat → Int32) (w : Int32) (hn : n ≤ 17) : Met l yX1_countOf wsX1_countOf ({ frames := 5, cells := 0, slots := 0, locals := 126 }) (va_Pc [.ref o, .int w] (fun U => va_P (dC, dI) vwCl (wX cI o qo hs fl h qx qy ql qs qc n t xs ys lf sy co h2 qx2 qy2 ql2 qs2 qc2 n2 t2 xs2 ys2 lf2 sy2 co2) U.heap ∧ va_K (dC, dI) vwCl (gTY cI cZ cY) U)) (vp_Si (fun r => r = x_cntOf n t xs ys lf sy fl w)) 0 0 (fun _ => False) := by
  refine rd_start (cc := cX1_countOf) (maxL := 2) (ret := (some .int)) RX1 (by decide) rfl rfl (Nat.le_of_ble_eq_true rfl) ?_
  intro p e s m below meth c ⟨hx, hb, hr, hml, hown, hts, hlocks⟩ hP hK ls hl
  have F : CallFix p m c cX1_countOf 2 s ([.ref o, .int w] : List Value).toArray wsX1_countOf RX1 := ⟨hx, hb, hml, hown, hts⟩
  have hl : lv_has ls 2 [(0, .ref o), (1, .int w)] := hl
  refine lv_iload_n hx hb dX1_countOf_0 rfl (lv_at hl 1 rfl) ?_
  by_cases c_1 : w = 0
  · refine lv_tsw (k := 0) (off := 39) (tgt := 40) hx hb dX1_countOf_1 c_1 (by decide +kernel) (by decide +kernel) (by decide +kernel) (by decide) ?_
    refine lv_aload_n hx hb dX1_countOf_40 rfl (lv_at hl 0 rfl) ?_
    refine va_get (D := (dC, dI)) (ci := 1) (v := .ref h) (C := RX1) (T := TX1) (N := 4) hx hb hts in_X1_countOf_X1 hown hK hP 0 rfl rfl 0 (by decide) (hts (.fieldLink RX1 10 "MoorTriangles" "mesh" "LMoorTriangles$Mesh;") fl_X1_countOf_10) (fun _ h9 => h9) rfl dX1_countOf_41 ?_
    refine va_get (D := (dC, dI)) (ci := 0) (v := .int (nI n)) (C := RX0) (T := TX0) (N := 7) hx hb hts in_X1_countOf_X0 hown hK hP 2 rfl rfl 0 (by decide) (hts (.fieldLink RX1 35 "MoorTriangles$Mesh" "cairns" "I") fl_X1_countOf_35) (fun _ h9 => h9) rfl dX1_countOf_44 ?_
    exact rd_iret hx hb hr hlocks (by rw [x_cntOf, if_pos c_1]) dX1_countOf_47
  by_cases c_2 : w = 1
  · refine lv_tsw (k := 1) (off := 47) (tgt := 48) hx hb dX1_countOf_1 c_2 (by decide +kernel) (by decide +kernel) (by decide +kernel) (by decide) ?_
    refine lv_aload_n hx hb dX1_countOf_48 rfl (lv_at hl 0 rfl) ?_
    refine va_get (D := (dC, dI)) (ci := 1) (v := .ref h) (C := RX1) (T := TX1) (N := 4) hx hb hts in_X1_countOf_X1 hown hK hP 0 rfl rfl 0 (by decide) (hts (.fieldLink RX1 10 "MoorTriangles" "mesh" "LMoorTriangles$Mesh;") fl_X1_countOf_10) (fun _ h9 => h9) rfl dX1_countOf_49 ?_
    refine va_get (D := (dC, dI)) (ci := 0) (v := .int (nI t)) (C := RX0) (T := TX0) (N := 7) hx hb hts in_X1_countOf_X0 hown hK hP 2 rfl rfl 1 (by decide) (hts (.fieldLink RX1 102 "MoorTriangles$Mesh" "triangles" "I") fl_X1_countOf_102) (fun _ h9 => h9) rfl dX1_countOf_52 ?_
    exact rd_iret hx hb hr hlocks (by rw [x_cntOf, if_neg c_1, if_pos c_2]) dX1_countOf_55
  by_cases c_3 : w = 2
  · refine lv_tsw (k := 2) (off := 55) (tgt := 56) hx hb dX1_countOf_1 c_3 (by decide +kernel) (by decide +kernel) (by decide +kernel) (by decide) ?_
    refine lv_aload_n hx hb dX1_countOf_56 rfl (lv_at hl 0 rfl) ?_
    refine va_get (D := (dC, dI)) (ci := 1) (v := .ref h) (C := RX1) (T := TX1) (N := 4) hx hb hts in_X1_countOf_X1 hown hK hP 0 rfl rfl 0 (by decide) (hts (.fieldLink RX1 10 "MoorTriangles" "mesh" "LMoorTriangles$Mesh;") fl_X1_countOf_10) (fun _ h9 => h9) rfl dX1_countOf_57 ?_
    refine lv_iconst (v := 0) hx hb dX1_countOf_60 (by decide) ?_
    refine rd_cVi (As := [.int 0]) (rest := []) F (c_X0_edgesThat l dC dI cI cZ cY h qx qy ql qs qc n t xs ys lf sy co 0 hn) (cwV 1 hts gX1_countOf_X0_edgesThat rfl rfl rfl hd_X0_edgesThat ⟨Nat.le_of_ble_eq_true rfl, Nat.le_of_ble_eq_true rfl⟩) (hP.sub (ws' := wM cI h qx qy ql qs qc n t xs ys lf sy co) [2, 3, 4, 5, 6, 7] rfl) hK (va_recv hK hP (ci := 0) (q0 := 2) rfl rfl) rfl hl.1 rfl (lv_room (Nat.le_of_ble_eq_true rfl)) dX1_countOf_61 ⟨Nat.zero_le _, Nat.zero_le _⟩ ?_
    exact rd_iret hx hb hr hlocks (by rw [x_cntOf, if_neg c_1, if_neg c_2, if_pos c_3]) dX1_countOf_64
  by_cases c_4 : w = 3
  · refine lv_tsw (k := 3) (off := 64) (tgt := 65) hx hb dX1_countOf_1 c_4 (by decide +kernel) (by decide +kernel) (by decide +kernel) (by decide) ?_
    refine lv_aload_n hx hb dX1_countOf_65 rfl (lv_at hl 0 rfl) ?_
    refine va_get (D := (dC, dI)) (ci := 1) (v := .ref h) (C := RX1) (T := TX1) (N := 4) hx hb hts in_X1_countOf_X1 hown hK hP 0 rfl rfl 0 (by decide) (hts (.fieldLink RX1 10 "MoorTriangles" "mesh" "LMoorTriangles$Mesh;") fl_X1_countOf_10) (fun _ h9 => h9) rfl dX1_countOf_66 ?_
    refine lv_iconst (v := 1) hx hb dX1_countOf_69 (by decide) ?_
    refine rd_cVi (As := [.int 1]) (rest := []) F (c_X0_edgesThat l dC dI cI cZ cY h qx qy ql qs qc n t xs ys lf sy co 1 hn) (cwV 1 hts gX1_countOf_X0_edgesThat rfl rfl rfl hd_X0_edgesThat ⟨Nat.le_of_ble_eq_true rfl, Nat.le_of_ble_eq_true rfl⟩) (hP.sub (ws' := wM cI h qx qy ql qs qc n t xs ys lf sy co) [2, 3, 4, 5, 6, 7] rfl) hK (va_recv hK hP (ci := 0) (q0 := 2) rfl rfl) rfl hl.1 rfl (lv_room (Nat.le_of_ble_eq_true rfl)) dX1_countOf_70 ⟨Nat.zero_le _, Nat.zero_le _⟩ ?_
    exact rd_iret hx hb hr hlocks (by rw [x_cntOf, if_neg c_1, if_neg c_2, if_neg c_3, if_pos c_4]) dX1_countOf_73
  by_cases c_5 : w = 4
  · refine lv_tsw (k := 4) (off := 73) (tgt := 74) hx hb dX1_countOf_1 c_5 (by decide +kernel) (by decide +kernel) (by decide +kernel) (by decide) ?_
    refine lv_aload_n hx hb dX1_countOf_74 rfl (lv_at hl 0 rfl) ?_
    refine va_get (D := (dC, dI)) (ci := 1) (v := .ref h) (C := RX1) (T := TX1) (N := 4) hx hb hts in_X1_countOf_X1 hown hK hP 0 rfl rfl 0 (by decide) (hts (.fieldLink RX1 10 "MoorTriangles" "mesh" "LMoorTriangles$Mesh;") fl_X1_countOf_10) (fun _ h9 => h9) rfl dX1_countOf_75 ?_
    refine lv_iconst (v := 2) hx hb dX1_countOf_78 (by decide) ?_
    refine rd_cVi (As := [.int 2]) (rest := []) F (c_X0_edgesThat l dC dI cI cZ cY h qx qy ql qs qc n t xs ys lf sy co 2 hn) (cwV 1 hts gX1_countOf_X0_edgesThat rfl rfl rfl hd_X0_edgesThat ⟨Nat.le_of_ble_eq_true rfl, Nat.le_of_ble_eq_true rfl⟩) (hP.sub (ws' := wM cI h qx qy ql qs qc n t xs ys lf sy co) [2, 3, 4, 5, 6, 7] rfl) hK (va_recv hK hP (ci := 0) (q0 := 2) rfl rfl) rfl hl.1 rfl (lv_room (Nat.le_of_ble_eq_true rfl)) dX1_countOf_79 ⟨Nat.zero_le _, Nat.zero_le _⟩ ?_
    exact rd_iret hx hb hr hlocks (by rw [x_cntOf, if_neg c_1, if_neg c_2, if_neg c_3, if_neg c_4, if_pos c_5]) dX1_countOf_82
  by_cases c_6 : w = 5
  · refine lv_tsw (k := 5) (off := 82) (tgt := 83) hx hb dX1_countOf_1 c_6 (by decide +kernel) (by decide +kernel) (by decide +kernel) (by decide) ?_
    refine lv_aload_n hx hb dX1_countOf_83 rfl (lv_at hl 0 rfl) ?_
    refine va_get (D := (dC, dI)) (ci := 1) (v := .ref h) (C := RX1) (T := TX1) (N := 4) hx hb hts in_X1_countOf_X1 hown hK hP 0 rfl rfl 0 (by decide) (hts (.fieldLink RX1 10 "MoorTriangles" "mesh" "LMoorTriangles$Mesh;") fl_X1_countOf_10) (fun _ h9 => h9) rfl dX1_countOf_84 ?_
    refine lv_iconst (v := 3) hx hb dX1_countOf_87 (by decide) ?_
    refine rd_cVi (As := [.int 3]) (rest := []) F (c_X0_edgesThat l dC dI cI cZ cY h qx qy ql qs qc n t xs ys lf sy co 3 hn) (cwV 1 hts gX1_countOf_X0_edgesThat rfl rfl rfl hd_X0_edgesThat ⟨Nat.le_of_ble_eq_true rfl, Nat.le_of_ble_eq_true rfl⟩) (hP.sub (ws' := wM cI h qx qy ql qs qc n t xs ys lf sy co) [2, 3, 4, 5, 6, 7] rfl) hK (va_recv hK hP (ci := 0) (q0 := 2) rfl rfl) rfl hl.1 rfl (lv_room (Nat.le_of_ble_eq_true rfl)) dX1_countOf_88 ⟨Nat.zero_le _, Nat.zero_le _⟩ ?_
    exact rd_iret hx hb hr hlocks (by rw [x_cntOf, if_neg c_1, if_neg c_2, if_neg c_3, if_neg c_4, if_neg c_5, if_pos c_6]) dX1_countOf_91
  refine lv_tableOut (tgt := 92) hx hb dX1_countOf_1 (tsw_out6 c_1 c_2 c_3 c_4 c_5 c_6) (by decide) ?_
  refine lv_aload_n hx hb dX1_countOf_92 rfl (lv_at hl 0 rfl) ?_
  refine va_get (D := (dC, dI)) (ci := 1) (v := .int fl) (C := RX1) (T := TX1) (N := 4) hx hb hts in_X1_countOf_X1 hown hK hP 0 rfl rfl 3 (by decide) (hts (.fieldLink RX1 23 "MoorTriangles" "flips" "I") fl_X1_countOf_23) (fun _ h9 => h9) rfl dX1_countOf_93 ?_
  exact rd_iret hx hb hr hlocks (by rw [x_cntOf, if_neg c_1, if_neg c_2, if_neg c_3, if_neg c_4, if_neg c_5, if_neg c_6]) dX1_countOf_96
theorem hd_X1_mean : yX1_mean.cls = RX1 ∧ yX1_mean.cls ≠ "java/lang/invoke/MethodHandle" ∧ yX1_mean.cls ≠ "java/lang/invoke/VarHandle" ∧ (parseMethodDescriptor yX1_mean.desc).map (fun d => d.parameters.length) = some 0 := by decide +kernel
theorem in_X1_mean_X1 : ∀ w ∈ wsX10, w ∈ wsX1_mean := by decide +kernel
theorem fl_X1_mean_10 : (Cond.fieldLink RX1 10 "MoorTriangles" "mesh" "LMoorTriangles$Mesh;") ∈ wsX1_mean := by decide +kernel
theorem in_X1_mean_X0 : ∀ w ∈ wsX00, w ∈ wsX1_mean := by decide +kernel
theorem fl_X1_mean_35 : (Cond.fieldLink RX1 35 "MoorTriangles$Mesh" "cairns" "I") ∈ wsX1_mean := by decide +kernel
set_option maxHeartbeats 4000000 in
set_option maxRecDepth 100000 in
theorem c_X1_mean (l : Launch) (dC : Nat → ClassId) (dI : Nat → Nat → Nat) (cI cZ cY : ClassId) (o qo : Nat) (hs : Nat → Int32) (fl : Int32) (h qx qy ql qs qc n t : Nat) (xs ys lf sy co : Nat → Int32) (h2 qx2 qy2 ql2 qs2 qc2 n2 t2 : Nat) (xs2 ys2 lf2 sy2 co2 : Nat → Int32) (hn : n ≤ 17) (hn1 : 1 ≤ n) : Met l yX1_mean wsX1_mean ({ frames := 5, cells := 0, slots := 0, locals := 126 }) (va_Pc [.ref o] (fun U => va_P (dC, dI) vwCl (wX cI o qo hs fl h qx qy ql qs qc n t xs ys lf sy co h2 qx2 qy2 ql2 qs2 qc2 n2 t2 xs2 ys2 lf2 sy2 co2) U.heap ∧ va_K (dC, dI) vwCl (gTY cI cZ cY) U)) (vp_Sd (fun r => r = x_mean n xs ys lf sy)) 0 0 (fun _ => False) := by
  refine rd_start (cc := cX1_mean) (maxL := 2) (ret := (some .double)) RX1 (by decide) rfl rfl (Nat.le_of_ble_eq_true rfl) ?_
  intro p e s m below meth c ⟨hx, hb, hr, hml, hown, hts, hlocks⟩ hP hK ls hl
  have F : CallFix p m c cX1_mean 2 s ([.ref o] : List Value).toArray wsX1_mean RX1 := ⟨hx, hb, hml, hown, hts⟩
  have hl : lv_has ls 2 [(0, .ref o)] := hl
  refine lv_iconst (v := 2) hx hb dX1_mean_0 (by decide) ?_
  refine lv_aload_n hx hb dX1_mean_1 rfl (lv_at hl 0 rfl) ?_
  refine va_get (D := (dC, dI)) (ci := 1) (v := .ref h) (C := RX1) (T := TX1) (N := 4) hx hb hts in_X1_mean_X1 hown hK hP 0 rfl rfl 0 (by decide) (hts (.fieldLink RX1 10 "MoorTriangles" "mesh" "LMoorTriangles$Mesh;") fl_X1_mean_10) (fun _ h9 => h9) rfl dX1_mean_2 ?_
  refine lv_iconst (v := 0) hx hb dX1_mean_5 (by decide) ?_
  refine rd_cVi (As := [.int 0]) (rest := [.int 2]) F (c_X0_edgesThat l dC dI cI cZ cY h qx qy ql qs qc n t xs ys lf sy co 0 hn) (cwV 1 hts gX1_mean_X0_edgesThat rfl rfl rfl hd_X0_edgesThat ⟨Nat.le_of_ble_eq_true rfl, Nat.le_of_ble_eq_true rfl⟩) (hP.sub (ws' := wM cI h qx qy ql qs qc n t xs ys lf sy co) [2, 3, 4, 5, 6, 7] rfl) hK (va_recv hK hP (ci := 0) (q0 := 2) rfl rfl) rfl hl.1 rfl (lv_room (Nat.le_of_ble_eq_true rfl)) dX1_mean_6 ⟨Nat.zero_le _, Nat.zero_le _⟩ ?_
  refine lv_imul hx hb dX1_mean_9 ?_
  refine lv_istore_n (lv' := [(1, .int (2 * (m_edgesThat n xs ys lf sy 0))), (0, .ref o)]) hx hb dX1_mean_10 rfl hl (by decide) rfl (fun ls hl => ?_)
  refine lv_aload_n hx hb dX1_mean_11 rfl (lv_at hl 1 rfl) ?_
  refine va_get (D := (dC, dI)) (ci := 1) (v := .ref h) (C := RX1) (T := TX1) (N := 4) hx hb hts in_X1_mean_X1 hown hK hP 0 rfl rfl 0 (by decide) (hts (.fieldLink RX1 10 "MoorTriangles" "mesh" "LMoorTriangles$Mesh;") fl_X1_mean_10) (fun _ h9 => h9) rfl dX1_mean_12 ?_
  refine va_get (D := (dC, dI)) (ci := 0) (v := .int (nI n)) (C := RX0) (T := TX0) (N := 7) hx hb hts in_X1_mean_X0 hown hK hP 2 rfl rfl 0 (by decide) (hts (.fieldLink RX1 35 "MoorTriangles$Mesh" "cairns" "I") fl_X1_mean_35) (fun _ h9 => h9) rfl dX1_mean_15 ?_
  refine lv_if_le (tgt := 35) hx hb dX1_mean_18 (by decide) (fun c_1 => ?_) (fun c_1 => ?_)
  · refine lv_dconst0 hx hb dX1_mean_35 ?_
    exact rd_dret hx hb hr hlocks (absurd c_1 (nI_nle (by omega) (by omega))) dX1_mean_36
  · refine lv_iload_n hx hb dX1_mean_21 rfl (lv_at hl 0 rfl) ?_
    refine lv_i2d hx hb dX1_mean_22 ?_
    refine lv_aload_n hx hb dX1_mean_23 rfl (lv_at hl 1 rfl) ?_
    refine va_get (D := (dC, dI)) (ci := 1) (v := .ref h) (C := RX1) (T := TX1) (N := 4) hx hb hts in_X1_mean_X1 hown hK hP 0 rfl rfl 0 (by decide) (hts (.fieldLink RX1 10 "MoorTriangles" "mesh" "LMoorTriangles$Mesh;") fl_X1_mean_10) (fun _ h9 => h9) rfl dX1_mean_24 ?_
    refine va_get (D := (dC, dI)) (ci := 0) (v := .int (nI n)) (C := RX0) (T := TX0) (N := 7) hx hb hts in_X1_mean_X0 hown hK hP 2 rfl rfl 0 (by decide) (hts (.fieldLink RX1 35 "MoorTriangles$Mesh" "cairns" "I") fl_X1_mean_35) (fun _ h9 => h9) rfl dX1_mean_27 ?_
    refine lv_i2d hx hb dX1_mean_30 ?_
    refine lv_ddiv hx hb dX1_mean_31 (dv_n64 (rg_sum17 hn (fun k => rg_ct_le _ _)) hn1 hn) ?_
    refine lv_goto (tgt := 36) hx hb dX1_mean_32 (by decide) ?_
    exact rd_dret hx hb hr hlocks rfl dX1_mean_36
theorem hd_X1_digest : yX1_digest.cls = RX1 ∧ yX1_digest.cls ≠ "java/lang/invoke/MethodHandle" ∧ yX1_digest.cls ≠ "java/lang/invoke/VarHandle" ∧ (parseMethodDescriptor yX1_digest.desc).map (fun d => d.parameters.length) = some 0 := by decide +kernel
theorem lc152_X1_digest : (Cond.constantLong RX1 152 1433) ∈ wsX1_digest := by decide +kernel
theorem in_X1_digest_X1 : ∀ w ∈ wsX10, w ∈ wsX1_digest := by decide +kernel
theorem fl_X1_digest_10 : (Cond.fieldLink RX1 10 "MoorTriangles" "mesh" "LMoorTriangles$Mesh;") ∈ wsX1_digest := by decide +kernel
theorem in_X1_digest_X0 : ∀ w ∈ wsX00, w ∈ wsX1_digest := by decide +kernel
theorem fl_X1_digest_35 : (Cond.fieldLink RX1 35 "MoorTriangles$Mesh" "cairns" "I") ∈ wsX1_digest := by decide +kernel
theorem fl_X1_digest_102 : (Cond.fieldLink RX1 102 "MoorTriangles$Mesh" "triangles" "I") ∈ wsX1_digest := by decide +kernel
theorem lc154_X1_digest : (Cond.constantLong RX1 154 31) ∈ wsX1_digest := by decide +kernel
set_option maxHeartbeats 4000000 in
set_option maxRecDepth 100000 in
theorem c_X1_digest (l : Launch) (dC : Nat → ClassId) (dI : Nat → Nat → Nat) (cI cZ cY : ClassId) (o qo : Nat) (hs : Nat → Int32) (fl : Int32) (h qx qy ql qs qc n t : Nat) (xs ys lf sy co : Nat → Int32) (h2 qx2 qy2 ql2 qs2 qc2 n2 t2 : Nat) (xs2 ys2 lf2 sy2 co2 : Nat → Int32) (hn : n ≤ 17) (ht : t ≤ 28) : Met l yX1_digest wsX1_digest ({ frames := 6, cells := 0, slots := 0, locals := 147 }) (va_Pc [.ref o] (fun U => va_P (dC, dI) vwCl (wX cI o qo hs fl h qx qy ql qs qc n t xs ys lf sy co h2 qx2 qy2 ql2 qs2 qc2 n2 t2 xs2 ys2 lf2 sy2 co2) U.heap ∧ va_K (dC, dI) vwCl (gTY cI cZ cY) U)) (vp_Sl (fun r => r = x_digest n t hs xs ys lf sy co fl)) 0 0 (fun _ => False) := by
  refine rd_start (cc := cX1_digest) (maxL := 5) (ret := (some .long)) RX1 (by decide) rfl rfl (Nat.le_of_ble_eq_true rfl) ?_
  intro p e s m below meth c ⟨hx, hb, hr, hml, hown, hts, hlocks⟩ hP hK ls hl
  have F : CallFix p m c cX1_digest 5 s ([.ref o] : List Value).toArray wsX1_digest RX1 := ⟨hx, hb, hml, hown, hts⟩
  have hl : lv_has ls 5 [(0, .ref o)] := hl
  refine lv_ldc2 hx hb hown (hts _ lc152_X1_digest) dX1_digest_0 ?_
  refine lv_lstore_n (lv' := [(1, .long 1433), (0, .ref o)]) hx hb dX1_digest_3 rfl hl (by decide) rfl (fun ls hl => ?_)
  refine lv_iconst (v := 0) hx hb dX1_digest_4 (by decide) ?_
  refine lv_istore_n (lv' := [(3, .int 0), (1, .long 1433), (0, .ref o)]) hx hb dX1_digest_5 rfl hl (by decide) rfl (fun ls hl => ?_)
  have hL6 : ∀ (k_1 : Nat) (i : Nat), (7 - i) < k_1 → (i ≤ 7) → ∀ ls : Array Slot, lv_has ls 5 [(3, .int (nI i)), (1, .long (dgF (x_dg1 n t xs ys lf sy fl) 1433 i)), (0, .ref o)] → W p l e ({ frames := 6, cells := 0, slots := 0, locals := 147 } : Room) s m ([.ref o] : List Value).toArray below meth c s.heap [] 0 0 (MQ below (vp_Sl (fun r => r = x_digest n t hs xs ys lf sy co fl)) ([.ref o] : List Value).toArray s 0 0 (fun _ => False)) (F0 m 6 ls []) := by
    intro k_1
    induction k_1 with
    | zero => intro i hk; exact absurd hk (Nat.not_lt_zero _)
    | succ k_1 ih_2 =>
      intro i hk_6 hi_i ls hl
      refine lv_iload_n hx hb dX1_digest_6 rfl (lv_at hl 0 rfl) ?_
      refine lv_bipush (v := 7) hx hb dX1_digest_7 (by decide) ?_
      refine lv_icmp_ge (tgt := 31) hx hb dX1_digest_9 (by decide) (fun c_3 => ?_) (fun c_3 => ?_)
      · have hge_i : 7 ≤ i := nI_le_le (by omega) (by omega) c_3
        have heq_i : i = 7 := by omega
        have hl : lv_has ls 5 [(3, .int (nI 7)), (1, .long (dgF (x_dg1 n t xs ys lf sy fl) 1433 7)), (0, .ref o)] := by rw [heq_i] at hl; exact hl
        refine lv_iconst (v := 0) hx hb dX1_digest_31 (by decide) ?_
        refine lv_istore_n (lv' := [(3, .int 0), (1, .long (dgF (x_dg1 n t xs ys lf sy fl) 1433 7)), (0, .ref o)]) hx hb dX1_digest_32 rfl hl (by decide) rfl (fun ls hl => ?_)
        have hL33 : ∀ (k_4 : Nat) (i : Nat), (n - i) < k_4 → (i ≤ n) → ∀ ls : Array Slot, lv_has ls 5 [(3, .int (nI i)), (1, .long (dgO (x_dg2 n xs ys lf hs) 5 (dgF (x_dg1 n t xs ys lf sy fl) 1433 7) i)), (0, .ref o)] → W p l e ({ frames := 6, cells := 0, slots := 0, locals := 147 } : Room) s m ([.ref o] : List Value).toArray below meth c s.heap [] 0 0 (MQ below (vp_Sl (fun r => r = x_digest n t hs xs ys lf sy co fl)) ([.ref o] : List Value).toArray s 0 0 (fun _ => False)) (F0 m 33 ls []) := by
          intro k_4
          induction k_4 with
          | zero => intro i hk; exact absurd hk (Nat.not_lt_zero _)
          | succ k_4 ih_5 =>
            intro i hk_33 hi_i ls hl
            refine lv_iload_n hx hb dX1_digest_33 rfl (lv_at hl 0 rfl) ?_
            refine lv_aload_n hx hb dX1_digest_34 rfl (lv_at hl 2 rfl) ?_
            refine va_get (D := (dC, dI)) (ci := 1) (v := .ref h) (C := RX1) (T := TX1) (N := 4) hx hb hts in_X1_digest_X1 hown hK hP 0 rfl rfl 0 (by decide) (hts (.fieldLink RX1 10 "MoorTriangles" "mesh" "LMoorTriangles$Mesh;") fl_X1_digest_10) (fun _ h9 => h9) rfl dX1_digest_35 ?_
            refine va_get (D := (dC, dI)) (ci := 0) (v := .int (nI n)) (C := RX0) (T := TX0) (N := 7) hx hb hts in_X1_digest_X0 hown hK hP 2 rfl rfl 0 (by decide) (hts (.fieldLink RX1 35 "MoorTriangles$Mesh" "cairns" "I") fl_X1_digest_35) (fun _ h9 => h9) rfl dX1_digest_38 ?_
            refine lv_icmp_ge (tgt := 80) hx hb dX1_digest_41 (by decide) (fun c_6 => ?_) (fun c_6 => ?_)
            · have hge_i : n ≤ i := nI_le_le (by omega) (by omega) c_6
              have heq_i : i = n := by omega
              have hl : lv_has ls 5 [(3, .int (nI n)), (1, .long (dgO (x_dg2 n xs ys lf hs) 5 (dgF (x_dg1 n t xs ys lf sy fl) 1433 7) n)), (0, .ref o)] := by rw [heq_i] at hl; exact hl
              refine lv_iconst (v := 0) hx hb dX1_digest_80 (by decide) ?_
              refine lv_istore_n (lv' := [(3, .int 0), (1, .long (dgO (x_dg2 n xs ys lf hs) 5 (dgF (x_dg1 n t xs ys lf sy fl) 1433 7) n)), (0, .ref o)]) hx hb dX1_digest_81 rfl hl (by decide) rfl (fun ls hl => ?_)
              have hL82 : ∀ (k_7 : Nat) (i : Nat), (t - i) < k_7 → (i ≤ t) → ∀ ls : Array Slot, lv_has ls 5 [(3, .int (nI i)), (1, .long (dgO (x_dg3 xs ys co) 4 (dgO (x_dg2 n xs ys lf hs) 5 (dgF (x_dg1 n t xs ys lf sy fl) 1433 7) n) i)), (0, .ref o)] → W p l e ({ frames := 6, cells := 0, slots := 0, locals := 147 } : Room) s m ([.ref o] : List Value).toArray below meth c s.heap [] 0 0 (MQ below (vp_Sl (fun r => r = x_digest n t hs xs ys lf sy co fl)) ([.ref o] : List Value).toArray s 0 0 (fun _ => False)) (F0 m 82 ls []) := by
                intro k_7
                induction k_7 with
                | zero => intro i hk; exact absurd hk (Nat.not_lt_zero _)
                | succ k_7 ih_8 =>
                  intro i hk_82 hi_i ls hl
                  refine lv_iload_n hx hb dX1_digest_82 rfl (lv_at hl 0 rfl) ?_
                  refine lv_aload_n hx hb dX1_digest_83 rfl (lv_at hl 2 rfl) ?_
                  refine va_get (D := (dC, dI)) (ci := 1) (v := .ref h) (C := RX1) (T := TX1) (N := 4) hx hb hts in_X1_digest_X1 hown hK hP 0 rfl rfl 0 (by decide) (hts (.fieldLink RX1 10 "MoorTriangles" "mesh" "LMoorTriangles$Mesh;") fl_X1_digest_10) (fun _ h9 => h9) rfl dX1_digest_84 ?_
                  refine va_get (D := (dC, dI)) (ci := 0) (v := .int (nI t)) (C := RX0) (T := TX0) (N := 7) hx hb hts in_X1_digest_X0 hown hK hP 2 rfl rfl 1 (by decide) (hts (.fieldLink RX1 102 "MoorTriangles$Mesh" "triangles" "I") fl_X1_digest_102) (fun _ h9 => h9) rfl dX1_digest_87 ?_
                  refine lv_icmp_ge (tgt := 129) hx hb dX1_digest_90 (by decide) (fun c_9 => ?_) (fun c_9 => ?_)
                  · have hge_i : t ≤ i := nI_le_le (by omega) (by omega) c_9
                    have heq_i : i = t := by omega
                    have hl : lv_has ls 5 [(3, .int (nI t)), (1, .long (dgO (x_dg3 xs ys co) 4 (dgO (x_dg2 n xs ys lf hs) 5 (dgF (x_dg1 n t xs ys lf sy fl) 1433 7) n) t)), (0, .ref o)] := by rw [heq_i] at hl; exact hl
                    refine lv_iconst (v := 0) hx hb dX1_digest_129 (by decide) ?_
                    refine lv_istore_n (lv' := [(3, .int 0), (1, .long (dgO (x_dg3 xs ys co) 4 (dgO (x_dg2 n xs ys lf hs) 5 (dgF (x_dg1 n t xs ys lf sy fl) 1433 7) n) t)), (0, .ref o)]) hx hb dX1_digest_130 rfl hl (by decide) rfl (fun ls hl => ?_)
                    have hL131 : ∀ (k_10 : Nat) (i : Nat), (n - i) < k_10 → (i ≤ n) → ∀ ls : Array Slot, lv_has ls 5 [(3, .int (nI i)), (1, .long (dgE (x_dgH lf) (x_dg4 n xs ys lf sy) n (dgO (x_dg3 xs ys co) 4 (dgO (x_dg2 n xs ys lf hs) 5 (dgF (x_dg1 n t xs ys lf sy fl) 1433 7) n) t) i)), (0, .ref o)] → W p l e ({ frames := 6, cells := 0, slots := 0, locals := 147 } : Room) s m ([.ref o] : List Value).toArray below meth c s.heap [] 0 0 (MQ below (vp_Sl (fun r => r = x_digest n t hs xs ys lf sy co fl)) ([.ref o] : List Value).toArray s 0 0 (fun _ => False)) (F0 m 131 ls []) := by
                      intro k_10
                      induction k_10 with
                      | zero => intro i hk; exact absurd hk (Nat.not_lt_zero _)
                      | succ k_10 ih_11 =>
                        intro i hk_131 hi_i ls hl
                        refine lv_iload_n hx hb dX1_digest_131 rfl (lv_at hl 0 rfl) ?_
                        refine lv_aload_n hx hb dX1_digest_132 rfl (lv_at hl 2 rfl) ?_
                        refine va_get (D := (dC, dI)) (ci := 1) (v := .ref h) (C := RX1) (T := TX1) (N := 4) hx hb hts in_X1_digest_X1 hown hK hP 0 rfl rfl 0 (by decide) (hts (.fieldLink RX1 10 "MoorTriangles" "mesh" "LMoorTriangles$Mesh;") fl_X1_digest_10) (fun _ h9 => h9) rfl dX1_digest_133 ?_
                        refine va_get (D := (dC, dI)) (ci := 0) (v := .int (nI n)) (C := RX0) (T := TX0) (N := 7) hx hb hts in_X1_digest_X0 hown hK hP 2 rfl rfl 0 (by decide) (hts (.fieldLink RX1 35 "MoorTriangles$Mesh" "cairns" "I") fl_X1_digest_35) (fun _ h9 => h9) rfl dX1_digest_136 ?_
                        refine lv_icmp_ge (tgt := 251) hx hb dX1_digest_139 (by decide) (fun c_12 => ?_) (fun c_12 => ?_)
                        · have hge_i : n ≤ i := nI_le_le (by omega) (by omega) c_12
                          have heq_i : i = n := by omega
                          have hl : lv_has ls 5 [(3, .int (nI n)), (1, .long (dgE (x_dgH lf) (x_dg4 n xs ys lf sy) n (dgO (x_dg3 xs ys co) 4 (dgO (x_dg2 n xs ys lf hs) 5 (dgF (x_dg1 n t xs ys lf sy fl) 1433 7) n) t) n)), (0, .ref o)] := by rw [heq_i] at hl; exact hl
                          refine lv_lload_n hx hb dX1_digest_251 rfl (lv_at hl 1 rfl) ?_
                          exact rd_lret hx hb hr hlocks rfl dX1_digest_252
                        · have hlt_i : i < n := nI_nle_lt (by omega) (by omega) c_12
                          refine lv_iload_n hx hb dX1_digest_142 rfl (lv_at hl 0 rfl) ?_
                          refine lv_iconst (v := 1) hx hb dX1_digest_143 (by decide) ?_
                          refine lv_iadd hx hb dX1_digest_144 ?_
                          refine lv_istore (lv' := [(4, .int ((nI i) + 1)), (3, .int (nI i)), (1, .long (dgE (x_dgH lf) (x_dg4 n xs ys lf sy) n (dgO (x_dg3 xs ys co) 4 (dgO (x_dg2 n xs ys lf hs) 5 (dgF (x_dg1 n t xs ys lf sy fl) 1433 7) n) t) i)), (0, .ref o)]) hx hb dX1_digest_145 hl (by decide) rfl (fun ls hl => ?_)
                          have hL147 : ∀ (k_13 : Nat) (j : Nat), (n - j) < k_13 → (j ≤ n) → (i < j) → ∀ ls : Array Slot, lv_has ls 5 [(4, .int (nI j)), (1, .long (dgI (x_dgH lf) (x_dg4 n xs ys lf sy) i (dgE (x_dgH lf) (x_dg4 n xs ys lf sy) n (dgO (x_dg3 xs ys co) 4 (dgO (x_dg2 n xs ys lf hs) 5 (dgF (x_dg1 n t xs ys lf sy fl) 1433 7) n) t) i) j)), (3, .int (nI i)), (0, .ref o)] → W p l e ({ frames := 6, cells := 0, slots := 0, locals := 147 } : Room) s m ([.ref o] : List Value).toArray below meth c s.heap [] 0 0 (MQ below (vp_Sl (fun r => r = x_digest n t hs xs ys lf sy co fl)) ([.ref o] : List Value).toArray s 0 0 (fun _ => False)) (F0 m 147 ls []) := by
                            intro k_13
                            induction k_13 with
                            | zero => intro j hk; exact absurd hk (Nat.not_lt_zero _)
                            | succ k_13 ih_14 =>
                              intro j hk_147 hi_j hij ls hl
                              refine lv_iload hx hb dX1_digest_147 (lv_at hl 0 rfl) ?_
                              refine lv_aload_n hx hb dX1_digest_149 rfl (lv_at hl 3 rfl) ?_
                              refine va_get (D := (dC, dI)) (ci := 1) (v := .ref h) (C := RX1) (T := TX1) (N := 4) hx hb hts in_X1_digest_X1 hown hK hP 0 rfl rfl 0 (by decide) (hts (.fieldLink RX1 10 "MoorTriangles" "mesh" "LMoorTriangles$Mesh;") fl_X1_digest_10) (fun _ h9 => h9) rfl dX1_digest_150 ?_
                              refine va_get (D := (dC, dI)) (ci := 0) (v := .int (nI n)) (C := RX0) (T := TX0) (N := 7) hx hb hts in_X1_digest_X0 hown hK hP 2 rfl rfl 0 (by decide) (hts (.fieldLink RX1 35 "MoorTriangles$Mesh" "cairns" "I") fl_X1_digest_35) (fun _ h9 => h9) rfl dX1_digest_153 ?_
                              refine lv_icmp_ge (tgt := 245) hx hb dX1_digest_156 (by decide) (fun c_15 => ?_) (fun c_15 => ?_)
                              · have hge_j : n ≤ j := nI_le_le (by omega) (by omega) c_15
                                have heq_j : j = n := by omega
                                have hl : lv_has ls 5 [(4, .int (nI n)), (1, .long (dgI (x_dgH lf) (x_dg4 n xs ys lf sy) i (dgE (x_dgH lf) (x_dg4 n xs ys lf sy) n (dgO (x_dg3 xs ys co) 4 (dgO (x_dg2 n xs ys lf hs) 5 (dgF (x_dg1 n t xs ys lf sy fl) 1433 7) n) t) i) n)), (3, .int (nI i)), (0, .ref o)] := by rw [heq_j] at hl; exact hl
                                refine lv_iinc (v := nI (i + 1)) (lv' := [(3, .int (nI (i + 1))), (4, .int (nI n)), (1, .long (dgI (x_dgH lf) (x_dg4 n xs ys lf sy) i (dgE (x_dgH lf) (x_dg4 n xs ys lf sy) n (dgO (x_dg3 xs ys co) 4 (dgO (x_dg2 n xs ys lf hs) 5 (dgF (x_dg1 n t xs ys lf sy fl) 1433 7) n) t) i) n)), (0, .ref o)]) hx hb dX1_digest_245 hl (k := 2) rfl (nI_1 _) (by decide) rfl (fun ls hl => ?_)
                                refine lv_goto (tgt := 131) hx hb dX1_digest_248 (by decide) ?_
                                have hl := lv_sub (l' := [(3, .int (nI (i + 1))), (1, .long (dgI (x_dgH lf) (x_dg4 n xs ys lf sy) i (dgE (x_dgH lf) (x_dg4 n xs ys lf sy) n (dgO (x_dg3 xs ys co) 4 (dgO (x_dg2 n xs ys lf hs) 5 (dgF (x_dg1 n t xs ys lf sy fl) 1433 7) n) t) i) n)), (0, .ref o)]) hl [0, 2, 3] rfl
                                have hl : lv_has ls 5 [(3, .int (nI (i + 1))), (1, .long (dgE (x_dgH lf) (x_dg4 n xs ys lf sy) n (dgO (x_dg3 xs ys co) 4 (dgO (x_dg2 n xs ys lf hs) 5 (dgF (x_dg1 n t xs ys lf sy fl) 1433 7) n) t) (i + 1))), (0, .ref o)] := by
                                  have e9 : [(3, .int (nI (i + 1))), (1, .long (dgI (x_dgH lf) (x_dg4 n xs ys lf sy) i (dgE (x_dgH lf) (x_dg4 n xs ys lf sy) n (dgO (x_dg3 xs ys co) 4 (dgO (x_dg2 n xs ys lf hs) 5 (dgF (x_dg1 n t xs ys lf sy fl) 1433 7) n) t) i) n)), (0, .ref o)] = ([(3, .int (nI (i + 1))), (1, .long (dgE (x_dgH lf) (x_dg4 n xs ys lf sy) n (dgO (x_dg3 xs ys co) 4 (dgO (x_dg2 n xs ys lf hs) 5 (dgF (x_dg1 n t xs ys lf sy fl) 1433 7) n) t) (i + 1))), (0, .ref o)] : List (Nat × Value)) := by rfl
                                  rw [← e9]; exact hl
                                exact ih_11 (i + 1) (by omega) (by omega) _ hl
                              · have hlt_j : j < n := nI_nle_lt (by omega) (by omega) c_15
                                refine lv_aload_n hx hb dX1_digest_159 rfl (lv_at hl 3 rfl) ?_
                                refine va_get (D := (dC, dI)) (ci := 1) (v := .ref h) (C := RX1) (T := TX1) (N := 4) hx hb hts in_X1_digest_X1 hown hK hP 0 rfl rfl 0 (by decide) (hts (.fieldLink RX1 10 "MoorTriangles" "mesh" "LMoorTriangles$Mesh;") fl_X1_digest_10) (fun _ h9 => h9) rfl dX1_digest_160 ?_
                                refine lv_iload_n hx hb dX1_digest_163 rfl (lv_at hl 2 rfl) ?_
                                refine lv_iload hx hb dX1_digest_164 (lv_at hl 0 rfl) ?_
                                refine rd_cVi (As := [.int (nI i), .int (nI j)]) (rest := []) F (c_X0_isEdge l dC dI cI cZ cY h qx qy ql qs qc n t xs ys lf sy co (nI i) (nI j)) (cwV 2 hts gX1_digest_X0_isEdge rfl rfl rfl hd_X0_isEdge ⟨Nat.le_of_ble_eq_true rfl, Nat.le_of_ble_eq_true rfl⟩) (hP.sub (ws' := wM cI h qx qy ql qs qc n t xs ys lf sy co) [2, 3, 4, 5, 6, 7] rfl) hK (va_recv hK hP (ci := 0) (q0 := 2) rfl rfl) rfl hl.1 rfl (lv_room (Nat.le_of_ble_eq_true rfl)) dX1_digest_166 ⟨Nat.zero_le _, Nat.zero_le _⟩ ?_
                                refine lv_if_eqB (tgt := 239) hx hb dX1_digest_169 (by decide) (fun c_16 => ?_) (fun c_16 => ?_)
                                · refine lv_iinc (v := nI (j + 1)) (lv' := [(4, .int (nI (j + 1))), (1, .long (dgI (x_dgH lf) (x_dg4 n xs ys lf sy) i (dgE (x_dgH lf) (x_dg4 n xs ys lf sy) n (dgO (x_dg3 xs ys co) 4 (dgO (x_dg2 n xs ys lf hs) 5 (dgF (x_dg1 n t xs ys lf sy fl) 1433 7) n) t) i) j)), (3, .int (nI i)), (0, .ref o)]) hx hb dX1_digest_239 hl (k := 0) rfl (nI_1 _) (by decide) rfl (fun ls hl => ?_)
                                  refine lv_goto (tgt := 147) hx hb dX1_digest_242 (by decide) ?_
                                  have hl := lv_sub (l' := [(4, .int (nI (j + 1))), (1, .long (dgI (x_dgH lf) (x_dg4 n xs ys lf sy) i (dgE (x_dgH lf) (x_dg4 n xs ys lf sy) n (dgO (x_dg3 xs ys co) 4 (dgO (x_dg2 n xs ys lf hs) 5 (dgF (x_dg1 n t xs ys lf sy fl) 1433 7) n) t) i) j)), (3, .int (nI i)), (0, .ref o)]) hl [0, 1, 2, 3] rfl
                                  have hl : lv_has ls 5 [(4, .int (nI (j + 1))), (1, .long (dgI (x_dgH lf) (x_dg4 n xs ys lf sy) i (dgE (x_dgH lf) (x_dg4 n xs ys lf sy) n (dgO (x_dg3 xs ys co) 4 (dgO (x_dg2 n xs ys lf hs) 5 (dgF (x_dg1 n t xs ys lf sy fl) 1433 7) n) t) i) (j + 1))), (3, .int (nI i)), (0, .ref o)] := by
                                    have e9 : [(4, .int (nI (j + 1))), (1, .long (dgI (x_dgH lf) (x_dg4 n xs ys lf sy) i (dgE (x_dgH lf) (x_dg4 n xs ys lf sy) n (dgO (x_dg3 xs ys co) 4 (dgO (x_dg2 n xs ys lf hs) 5 (dgF (x_dg1 n t xs ys lf sy fl) 1433 7) n) t) i) j)), (3, .int (nI i)), (0, .ref o)] = ([(4, .int (nI (j + 1))), (1, .long (dgI (x_dgH lf) (x_dg4 n xs ys lf sy) i (dgE (x_dgH lf) (x_dg4 n xs ys lf sy) n (dgO (x_dg3 xs ys co) 4 (dgO (x_dg2 n xs ys lf hs) 5 (dgF (x_dg1 n t xs ys lf sy fl) 1433 7) n) t) i) (j + 1))), (3, .int (nI i)), (0, .ref o)] : List (Nat × Value)) := by rw [dgI_hi hij, if_neg (show ¬ x_dgH lf i j = true from by rw [show x_dgH lf i j = false from c_16]; decide)]; try rfl
                                    rw [← e9]; exact hl
                                  exact ih_14 (j + 1) (by omega) (by omega) (by omega) _ hl
                                · refine lv_lload_n hx hb dX1_digest_172 rfl (lv_at hl 1 rfl) ?_
                                  refine lv_ldc2 hx hb hown (hts _ lc154_X1_digest) dX1_digest_173 ?_
                                  refine lv_lmul hx hb dX1_digest_176 ?_
                                  refine lv_iload_n hx hb dX1_digest_177 rfl (lv_at hl 2 rfl) ?_
                                  refine lv_i2l hx hb dX1_digest_178 rfl ?_
                                  refine lv_ladd hx hb dX1_digest_179 ?_
                                  refine lv_lstore_n (lv' := [(1, .long (((dgI (x_dgH lf) (x_dg4 n xs ys lf sy) i (dgE (x_dgH lf) (x_dg4 n xs ys lf sy) n (dgO (x_dg3 xs ys co) 4 (dgO (x_dg2 n xs ys lf hs) 5 (dgF (x_dg1 n t xs ys lf sy fl) 1433 7) n) t) i) j) * 31) + ((nI i).toInt64))), (4, .int (nI j)), (3, .int (nI i)), (0, .ref o)]) hx hb dX1_digest_180 rfl hl (by decide) rfl (fun ls hl => ?_)
                                  refine lv_lload_n hx hb dX1_digest_181 rfl (lv_at hl 0 rfl) ?_
                                  refine lv_ldc2 hx hb hown (hts _ lc154_X1_digest) dX1_digest_182 ?_
                                  refine lv_lmul hx hb dX1_digest_185 ?_
                                  refine lv_iload hx hb dX1_digest_186 (lv_at hl 1 rfl) ?_
                                  refine lv_i2l hx hb dX1_digest_188 rfl ?_
                                  refine lv_ladd hx hb dX1_digest_189 ?_
                                  refine lv_lstore_n (lv' := [(1, .long (((((dgI (x_dgH lf) (x_dg4 n xs ys lf sy) i (dgE (x_dgH lf) (x_dg4 n xs ys lf sy) n (dgO (x_dg3 xs ys co) 4 (dgO (x_dg2 n xs ys lf hs) 5 (dgF (x_dg1 n t xs ys lf sy fl) 1433 7) n) t) i) j) * 31) + ((nI i).toInt64)) * 31) + ((nI j).toInt64))), (4, .int (nI j)), (3, .int (nI i)), (0, .ref o)]) hx hb dX1_digest_190 rfl hl (by decide) rfl (fun ls hl => ?_)
                                  refine lv_lload_n hx hb dX1_digest_191 rfl (lv_at hl 0 rfl) ?_
                                  refine lv_ldc2 hx hb hown (hts _ lc154_X1_digest) dX1_digest_192 ?_
                                  refine lv_lmul hx hb dX1_digest_195 ?_
                                  refine lv_aload_n hx hb dX1_digest_196 rfl (lv_at hl 3 rfl) ?_
                                  refine lv_iload_n hx hb dX1_digest_197 rfl (lv_at hl 2 rfl) ?_
                                  refine lv_iload hx hb dX1_digest_198 (lv_at hl 1 rfl) ?_
                                  refine lv_iconst (v := 2) hx hb dX1_digest_200 (by decide) ?_
                                  refine rd_cVi (As := [.int (nI i), .int (nI j), .int 2]) (rest := [.long ((((((dgI (x_dgH lf) (x_dg4 n xs ys lf sy) i (dgE (x_dgH lf) (x_dg4 n xs ys lf sy) n (dgO (x_dg3 xs ys co) 4 (dgO (x_dg2 n xs ys lf hs) 5 (dgF (x_dg1 n t xs ys lf sy fl) 1433 7) n) t) i) j) * 31) + ((nI i).toInt64)) * 31) + ((nI j).toInt64)) * 31)]) F (c_X1_edgeFact l dC dI cI cZ cY o qo hs fl h qx qy ql qs qc n t xs ys lf sy co h2 qx2 qy2 ql2 qs2 qc2 n2 t2 xs2 ys2 lf2 sy2 co2 (nI i) (nI j) 2) (cwV 3 hts gX1_digest_X1_edgeFact rfl rfl rfl hd_X1_edgeFact ⟨Nat.le_of_ble_eq_true rfl, Nat.le_of_ble_eq_true rfl⟩) hP hK (va_recv hK hP (ci := 1) (q0 := 0) rfl rfl) rfl hl.1 rfl (lv_room (Nat.le_of_ble_eq_true rfl)) dX1_digest_201 ⟨Nat.zero_le _, Nat.zero_le _⟩ ?_
                                  refine lv_i2l hx hb dX1_digest_204 rfl ?_
                                  refine lv_ladd hx hb dX1_digest_205 ?_
                                  refine lv_lstore_n (lv' := [(1, .long (((((((dgI (x_dgH lf) (x_dg4 n xs ys lf sy) i (dgE (x_dgH lf) (x_dg4 n xs ys lf sy) n (dgO (x_dg3 xs ys co) 4 (dgO (x_dg2 n xs ys lf hs) 5 (dgF (x_dg1 n t xs ys lf sy fl) 1433 7) n) t) i) j) * 31) + ((nI i).toInt64)) * 31) + ((nI j).toInt64)) * 31) + ((x_eFact n xs ys lf sy (nI i) (nI j) 2).toInt64))), (4, .int (nI j)), (3, .int (nI i)), (0, .ref o)]) hx hb dX1_digest_206 rfl hl (by decide) rfl (fun ls hl => ?_)
                                  refine lv_lload_n hx hb dX1_digest_207 rfl (lv_at hl 0 rfl) ?_
                                  refine lv_ldc2 hx hb hown (hts _ lc154_X1_digest) dX1_digest_208 ?_
                                  refine lv_lmul hx hb dX1_digest_211 ?_
                                  refine lv_aload_n hx hb dX1_digest_212 rfl (lv_at hl 3 rfl) ?_
                                  refine lv_iload_n hx hb dX1_digest_213 rfl (lv_at hl 2 rfl) ?_
                                  refine lv_iload hx hb dX1_digest_214 (lv_at hl 1 rfl) ?_
                                  refine lv_iconst (v := 3) hx hb dX1_digest_216 (by decide) ?_
                                  refine rd_cVi (As := [.int (nI i), .int (nI j), .int 3]) (rest := [.long ((((((((dgI (x_dgH lf) (x_dg4 n xs ys lf sy) i (dgE (x_dgH lf) (x_dg4 n xs ys lf sy) n (dgO (x_dg3 xs ys co) 4 (dgO (x_dg2 n xs ys lf hs) 5 (dgF (x_dg1 n t xs ys lf sy fl) 1433 7) n) t) i) j) * 31) + ((nI i).toInt64)) * 31) + ((nI j).toInt64)) * 31) + ((x_eFact n xs ys lf sy (nI i) (nI j) 2).toInt64)) * 31)]) F (c_X1_edgeFact l dC dI cI cZ cY o qo hs fl h qx qy ql qs qc n t xs ys lf sy co h2 qx2 qy2 ql2 qs2 qc2 n2 t2 xs2 ys2 lf2 sy2 co2 (nI i) (nI j) 3) (cwV 3 hts gX1_digest_X1_edgeFact rfl rfl rfl hd_X1_edgeFact ⟨Nat.le_of_ble_eq_true rfl, Nat.le_of_ble_eq_true rfl⟩) hP hK (va_recv hK hP (ci := 1) (q0 := 0) rfl rfl) rfl hl.1 rfl (lv_room (Nat.le_of_ble_eq_true rfl)) dX1_digest_217 ⟨Nat.zero_le _, Nat.zero_le _⟩ ?_
                                  refine lv_i2l hx hb dX1_digest_220 rfl ?_
                                  refine lv_ladd hx hb dX1_digest_221 ?_
                                  refine lv_lstore_n (lv' := [(1, .long (((((((((dgI (x_dgH lf) (x_dg4 n xs ys lf sy) i (dgE (x_dgH lf) (x_dg4 n xs ys lf sy) n (dgO (x_dg3 xs ys co) 4 (dgO (x_dg2 n xs ys lf hs) 5 (dgF (x_dg1 n t xs ys lf sy fl) 1433 7) n) t) i) j) * 31) + ((nI i).toInt64)) * 31) + ((nI j).toInt64)) * 31) + ((x_eFact n xs ys lf sy (nI i) (nI j) 2).toInt64)) * 31) + ((x_eFact n xs ys lf sy (nI i) (nI j) 3).toInt64))), (4, .int (nI j)), (3, .int (nI i)), (0, .ref o)]) hx hb dX1_digest_222 rfl hl (by decide) rfl (fun ls hl => ?_)
                                  refine lv_lload_n hx hb dX1_digest_223 rfl (lv_at hl 0 rfl) ?_
                                  refine lv_ldc2 hx hb hown (hts _ lc154_X1_digest) dX1_digest_224 ?_
                                  refine lv_lmul hx hb dX1_digest_227 ?_
                                  refine lv_aload_n hx hb dX1_digest_228 rfl (lv_at hl 3 rfl) ?_
                                  refine lv_iload_n hx hb dX1_digest_229 rfl (lv_at hl 2 rfl) ?_
                                  refine lv_iload hx hb dX1_digest_230 (lv_at hl 1 rfl) ?_
                                  refine lv_iconst (v := 4) hx hb dX1_digest_232 (by decide) ?_
                                  refine rd_cVi (As := [.int (nI i), .int (nI j), .int 4]) (rest := [.long ((((((((((dgI (x_dgH lf) (x_dg4 n xs ys lf sy) i (dgE (x_dgH lf) (x_dg4 n xs ys lf sy) n (dgO (x_dg3 xs ys co) 4 (dgO (x_dg2 n xs ys lf hs) 5 (dgF (x_dg1 n t xs ys lf sy fl) 1433 7) n) t) i) j) * 31) + ((nI i).toInt64)) * 31) + ((nI j).toInt64)) * 31) + ((x_eFact n xs ys lf sy (nI i) (nI j) 2).toInt64)) * 31) + ((x_eFact n xs ys lf sy (nI i) (nI j) 3).toInt64)) * 31)]) F (c_X1_edgeFact l dC dI cI cZ cY o qo hs fl h qx qy ql qs qc n t xs ys lf sy co h2 qx2 qy2 ql2 qs2 qc2 n2 t2 xs2 ys2 lf2 sy2 co2 (nI i) (nI j) 4) (cwV 3 hts gX1_digest_X1_edgeFact rfl rfl rfl hd_X1_edgeFact ⟨Nat.le_of_ble_eq_true rfl, Nat.le_of_ble_eq_true rfl⟩) hP hK (va_recv hK hP (ci := 1) (q0 := 0) rfl rfl) rfl hl.1 rfl (lv_room (Nat.le_of_ble_eq_true rfl)) dX1_digest_233 ⟨Nat.zero_le _, Nat.zero_le _⟩ ?_
                                  refine lv_i2l hx hb dX1_digest_236 rfl ?_
                                  refine lv_ladd hx hb dX1_digest_237 ?_
                                  refine lv_lstore_n (lv' := [(1, .long (((((((((((dgI (x_dgH lf) (x_dg4 n xs ys lf sy) i (dgE (x_dgH lf) (x_dg4 n xs ys lf sy) n (dgO (x_dg3 xs ys co) 4 (dgO (x_dg2 n xs ys lf hs) 5 (dgF (x_dg1 n t xs ys lf sy fl) 1433 7) n) t) i) j) * 31) + ((nI i).toInt64)) * 31) + ((nI j).toInt64)) * 31) + ((x_eFact n xs ys lf sy (nI i) (nI j) 2).toInt64)) * 31) + ((x_eFact n xs ys lf sy (nI i) (nI j) 3).toInt64)) * 31) + ((x_eFact n xs ys lf sy (nI i) (nI j) 4).toInt64))), (4, .int (nI j)), (3, .int (nI i)), (0, .ref o)]) hx hb dX1_digest_238 rfl hl (by decide) rfl (fun ls hl => ?_)
                                  refine lv_iinc (v := nI (j + 1)) (lv' := [(4, .int (nI (j + 1))), (1, .long (((((((((((dgI (x_dgH lf) (x_dg4 n xs ys lf sy) i (dgE (x_dgH lf) (x_dg4 n xs ys lf sy) n (dgO (x_dg3 xs ys co) 4 (dgO (x_dg2 n xs ys lf hs) 5 (dgF (x_dg1 n t xs ys lf sy fl) 1433 7) n) t) i) j) * 31) + ((nI i).toInt64)) * 31) + ((nI j).toInt64)) * 31) + ((x_eFact n xs ys lf sy (nI i) (nI j) 2).toInt64)) * 31) + ((x_eFact n xs ys lf sy (nI i) (nI j) 3).toInt64)) * 31) + ((x_eFact n xs ys lf sy (nI i) (nI j) 4).toInt64))), (3, .int (nI i)), (0, .ref o)]) hx hb dX1_digest_239 hl (k := 1) rfl (nI_1 _) (by decide) rfl (fun ls hl => ?_)
                                  refine lv_goto (tgt := 147) hx hb dX1_digest_242 (by decide) ?_
                                  have hl := lv_sub (l' := [(4, .int (nI (j + 1))), (1, .long (((((((((((dgI (x_dgH lf) (x_dg4 n xs ys lf sy) i (dgE (x_dgH lf) (x_dg4 n xs ys lf sy) n (dgO (x_dg3 xs ys co) 4 (dgO (x_dg2 n xs ys lf hs) 5 (dgF (x_dg1 n t xs ys lf sy fl) 1433 7) n) t) i) j) * 31) + ((nI i).toInt64)) * 31) + ((nI j).toInt64)) * 31) + ((x_eFact n xs ys lf sy (nI i) (nI j) 2).toInt64)) * 31) + ((x_eFact n xs ys lf sy (nI i) (nI j) 3).toInt64)) * 31) + ((x_eFact n xs ys lf sy (nI i) (nI j) 4).toInt64))), (3, .int (nI i)), (0, .ref o)]) hl [0, 1, 2, 3] rfl
                                  have hl : lv_has ls 5 [(4, .int (nI (j + 1))), (1, .long (dgI (x_dgH lf) (x_dg4 n xs ys lf sy) i (dgE (x_dgH lf) (x_dg4 n xs ys lf sy) n (dgO (x_dg3 xs ys co) 4 (dgO (x_dg2 n xs ys lf hs) 5 (dgF (x_dg1 n t xs ys lf sy fl) 1433 7) n) t) i) (j + 1))), (3, .int (nI i)), (0, .ref o)] := by
                                    have e9 : [(4, .int (nI (j + 1))), (1, .long (((((((((((dgI (x_dgH lf) (x_dg4 n xs ys lf sy) i (dgE (x_dgH lf) (x_dg4 n xs ys lf sy) n (dgO (x_dg3 xs ys co) 4 (dgO (x_dg2 n xs ys lf hs) 5 (dgF (x_dg1 n t xs ys lf sy fl) 1433 7) n) t) i) j) * 31) + ((nI i).toInt64)) * 31) + ((nI j).toInt64)) * 31) + ((x_eFact n xs ys lf sy (nI i) (nI j) 2).toInt64)) * 31) + ((x_eFact n xs ys lf sy (nI i) (nI j) 3).toInt64)) * 31) + ((x_eFact n xs ys lf sy (nI i) (nI j) 4).toInt64))), (3, .int (nI i)), (0, .ref o)] = ([(4, .int (nI (j + 1))), (1, .long (dgI (x_dgH lf) (x_dg4 n xs ys lf sy) i (dgE (x_dgH lf) (x_dg4 n xs ys lf sy) n (dgO (x_dg3 xs ys co) 4 (dgO (x_dg2 n xs ys lf hs) 5 (dgF (x_dg1 n t xs ys lf sy fl) 1433 7) n) t) i) (j + 1))), (3, .int (nI i)), (0, .ref o)] : List (Nat × Value)) := by rw [dgI_hi hij, if_pos (show x_dgH lf i j = true from c_16), dgF3]; rfl
                                    rw [← e9]; exact hl
                                  exact ih_14 (j + 1) (by omega) (by omega) (by omega) _ hl
                          have hl := lv_sub (l' := [(4, .int ((nI i) + 1)), (1, .long (dgE (x_dgH lf) (x_dg4 n xs ys lf sy) n (dgO (x_dg3 xs ys co) 4 (dgO (x_dg2 n xs ys lf hs) 5 (dgF (x_dg1 n t xs ys lf sy fl) 1433 7) n) t) i)), (3, .int (nI i)), (0, .ref o)]) hl [0, 2, 1, 3] rfl
                          have hl : lv_has ls 5 [(4, .int (nI (i + 1))), (1, .long (dgI (x_dgH lf) (x_dg4 n xs ys lf sy) i (dgE (x_dgH lf) (x_dg4 n xs ys lf sy) n (dgO (x_dg3 xs ys co) 4 (dgO (x_dg2 n xs ys lf hs) 5 (dgF (x_dg1 n t xs ys lf sy fl) 1433 7) n) t) i) (i + 1))), (3, .int (nI i)), (0, .ref o)] := by
                            have e9 : [(4, .int ((nI i) + 1)), (1, .long (dgE (x_dgH lf) (x_dg4 n xs ys lf sy) n (dgO (x_dg3 xs ys co) 4 (dgO (x_dg2 n xs ys lf hs) 5 (dgF (x_dg1 n t xs ys lf sy fl) 1433 7) n) t) i)), (3, .int (nI i)), (0, .ref o)] = ([(4, .int (nI (i + 1))), (1, .long (dgI (x_dgH lf) (x_dg4 n xs ys lf sy) i (dgE (x_dgH lf) (x_dg4 n xs ys lf sy) n (dgO (x_dg3 xs ys co) 4 (dgO (x_dg2 n xs ys lf hs) 5 (dgF (x_dg1 n t xs ys lf sy fl) 1433 7) n) t) i) (i + 1))), (3, .int (nI i)), (0, .ref o)] : List (Nat × Value)) := by rw [dgI_lo (Nat.le_refl _), nI_1]; try rfl
                            rw [← e9]; exact hl
                          exact hL147 _ (i + 1) (Nat.lt_succ_self _) (by omega) (by omega) _ hl
                    have hl := lv_sub (l' := [(3, .int 0), (1, .long (dgO (x_dg3 xs ys co) 4 (dgO (x_dg2 n xs ys lf hs) 5 (dgF (x_dg1 n t xs ys lf sy fl) 1433 7) n) t)), (0, .ref o)]) hl [0, 1, 2] rfl
                    have hl : lv_has ls 5 [(3, .int (nI 0)), (1, .long (dgE (x_dgH lf) (x_dg4 n xs ys lf sy) n (dgO (x_dg3 xs ys co) 4 (dgO (x_dg2 n xs ys lf hs) 5 (dgF (x_dg1 n t xs ys lf sy fl) 1433 7) n) t) 0)), (0, .ref o)] := by
                      have e9 : [(3, .int 0), (1, .long (dgO (x_dg3 xs ys co) 4 (dgO (x_dg2 n xs ys lf hs) 5 (dgF (x_dg1 n t xs ys lf sy fl) 1433 7) n) t)), (0, .ref o)] = ([(3, .int (nI 0)), (1, .long (dgE (x_dgH lf) (x_dg4 n xs ys lf sy) n (dgO (x_dg3 xs ys co) 4 (dgO (x_dg2 n xs ys lf hs) 5 (dgF (x_dg1 n t xs ys lf sy fl) 1433 7) n) t) 0)), (0, .ref o)] : List (Nat × Value)) := by rfl
                      rw [← e9]; exact hl
                    exact hL131 _ 0 (Nat.lt_succ_self _) (by omega) _ hl
                  · have hlt_i : i < t := nI_nle_lt (by omega) (by omega) c_9
                    refine lv_iconst (v := 0) hx hb dX1_digest_93 (by decide) ?_
                    refine lv_istore (lv' := [(4, .int 0), (3, .int (nI i)), (1, .long (dgO (x_dg3 xs ys co) 4 (dgO (x_dg2 n xs ys lf hs) 5 (dgF (x_dg1 n t xs ys lf sy fl) 1433 7) n) i)), (0, .ref o)]) hx hb dX1_digest_94 hl (by decide) rfl (fun ls hl => ?_)
                    have hL96 : ∀ (k_17 : Nat) (j : Nat), (4 - j) < k_17 → (j ≤ 4) → ∀ ls : Array Slot, lv_has ls 5 [(4, .int (nI j)), (1, .long (dgF (x_dg3 xs ys co i) (dgO (x_dg3 xs ys co) 4 (dgO (x_dg2 n xs ys lf hs) 5 (dgF (x_dg1 n t xs ys lf sy fl) 1433 7) n) i) j)), (3, .int (nI i)), (0, .ref o)] → W p l e ({ frames := 6, cells := 0, slots := 0, locals := 147 } : Room) s m ([.ref o] : List Value).toArray below meth c s.heap [] 0 0 (MQ below (vp_Sl (fun r => r = x_digest n t hs xs ys lf sy co fl)) ([.ref o] : List Value).toArray s 0 0 (fun _ => False)) (F0 m 96 ls []) := by
                      intro k_17
                      induction k_17 with
                      | zero => intro j hk; exact absurd hk (Nat.not_lt_zero _)
                      | succ k_17 ih_18 =>
                        intro j hk_96 hi_j ls hl
                        refine lv_iload hx hb dX1_digest_96 (lv_at hl 0 rfl) ?_
                        refine lv_iconst (v := 4) hx hb dX1_digest_98 (by decide) ?_
                        refine lv_icmp_ge (tgt := 123) hx hb dX1_digest_99 (by decide) (fun c_19 => ?_) (fun c_19 => ?_)
                        · have hge_j : 4 ≤ j := nI_le_le (by omega) (by omega) c_19
                          have heq_j : j = 4 := by omega
                          have hl : lv_has ls 5 [(4, .int (nI 4)), (1, .long (dgF (x_dg3 xs ys co i) (dgO (x_dg3 xs ys co) 4 (dgO (x_dg2 n xs ys lf hs) 5 (dgF (x_dg1 n t xs ys lf sy fl) 1433 7) n) i) 4)), (3, .int (nI i)), (0, .ref o)] := by rw [heq_j] at hl; exact hl
                          refine lv_iinc (v := nI (i + 1)) (lv' := [(3, .int (nI (i + 1))), (4, .int (nI 4)), (1, .long (dgF (x_dg3 xs ys co i) (dgO (x_dg3 xs ys co) 4 (dgO (x_dg2 n xs ys lf hs) 5 (dgF (x_dg1 n t xs ys lf sy fl) 1433 7) n) i) 4)), (0, .ref o)]) hx hb dX1_digest_123 hl (k := 2) rfl (nI_1 _) (by decide) rfl (fun ls hl => ?_)
                          refine lv_goto (tgt := 82) hx hb dX1_digest_126 (by decide) ?_
                          have hl := lv_sub (l' := [(3, .int (nI (i + 1))), (1, .long (dgF (x_dg3 xs ys co i) (dgO (x_dg3 xs ys co) 4 (dgO (x_dg2 n xs ys lf hs) 5 (dgF (x_dg1 n t xs ys lf sy fl) 1433 7) n) i) 4)), (0, .ref o)]) hl [0, 2, 3] rfl
                          have hl : lv_has ls 5 [(3, .int (nI (i + 1))), (1, .long (dgO (x_dg3 xs ys co) 4 (dgO (x_dg2 n xs ys lf hs) 5 (dgF (x_dg1 n t xs ys lf sy fl) 1433 7) n) (i + 1))), (0, .ref o)] := by
                            have e9 : [(3, .int (nI (i + 1))), (1, .long (dgF (x_dg3 xs ys co i) (dgO (x_dg3 xs ys co) 4 (dgO (x_dg2 n xs ys lf hs) 5 (dgF (x_dg1 n t xs ys lf sy fl) 1433 7) n) i) 4)), (0, .ref o)] = ([(3, .int (nI (i + 1))), (1, .long (dgO (x_dg3 xs ys co) 4 (dgO (x_dg2 n xs ys lf hs) 5 (dgF (x_dg1 n t xs ys lf sy fl) 1433 7) n) (i + 1))), (0, .ref o)] : List (Nat × Value)) := by rfl
                            rw [← e9]; exact hl
                          exact ih_8 (i + 1) (by omega) (by omega) _ hl
                        · have hlt_j : j < 4 := nI_nle_lt (by omega) (by omega) c_19
                          refine lv_lload_n hx hb dX1_digest_102 rfl (lv_at hl 1 rfl) ?_
                          refine lv_ldc2 hx hb hown (hts _ lc154_X1_digest) dX1_digest_103 ?_
                          refine lv_lmul hx hb dX1_digest_106 ?_
                          refine lv_aload_n hx hb dX1_digest_107 rfl (lv_at hl 3 rfl) ?_
                          refine lv_iload_n hx hb dX1_digest_108 rfl (lv_at hl 2 rfl) ?_
                          refine lv_iload hx hb dX1_digest_109 (lv_at hl 0 rfl) ?_
                          refine rd_cVi (As := [.int (nI i), .int (nI j)]) (rest := [.long ((dgF (x_dg3 xs ys co i) (dgO (x_dg3 xs ys co) 4 (dgO (x_dg2 n xs ys lf hs) 5 (dgF (x_dg1 n t xs ys lf sy fl) 1433 7) n) i) j) * 31)]) F (c_X1_triangleFact l dC dI cI cZ cY o qo hs fl h qx qy ql qs qc n t xs ys lf sy co h2 qx2 qy2 ql2 qs2 qc2 n2 t2 xs2 ys2 lf2 sy2 co2 (nI i) (nI j)) (cwV 2 hts gX1_digest_X1_triangleFact rfl rfl rfl hd_X1_triangleFact ⟨Nat.le_of_ble_eq_true rfl, Nat.le_of_ble_eq_true rfl⟩) hP hK (va_recv hK hP (ci := 1) (q0 := 0) rfl rfl) rfl hl.1 rfl (lv_room (Nat.le_of_ble_eq_true rfl)) dX1_digest_111 ⟨Nat.zero_le _, Nat.zero_le _⟩ ?_
                          refine lv_i2l hx hb dX1_digest_114 rfl ?_
                          refine lv_ladd hx hb dX1_digest_115 ?_
                          refine lv_lstore_n (lv' := [(1, .long (((dgF (x_dg3 xs ys co i) (dgO (x_dg3 xs ys co) 4 (dgO (x_dg2 n xs ys lf hs) 5 (dgF (x_dg1 n t xs ys lf sy fl) 1433 7) n) i) j) * 31) + ((x_tFact xs ys co (nI i) (nI j)).toInt64))), (4, .int (nI j)), (3, .int (nI i)), (0, .ref o)]) hx hb dX1_digest_116 rfl hl (by decide) rfl (fun ls hl => ?_)
                          refine lv_iinc (v := nI (j + 1)) (lv' := [(4, .int (nI (j + 1))), (1, .long (((dgF (x_dg3 xs ys co i) (dgO (x_dg3 xs ys co) 4 (dgO (x_dg2 n xs ys lf hs) 5 (dgF (x_dg1 n t xs ys lf sy fl) 1433 7) n) i) j) * 31) + ((x_tFact xs ys co (nI i) (nI j)).toInt64))), (3, .int (nI i)), (0, .ref o)]) hx hb dX1_digest_117 hl (k := 1) rfl (nI_1 _) (by decide) rfl (fun ls hl => ?_)
                          refine lv_goto (tgt := 96) hx hb dX1_digest_120 (by decide) ?_
                          have hl := lv_sub (l' := [(4, .int (nI (j + 1))), (1, .long (((dgF (x_dg3 xs ys co i) (dgO (x_dg3 xs ys co) 4 (dgO (x_dg2 n xs ys lf hs) 5 (dgF (x_dg1 n t xs ys lf sy fl) 1433 7) n) i) j) * 31) + ((x_tFact xs ys co (nI i) (nI j)).toInt64))), (3, .int (nI i)), (0, .ref o)]) hl [0, 1, 2, 3] rfl
                          have hl : lv_has ls 5 [(4, .int (nI (j + 1))), (1, .long (dgF (x_dg3 xs ys co i) (dgO (x_dg3 xs ys co) 4 (dgO (x_dg2 n xs ys lf hs) 5 (dgF (x_dg1 n t xs ys lf sy fl) 1433 7) n) i) (j + 1))), (3, .int (nI i)), (0, .ref o)] := by
                            have e9 : [(4, .int (nI (j + 1))), (1, .long (((dgF (x_dg3 xs ys co i) (dgO (x_dg3 xs ys co) 4 (dgO (x_dg2 n xs ys lf hs) 5 (dgF (x_dg1 n t xs ys lf sy fl) 1433 7) n) i) j) * 31) + ((x_tFact xs ys co (nI i) (nI j)).toInt64))), (3, .int (nI i)), (0, .ref o)] = ([(4, .int (nI (j + 1))), (1, .long (dgF (x_dg3 xs ys co i) (dgO (x_dg3 xs ys co) 4 (dgO (x_dg2 n xs ys lf hs) 5 (dgF (x_dg1 n t xs ys lf sy fl) 1433 7) n) i) (j + 1))), (3, .int (nI i)), (0, .ref o)] : List (Nat × Value)) := by rfl
                            rw [← e9]; exact hl
                          exact ih_18 (j + 1) (by omega) (by omega) _ hl
                    have hl := lv_sub (l' := [(4, .int 0), (1, .long (dgO (x_dg3 xs ys co) 4 (dgO (x_dg2 n xs ys lf hs) 5 (dgF (x_dg1 n t xs ys lf sy fl) 1433 7) n) i)), (3, .int (nI i)), (0, .ref o)]) hl [0, 2, 1, 3] rfl
                    have hl : lv_has ls 5 [(4, .int (nI 0)), (1, .long (dgF (x_dg3 xs ys co i) (dgO (x_dg3 xs ys co) 4 (dgO (x_dg2 n xs ys lf hs) 5 (dgF (x_dg1 n t xs ys lf sy fl) 1433 7) n) i) 0)), (3, .int (nI i)), (0, .ref o)] := by
                      have e9 : [(4, .int 0), (1, .long (dgO (x_dg3 xs ys co) 4 (dgO (x_dg2 n xs ys lf hs) 5 (dgF (x_dg1 n t xs ys lf sy fl) 1433 7) n) i)), (3, .int (nI i)), (0, .ref o)] = ([(4, .int (nI 0)), (1, .long (dgF (x_dg3 xs ys co i) (dgO (x_dg3 xs ys co) 4 (dgO (x_dg2 n xs ys lf hs) 5 (dgF (x_dg1 n t xs ys lf sy fl) 1433 7) n) i) 0)), (3, .int (nI i)), (0, .ref o)] : List (Nat × Value)) := by rfl
                      rw [← e9]; exact hl
                    exact hL96 _ 0 (Nat.lt_succ_self _) (by omega) _ hl
              have hl := lv_sub (l' := [(3, .int 0), (1, .long (dgO (x_dg2 n xs ys lf hs) 5 (dgF (x_dg1 n t xs ys lf sy fl) 1433 7) n)), (0, .ref o)]) hl [0, 1, 2] rfl
              have hl : lv_has ls 5 [(3, .int (nI 0)), (1, .long (dgO (x_dg3 xs ys co) 4 (dgO (x_dg2 n xs ys lf hs) 5 (dgF (x_dg1 n t xs ys lf sy fl) 1433 7) n) 0)), (0, .ref o)] := by
                have e9 : [(3, .int 0), (1, .long (dgO (x_dg2 n xs ys lf hs) 5 (dgF (x_dg1 n t xs ys lf sy fl) 1433 7) n)), (0, .ref o)] = ([(3, .int (nI 0)), (1, .long (dgO (x_dg3 xs ys co) 4 (dgO (x_dg2 n xs ys lf hs) 5 (dgF (x_dg1 n t xs ys lf sy fl) 1433 7) n) 0)), (0, .ref o)] : List (Nat × Value)) := by rfl
                rw [← e9]; exact hl
              exact hL82 _ 0 (Nat.lt_succ_self _) (by omega) _ hl
            · have hlt_i : i < n := nI_nle_lt (by omega) (by omega) c_6
              refine lv_iconst (v := 0) hx hb dX1_digest_44 (by decide) ?_
              refine lv_istore (lv' := [(4, .int 0), (3, .int (nI i)), (1, .long (dgO (x_dg2 n xs ys lf hs) 5 (dgF (x_dg1 n t xs ys lf sy fl) 1433 7) i)), (0, .ref o)]) hx hb dX1_digest_45 hl (by decide) rfl (fun ls hl => ?_)
              have hL47 : ∀ (k_20 : Nat) (j : Nat), (5 - j) < k_20 → (j ≤ 5) → ∀ ls : Array Slot, lv_has ls 5 [(4, .int (nI j)), (1, .long (dgF (x_dg2 n xs ys lf hs i) (dgO (x_dg2 n xs ys lf hs) 5 (dgF (x_dg1 n t xs ys lf sy fl) 1433 7) i) j)), (3, .int (nI i)), (0, .ref o)] → W p l e ({ frames := 6, cells := 0, slots := 0, locals := 147 } : Room) s m ([.ref o] : List Value).toArray below meth c s.heap [] 0 0 (MQ below (vp_Sl (fun r => r = x_digest n t hs xs ys lf sy co fl)) ([.ref o] : List Value).toArray s 0 0 (fun _ => False)) (F0 m 47 ls []) := by
                intro k_20
                induction k_20 with
                | zero => intro j hk; exact absurd hk (Nat.not_lt_zero _)
                | succ k_20 ih_21 =>
                  intro j hk_47 hi_j ls hl
                  refine lv_iload hx hb dX1_digest_47 (lv_at hl 0 rfl) ?_
                  refine lv_iconst (v := 5) hx hb dX1_digest_49 (by decide) ?_
                  refine lv_icmp_ge (tgt := 74) hx hb dX1_digest_50 (by decide) (fun c_22 => ?_) (fun c_22 => ?_)
                  · have hge_j : 5 ≤ j := nI_le_le (by omega) (by omega) c_22
                    have heq_j : j = 5 := by omega
                    have hl : lv_has ls 5 [(4, .int (nI 5)), (1, .long (dgF (x_dg2 n xs ys lf hs i) (dgO (x_dg2 n xs ys lf hs) 5 (dgF (x_dg1 n t xs ys lf sy fl) 1433 7) i) 5)), (3, .int (nI i)), (0, .ref o)] := by rw [heq_j] at hl; exact hl
                    refine lv_iinc (v := nI (i + 1)) (lv' := [(3, .int (nI (i + 1))), (4, .int (nI 5)), (1, .long (dgF (x_dg2 n xs ys lf hs i) (dgO (x_dg2 n xs ys lf hs) 5 (dgF (x_dg1 n t xs ys lf sy fl) 1433 7) i) 5)), (0, .ref o)]) hx hb dX1_digest_74 hl (k := 2) rfl (nI_1 _) (by decide) rfl (fun ls hl => ?_)
                    refine lv_goto (tgt := 33) hx hb dX1_digest_77 (by decide) ?_
                    have hl := lv_sub (l' := [(3, .int (nI (i + 1))), (1, .long (dgF (x_dg2 n xs ys lf hs i) (dgO (x_dg2 n xs ys lf hs) 5 (dgF (x_dg1 n t xs ys lf sy fl) 1433 7) i) 5)), (0, .ref o)]) hl [0, 2, 3] rfl
                    have hl : lv_has ls 5 [(3, .int (nI (i + 1))), (1, .long (dgO (x_dg2 n xs ys lf hs) 5 (dgF (x_dg1 n t xs ys lf sy fl) 1433 7) (i + 1))), (0, .ref o)] := by
                      have e9 : [(3, .int (nI (i + 1))), (1, .long (dgF (x_dg2 n xs ys lf hs i) (dgO (x_dg2 n xs ys lf hs) 5 (dgF (x_dg1 n t xs ys lf sy fl) 1433 7) i) 5)), (0, .ref o)] = ([(3, .int (nI (i + 1))), (1, .long (dgO (x_dg2 n xs ys lf hs) 5 (dgF (x_dg1 n t xs ys lf sy fl) 1433 7) (i + 1))), (0, .ref o)] : List (Nat × Value)) := by rfl
                      rw [← e9]; exact hl
                    exact ih_5 (i + 1) (by omega) (by omega) _ hl
                  · have hlt_j : j < 5 := nI_nle_lt (by omega) (by omega) c_22
                    refine lv_lload_n hx hb dX1_digest_53 rfl (lv_at hl 1 rfl) ?_
                    refine lv_ldc2 hx hb hown (hts _ lc154_X1_digest) dX1_digest_54 ?_
                    refine lv_lmul hx hb dX1_digest_57 ?_
                    refine lv_aload_n hx hb dX1_digest_58 rfl (lv_at hl 3 rfl) ?_
                    refine lv_iload_n hx hb dX1_digest_59 rfl (lv_at hl 2 rfl) ?_
                    refine lv_iload hx hb dX1_digest_60 (lv_at hl 0 rfl) ?_
                    refine rd_cVi (As := [.int (nI i), .int (nI j)]) (rest := [.long ((dgF (x_dg2 n xs ys lf hs i) (dgO (x_dg2 n xs ys lf hs) 5 (dgF (x_dg1 n t xs ys lf sy fl) 1433 7) i) j) * 31)]) F (c_X1_cairnFact l dC dI cI cZ cY o qo hs fl h qx qy ql qs qc n t xs ys lf sy co h2 qx2 qy2 ql2 qs2 qc2 n2 t2 xs2 ys2 lf2 sy2 co2 (nI i) (nI j) hn) (cwV 2 hts gX1_digest_X1_cairnFact rfl rfl rfl hd_X1_cairnFact ⟨Nat.le_of_ble_eq_true rfl, Nat.le_of_ble_eq_true rfl⟩) hP hK (va_recv hK hP (ci := 1) (q0 := 0) rfl rfl) rfl hl.1 rfl (lv_room (Nat.le_of_ble_eq_true rfl)) dX1_digest_62 ⟨Nat.zero_le _, Nat.zero_le _⟩ ?_
                    refine lv_i2l hx hb dX1_digest_65 rfl ?_
                    refine lv_ladd hx hb dX1_digest_66 ?_
                    refine lv_lstore_n (lv' := [(1, .long (((dgF (x_dg2 n xs ys lf hs i) (dgO (x_dg2 n xs ys lf hs) 5 (dgF (x_dg1 n t xs ys lf sy fl) 1433 7) i) j) * 31) + ((x_cFact n xs ys lf hs (nI i) (nI j)).toInt64))), (4, .int (nI j)), (3, .int (nI i)), (0, .ref o)]) hx hb dX1_digest_67 rfl hl (by decide) rfl (fun ls hl => ?_)
                    refine lv_iinc (v := nI (j + 1)) (lv' := [(4, .int (nI (j + 1))), (1, .long (((dgF (x_dg2 n xs ys lf hs i) (dgO (x_dg2 n xs ys lf hs) 5 (dgF (x_dg1 n t xs ys lf sy fl) 1433 7) i) j) * 31) + ((x_cFact n xs ys lf hs (nI i) (nI j)).toInt64))), (3, .int (nI i)), (0, .ref o)]) hx hb dX1_digest_68 hl (k := 1) rfl (nI_1 _) (by decide) rfl (fun ls hl => ?_)
                    refine lv_goto (tgt := 47) hx hb dX1_digest_71 (by decide) ?_
                    have hl := lv_sub (l' := [(4, .int (nI (j + 1))), (1, .long (((dgF (x_dg2 n xs ys lf hs i) (dgO (x_dg2 n xs ys lf hs) 5 (dgF (x_dg1 n t xs ys lf sy fl) 1433 7) i) j) * 31) + ((x_cFact n xs ys lf hs (nI i) (nI j)).toInt64))), (3, .int (nI i)), (0, .ref o)]) hl [0, 1, 2, 3] rfl
                    have hl : lv_has ls 5 [(4, .int (nI (j + 1))), (1, .long (dgF (x_dg2 n xs ys lf hs i) (dgO (x_dg2 n xs ys lf hs) 5 (dgF (x_dg1 n t xs ys lf sy fl) 1433 7) i) (j + 1))), (3, .int (nI i)), (0, .ref o)] := by
                      have e9 : [(4, .int (nI (j + 1))), (1, .long (((dgF (x_dg2 n xs ys lf hs i) (dgO (x_dg2 n xs ys lf hs) 5 (dgF (x_dg1 n t xs ys lf sy fl) 1433 7) i) j) * 31) + ((x_cFact n xs ys lf hs (nI i) (nI j)).toInt64))), (3, .int (nI i)), (0, .ref o)] = ([(4, .int (nI (j + 1))), (1, .long (dgF (x_dg2 n xs ys lf hs i) (dgO (x_dg2 n xs ys lf hs) 5 (dgF (x_dg1 n t xs ys lf sy fl) 1433 7) i) (j + 1))), (3, .int (nI i)), (0, .ref o)] : List (Nat × Value)) := by rfl
                      rw [← e9]; exact hl
                    exact ih_21 (j + 1) (by omega) (by omega) _ hl
              have hl := lv_sub (l' := [(4, .int 0), (1, .long (dgO (x_dg2 n xs ys lf hs) 5 (dgF (x_dg1 n t xs ys lf sy fl) 1433 7) i)), (3, .int (nI i)), (0, .ref o)]) hl [0, 2, 1, 3] rfl
              have hl : lv_has ls 5 [(4, .int (nI 0)), (1, .long (dgF (x_dg2 n xs ys lf hs i) (dgO (x_dg2 n xs ys lf hs) 5 (dgF (x_dg1 n t xs ys lf sy fl) 1433 7) i) 0)), (3, .int (nI i)), (0, .ref o)] := by
                have e9 : [(4, .int 0), (1, .long (dgO (x_dg2 n xs ys lf hs) 5 (dgF (x_dg1 n t xs ys lf sy fl) 1433 7) i)), (3, .int (nI i)), (0, .ref o)] = ([(4, .int (nI 0)), (1, .long (dgF (x_dg2 n xs ys lf hs i) (dgO (x_dg2 n xs ys lf hs) 5 (dgF (x_dg1 n t xs ys lf sy fl) 1433 7) i) 0)), (3, .int (nI i)), (0, .ref o)] : List (Nat × Value)) := by rfl
                rw [← e9]; exact hl
              exact hL47 _ 0 (Nat.lt_succ_self _) (by omega) _ hl
        have hl := lv_sub (l' := [(3, .int 0), (1, .long (dgF (x_dg1 n t xs ys lf sy fl) 1433 7)), (0, .ref o)]) hl [0, 1, 2] rfl
        have hl : lv_has ls 5 [(3, .int (nI 0)), (1, .long (dgO (x_dg2 n xs ys lf hs) 5 (dgF (x_dg1 n t xs ys lf sy fl) 1433 7) 0)), (0, .ref o)] := by
          have e9 : [(3, .int 0), (1, .long (dgF (x_dg1 n t xs ys lf sy fl) 1433 7)), (0, .ref o)] = ([(3, .int (nI 0)), (1, .long (dgO (x_dg2 n xs ys lf hs) 5 (dgF (x_dg1 n t xs ys lf sy fl) 1433 7) 0)), (0, .ref o)] : List (Nat × Value)) := by rfl
          rw [← e9]; exact hl
        exact hL33 _ 0 (Nat.lt_succ_self _) (by omega) _ hl
      · have hlt_i : i < 7 := nI_nle_lt (by omega) (by omega) c_3
        refine lv_lload_n hx hb dX1_digest_12 rfl (lv_at hl 1 rfl) ?_
        refine lv_ldc2 hx hb hown (hts _ lc154_X1_digest) dX1_digest_13 ?_
        refine lv_lmul hx hb dX1_digest_16 ?_
        refine lv_aload_n hx hb dX1_digest_17 rfl (lv_at hl 2 rfl) ?_
        refine lv_iload_n hx hb dX1_digest_18 rfl (lv_at hl 0 rfl) ?_
        refine rd_cVi (As := [.int (nI i)]) (rest := [.long ((dgF (x_dg1 n t xs ys lf sy fl) 1433 i) * 31)]) F (c_X1_countOf l dC dI cI cZ cY o qo hs fl h qx qy ql qs qc n t xs ys lf sy co h2 qx2 qy2 ql2 qs2 qc2 n2 t2 xs2 ys2 lf2 sy2 co2 (nI i) hn) (cwV 1 hts gX1_digest_X1_countOf rfl rfl rfl hd_X1_countOf ⟨Nat.le_of_ble_eq_true rfl, Nat.le_of_ble_eq_true rfl⟩) hP hK (va_recv hK hP (ci := 1) (q0 := 0) rfl rfl) rfl hl.1 rfl (lv_room (Nat.le_of_ble_eq_true rfl)) dX1_digest_19 ⟨Nat.zero_le _, Nat.zero_le _⟩ ?_
        refine lv_i2l hx hb dX1_digest_22 rfl ?_
        refine lv_ladd hx hb dX1_digest_23 ?_
        refine lv_lstore_n (lv' := [(1, .long (((dgF (x_dg1 n t xs ys lf sy fl) 1433 i) * 31) + ((x_cntOf n t xs ys lf sy fl (nI i)).toInt64))), (3, .int (nI i)), (0, .ref o)]) hx hb dX1_digest_24 rfl hl (by decide) rfl (fun ls hl => ?_)
        refine lv_iinc (v := nI (i + 1)) (lv' := [(3, .int (nI (i + 1))), (1, .long (((dgF (x_dg1 n t xs ys lf sy fl) 1433 i) * 31) + ((x_cntOf n t xs ys lf sy fl (nI i)).toInt64))), (0, .ref o)]) hx hb dX1_digest_25 hl (k := 1) rfl (nI_1 _) (by decide) rfl (fun ls hl => ?_)
        refine lv_goto (tgt := 6) hx hb dX1_digest_28 (by decide) ?_
        have hl := lv_sub (l' := [(3, .int (nI (i + 1))), (1, .long (((dgF (x_dg1 n t xs ys lf sy fl) 1433 i) * 31) + ((x_cntOf n t xs ys lf sy fl (nI i)).toInt64))), (0, .ref o)]) hl [0, 1, 2] rfl
        have hl : lv_has ls 5 [(3, .int (nI (i + 1))), (1, .long (dgF (x_dg1 n t xs ys lf sy fl) 1433 (i + 1))), (0, .ref o)] := by
          have e9 : [(3, .int (nI (i + 1))), (1, .long (((dgF (x_dg1 n t xs ys lf sy fl) 1433 i) * 31) + ((x_cntOf n t xs ys lf sy fl (nI i)).toInt64))), (0, .ref o)] = ([(3, .int (nI (i + 1))), (1, .long (dgF (x_dg1 n t xs ys lf sy fl) 1433 (i + 1))), (0, .ref o)] : List (Nat × Value)) := by rfl
          rw [← e9]; exact hl
        exact ih_2 (i + 1) (by omega) (by omega) _ hl
  have hl := lv_sub (l' := [(3, .int 0), (1, .long 1433), (0, .ref o)]) hl [0, 1, 2] rfl
  have hl : lv_has ls 5 [(3, .int (nI 0)), (1, .long (dgF (x_dg1 n t xs ys lf sy fl) 1433 0)), (0, .ref o)] := by
    have e9 : [(3, .int 0), (1, .long 1433), (0, .ref o)] = ([(3, .int (nI 0)), (1, .long (dgF (x_dg1 n t xs ys lf sy fl) 1433 0)), (0, .ref o)] : List (Nat × Value)) := by rfl
    rw [← e9]; exact hl
  exact hL6 _ 0 (Nat.lt_succ_self _) (by omega) _ hl
