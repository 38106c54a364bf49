theorem in_X2_isUnfair_X2 : ∀ w ∈ wsX20, w ∈ wsX2_isUnfair := by decide +kernel
theorem fl_X2_isUnfair_13 : (Cond.fieldLink RX2 13 "MoorTrianglesModel" "xs" "[I") ∈ wsX2_isUnfair := by decide +kernel
theorem fl_X2_isUnfair_17 : (Cond.fieldLink RX2 17 "MoorTrianglesModel" "ys" "[I") ∈ wsX2_isUnfair := by decide +kernel
set_option maxHeartbeats 4000000 in
set_option maxRecDepth 100000 in
theorem c_X2_isUnfair (l : Launch) (dC : Nat → ClassId) (dI : Nat → Nat → Nat) (cI cZ cY : ClassId) (h qx qy qh qt qs : Nat) (rw : Nat → Nat) (th : Int32) (n : Nat) (xs ys hs : Nat → Int32) (t : Nat) (tb : Nat → Int32) (sg : Nat → Nat → Int32) (fl : Int32) (a : Int32) (b : Int32) (ht : t ≤ 36) (ia : vp_in a 17) (ib : vp_in b 17) (i1 : r_sides t tb a b = 2 → vp_in (r_fr tb a b 1 t) 17) (i2 : r_sides t tb a b = 2 → vp_in (r_fr tb a b 0 t) 17) : Met l yX2_isUnfair wsX2_isUnfair ({ frames := 4, cells := 0, slots := 0, locals := 92 }) (va_Pc [.ref h, .int a, .int b] (fun U => va_P (dC, dI) vwCl (wR cI cZ cY h qx qy qh qt qs rw th n xs ys hs t tb sg fl) U.heap ∧ va_K (dC, dI) vwCl (gTY cI cZ cY) U)) (vp_Si (fun r => r = bI (r_isUnfair t xs ys tb a b))) 0 0 (fun _ => False) := by
  refine rd_start (cc := cX2_isUnfair) (maxL := 4) (ret := (some .boolean)) RX2 (by decide) rfl rfl (Nat.le_of_ble_eq_true rfl) ?_
  intro p e s m below meth c ⟨hx, hb, hr, hml, hown, hts, hlocks⟩ hP hK ls hl
  have F : CallFix p m c cX2_isUnfair 4 s ([.ref h, .int a, .int b] : List Value).toArray wsX2_isUnfair RX2 := ⟨hx, hb, hml, hown, hts⟩
  have hl : lv_has ls 4 [(0, .ref h), (1, .int a), (2, .int b)] := hl
  refine lv_aload_n hx hb dX2_isUnfair_0 rfl (lv_at hl 0 rfl) ?_
  refine lv_iload_n hx hb dX2_isUnfair_1 rfl (lv_at hl 1 rfl) ?_
  refine lv_iload_n hx hb dX2_isUnfair_2 rfl (lv_at hl 2 rfl) ?_
  refine rd_cVi (As := [.int a, .int b]) (rest := []) F (c_X2_sides l dC dI cI cZ cY h qx qy qh qt qs rw th n xs ys hs t tb sg fl a b ht) (cwV 2 hts gX2_isUnfair_X2_sides rfl rfl rfl hd_X2_sides ⟨Nat.le_of_ble_eq_true rfl, Nat.le_of_ble_eq_true rfl⟩) hP hK (va_recv hK hP (ci := 2) (q0 := 0) rfl rfl) rfl hl.1 rfl (lv_room (Nat.le_of_ble_eq_true rfl)) dX2_isUnfair_3 ⟨Nat.zero_le _, Nat.zero_le _⟩ ?_
  refine lv_iconst (v := 2) hx hb dX2_isUnfair_6 (by decide) ?_
  refine lv_icmp_eq (tgt := 12) hx hb dX2_isUnfair_7 (by decide) (fun c_1 => ?_) (fun c_1 => ?_)
  · refine lv_aload_n hx hb dX2_isUnfair_12 rfl (lv_at hl 0 rfl) ?_
    refine lv_iload_n hx hb dX2_isUnfair_13 rfl (lv_at hl 1 rfl) ?_
    refine lv_iload_n hx hb dX2_isUnfair_14 rfl (lv_at hl 2 rfl) ?_
    refine lv_iconst (v := 0) hx hb dX2_isUnfair_15 (by decide) ?_
    refine rd_cVi (As := [.int a, .int b, .int 0]) (rest := []) F (c_X2_far_ l dC dI cI cZ cY h qx qy qh qt qs rw th n xs ys hs t tb sg fl a b 0 ht) (cwV 3 hts gX2_isUnfair_X2_far_ rfl rfl rfl hd_X2_far_ ⟨Nat.le_of_ble_eq_true rfl, Nat.le_of_ble_eq_true rfl⟩) hP hK (va_recv hK hP (ci := 2) (q0 := 0) rfl rfl) rfl hl.1 rfl (lv_room (Nat.le_of_ble_eq_true rfl)) dX2_isUnfair_16 ⟨Nat.zero_le _, Nat.zero_le _⟩ ?_
    refine lv_istore_n (lv' := [(3, .int (r_fr tb a b 0 t)), (0, .ref h), (1, .int a), (2, .int b)]) hx hb dX2_isUnfair_19 rfl hl (by decide) rfl (fun ls hl => ?_)
    refine lv_aload_n hx hb dX2_isUnfair_20 rfl (lv_at hl 1 rfl) ?_
    refine lv_iload_n hx hb dX2_isUnfair_21 rfl (lv_at hl 2 rfl) ?_
    refine lv_iload_n hx hb dX2_isUnfair_22 rfl (lv_at hl 3 rfl) ?_
    refine lv_aload_n hx hb dX2_isUnfair_23 rfl (lv_at hl 1 rfl) ?_
    refine lv_iload_n hx hb dX2_isUnfair_24 rfl (lv_at hl 2 rfl) ?_
    refine lv_iload_n hx hb dX2_isUnfair_25 rfl (lv_at hl 3 rfl) ?_
    refine lv_iconst (v := 1) hx hb dX2_isUnfair_26 (by decide) ?_
    refine rd_cVi (As := [.int a, .int b, .int 1]) (rest := [.int b, .int a, .ref h]) F (c_X2_far_ l dC dI cI cZ cY h qx qy qh qt qs rw th n xs ys hs t tb sg fl a b 1 ht) (cwV 3 hts gX2_isUnfair_X2_far_ rfl rfl rfl hd_X2_far_ ⟨Nat.le_of_ble_eq_true rfl, Nat.le_of_ble_eq_true rfl⟩) hP hK (va_recv hK hP (ci := 2) (q0 := 0) rfl rfl) rfl hl.1 rfl (lv_room (Nat.le_of_ble_eq_true rfl)) dX2_isUnfair_27 ⟨Nat.zero_le _, Nat.zero_le _⟩ ?_
    refine lv_aload_n hx hb dX2_isUnfair_30 rfl (lv_at hl 1 rfl) ?_
    refine va_get (D := (dC, dI)) (ci := 2) (v := .ref qx) (C := RX2) (T := TX2) (N := 9) hx hb hts in_X2_isUnfair_X2 hown hK hP 0 rfl rfl 2 (by decide) (hts (.fieldLink RX2 13 "MoorTrianglesModel" "xs" "[I") fl_X2_isUnfair_13) (fun _ h9 => h9) rfl dX2_isUnfair_31 ?_
    refine lv_iload_n hx hb dX2_isUnfair_34 rfl (lv_at hl 0 rfl) ?_
    refine va_iald (D := (dC, dI)) hx hb hK hP 1 0 rfl rfl (i2 c_1) dX2_isUnfair_35 ?_
    refine lv_aload_n hx hb dX2_isUnfair_36 rfl (lv_at hl 1 rfl) ?_
    refine va_get (D := (dC, dI)) (ci := 2) (v := .ref qy) (C := RX2) (T := TX2) (N := 9) hx hb hts in_X2_isUnfair_X2 hown hK hP 0 rfl rfl 3 (by decide) (hts (.fieldLink RX2 17 "MoorTrianglesModel" "ys" "[I") fl_X2_isUnfair_17) (fun _ h9 => h9) rfl dX2_isUnfair_37 ?_
    refine lv_iload_n hx hb dX2_isUnfair_40 rfl (lv_at hl 0 rfl) ?_
    refine va_iald (D := (dC, dI)) hx hb hK hP 2 0 rfl rfl (i2 c_1) dX2_isUnfair_41 ?_
    refine rd_cVi (As := [.int a, .int b, .int (r_fr tb a b 1 t), .int (xs (r_fr tb a b 0 t).toNatClampNeg), .int (ys (r_fr tb a b 0 t).toNatClampNeg)]) (rest := []) F (c_X2_isWithin l dC dI cI cZ cY h qx qy qh qt qs rw th n xs ys hs t tb sg fl a b (r_fr tb a b 1 t) (xs (r_fr tb a b 0 t).toNatClampNeg) (ys (r_fr tb a b 0 t).toNatClampNeg) ia ib (i1 c_1)) (cwV 5 hts gX2_isUnfair_X2_isWithin rfl rfl rfl hd_X2_isWithin ⟨Nat.le_of_ble_eq_true rfl, Nat.le_of_ble_eq_true rfl⟩) hP hK (va_recv hK hP (ci := 2) (q0 := 0) rfl rfl) rfl hl.1 rfl (lv_room (Nat.le_of_ble_eq_true rfl)) dX2_isUnfair_42 ⟨Nat.zero_le _, Nat.zero_le _⟩ ?_
    exact rd_zret hx hb hr hlocks (by rw [r_isUnfair, if_pos c_1]) dX2_isUnfair_45
  · refine lv_iconst (v := 0) hx hb dX2_isUnfair_10 (by decide) ?_
    exact rd_zret hx hb hr hlocks (by rw [r_isUnfair, if_neg c_1]; rfl) dX2_isUnfair_11
theorem hd_X2_canFlip : yX2_canFlip.cls = RX2 ∧ yX2_canFlip.cls ≠ "java/lang/invoke/MethodHandle" ∧ yX2_canFlip.cls ≠ "java/lang/invoke/VarHandle" ∧ (parseMethodDescriptor yX2_canFlip.desc).map (fun d => d.parameters.length) = some 2 := by decide +kernel
theorem in_X2_canFlip_X2 : ∀ w ∈ wsX20, w ∈ wsX2_canFlip := by decide +kernel
theorem fl_X2_canFlip_28 : (Cond.fieldLink RX2 28 "MoorTrianglesModel" "stays" "[[Z") ∈ wsX2_canFlip := by decide +kernel
theorem fl_X2_canFlip_13 : (Cond.fieldLink RX2 13 "MoorTrianglesModel" "xs" "[I") ∈ wsX2_canFlip := by decide +kernel
theorem fl_X2_canFlip_17 : (Cond.fieldLink RX2 17 "MoorTrianglesModel" "ys" "[I") ∈ wsX2_canFlip := by decide +kernel
set_option maxHeartbeats 4000000 in
set_option maxRecDepth 100000 in
theorem c_X2_canFlip (l : Launch) (dC : Nat → ClassId) (dI : Nat → Nat → Nat) (cI cZ cY : ClassId) (h qx qy qh qt qs : Nat) (rw : Nat → Nat) (th : Int32) (n : Nat) (xs ys hs : Nat → Int32) (t : Nat) (tb : Nat → Int32) (sg : Nat → Nat → Int32) (fl : Int32) (a : Int32) (b : Int32) (ht : t ≤ 36) (ia : vp_in a 17) (ib : vp_in b 17) (i1 : r_sides t tb a b = 2 → vp_in (r_fr tb a b 1 t) 17) (i2 : r_sides t tb a b = 2 → vp_in (r_fr tb a b 0 t) 17) : Met l yX2_canFlip wsX2_canFlip ({ frames := 4, cells := 0, slots := 0, locals := 92 }) (va_Pc [.ref h, .int a, .int b] (fun U => va_P (dC, dI) vwCl (wR cI cZ cY h qx qy qh qt qs rw th n xs ys hs t tb sg fl) U.heap ∧ va_K (dC, dI) vwCl (gTY cI cZ cY) U)) (vp_Si (fun r => r = bI (r_canFlip t xs ys tb sg a b))) 0 0 (fun _ => False) := by
  refine rd_start (cc := cX2_canFlip) (maxL := 7) (ret := (some .boolean)) RX2 (by decide) rfl rfl (Nat.le_of_ble_eq_true rfl) ?_
  intro p e s m below meth c ⟨hx, hb, hr, hml, hown, hts, hlocks⟩ hP hK ls hl
  have F : CallFix p m c cX2_canFlip 7 s ([.ref h, .int a, .int b] : List Value).toArray wsX2_canFlip RX2 := ⟨hx, hb, hml, hown, hts⟩
  have hl : lv_has ls 7 [(0, .ref h), (1, .int a), (2, .int b)] := hl
  refine lv_aload_n hx hb dX2_canFlip_0 rfl (lv_at hl 0 rfl) ?_
  refine lv_iload_n hx hb dX2_canFlip_1 rfl (lv_at hl 1 rfl) ?_
  refine lv_iload_n hx hb dX2_canFlip_2 rfl (lv_at hl 2 rfl) ?_
  refine rd_cVi (As := [.int a, .int b]) (rest := []) F (c_X2_sides l dC dI cI cZ cY h qx qy qh qt qs rw th n xs ys hs t tb sg fl a b ht) (cwV 2 hts gX2_canFlip_X2_sides rfl rfl rfl hd_X2_sides ⟨Nat.le_of_ble_eq_true rfl, Nat.le_of_ble_eq_true rfl⟩) hP hK (va_recv hK hP (ci := 2) (q0 := 0) rfl rfl) rfl hl.1 rfl (lv_room (Nat.le_of_ble_eq_true rfl)) dX2_canFlip_3 ⟨Nat.zero_le _, Nat.zero_le _⟩ ?_
  refine lv_iconst (v := 2) hx hb dX2_canFlip_6 (by decide) ?_
  refine lv_icmp_ne (tgt := 21) hx hb dX2_canFlip_7 (by decide) (fun c_1 => ?_) (fun c_1 => ?_)
  · refine lv_iconst (v := 0) hx hb dX2_canFlip_21 (by decide) ?_
    exact rd_zret hx hb hr hlocks (by unfold r_canFlip r_opp; rw [if_neg c_1]; try rfl) dX2_canFlip_22
  · refine lv_aload_n hx hb dX2_canFlip_10 rfl (lv_at hl 0 rfl) ?_
    refine va_get (D := (dC, dI)) (ci := 2) (v := .ref qs) (C := RX2) (T := TX2) (N := 9) hx hb hts in_X2_canFlip_X2 hown hK hP 0 rfl rfl 7 (by decide) (hts (.fieldLink RX2 28 "MoorTrianglesModel" "stays" "[[Z") fl_X2_canFlip_28) (fun _ h9 => h9) rfl dX2_canFlip_11 ?_
    refine lv_iload_n hx hb dX2_canFlip_14 rfl (lv_at hl 1 rfl) ?_
    refine rg_aald (D := (dC, dI)) hx hb hK hP 5 2 rfl rfl ia dX2_canFlip_15 ?_
    refine lv_iload_n hx hb dX2_canFlip_16 rfl (lv_at hl 2 rfl) ?_
    refine va_zald (D := (dC, dI)) hx hb hK hP (6 + a.toNatClampNeg) 1 (wR_row (in_lt ia)) rfl ib dX2_canFlip_17 ?_
    refine lv_if_eq (tgt := 23) hx hb dX2_canFlip_18 (by decide) (fun c_2 => ?_) (fun c_2 => ?_)
    · refine lv_aload_n hx hb dX2_canFlip_23 rfl (lv_at hl 0 rfl) ?_
      refine lv_iload_n hx hb dX2_canFlip_24 rfl (lv_at hl 1 rfl) ?_
      refine lv_iload_n hx hb dX2_canFlip_25 rfl (lv_at hl 2 rfl) ?_
      refine lv_iconst (v := 1) hx hb dX2_canFlip_26 (by decide) ?_
      refine rd_cVi (As := [.int a, .int b, .int 1]) (rest := []) F (c_X2_far_ l dC dI cI cZ cY h qx qy qh qt qs rw th n xs ys hs t tb sg fl a b 1 ht) (cwV 3 hts gX2_canFlip_X2_far_ rfl rfl rfl hd_X2_far_ ⟨Nat.le_of_ble_eq_true rfl, Nat.le_of_ble_eq_true rfl⟩) hP hK (va_recv hK hP (ci := 2) (q0 := 0) rfl rfl) rfl hl.1 rfl (lv_room (Nat.le_of_ble_eq_true rfl)) dX2_canFlip_27 ⟨Nat.zero_le _, Nat.zero_le _⟩ ?_
      refine lv_istore_n (lv' := [(3, .int (r_fr tb a b 1 t)), (0, .ref h), (1, .int a), (2, .int b)]) hx hb dX2_canFlip_30 rfl hl (by decide) rfl (fun ls hl => ?_)
      refine lv_aload_n hx hb dX2_canFlip_31 rfl (lv_at hl 1 rfl) ?_
      refine lv_iload_n hx hb dX2_canFlip_32 rfl (lv_at hl 2 rfl) ?_
      refine lv_iload_n hx hb dX2_canFlip_33 rfl (lv_at hl 3 rfl) ?_
      refine lv_iconst (v := 0) hx hb dX2_canFlip_34 (by decide) ?_
      refine rd_cVi (As := [.int a, .int b, .int 0]) (rest := []) F (c_X2_far_ l dC dI cI cZ cY h qx qy qh qt qs rw th n xs ys hs t tb sg fl a b 0 ht) (cwV 3 hts gX2_canFlip_X2_far_ rfl rfl rfl hd_X2_far_ ⟨Nat.le_of_ble_eq_true rfl, Nat.le_of_ble_eq_true rfl⟩) hP hK (va_recv hK hP (ci := 2) (q0 := 0) rfl rfl) rfl hl.1 rfl (lv_room (Nat.le_of_ble_eq_true rfl)) dX2_canFlip_35 ⟨Nat.zero_le _, Nat.zero_le _⟩ ?_
      refine lv_istore (lv' := [(4, .int (r_fr tb a b 0 t)), (3, .int (r_fr tb a b 1 t)), (0, .ref h), (1, .int a), (2, .int b)]) hx hb dX2_canFlip_38 hl (by decide) rfl (fun ls hl => ?_)
      refine lv_aload_n hx hb dX2_canFlip_40 rfl (lv_at hl 2 rfl) ?_
      refine lv_iload_n hx hb dX2_canFlip_41 rfl (lv_at hl 1 rfl) ?_
      refine lv_iload hx hb dX2_canFlip_42 (lv_at hl 0 rfl) ?_
      refine lv_aload_n hx hb dX2_canFlip_44 rfl (lv_at hl 2 rfl) ?_
      refine va_get (D := (dC, dI)) (ci := 2) (v := .ref qx) (C := RX2) (T := TX2) (N := 9) hx hb hts in_X2_canFlip_X2 hown hK hP 0 rfl rfl 2 (by decide) (hts (.fieldLink RX2 13 "MoorTrianglesModel" "xs" "[I") fl_X2_canFlip_13) (fun _ h9 => h9) rfl dX2_canFlip_45 ?_
      refine lv_iload_n hx hb dX2_canFlip_48 rfl (lv_at hl 3 rfl) ?_
      refine va_iald (D := (dC, dI)) hx hb hK hP 1 0 rfl rfl ia dX2_canFlip_49 ?_
      refine lv_aload_n hx hb dX2_canFlip_50 rfl (lv_at hl 2 rfl) ?_
      refine va_get (D := (dC, dI)) (ci := 2) (v := .ref qy) (C := RX2) (T := TX2) (N := 9) hx hb hts in_X2_canFlip_X2 hown hK hP 0 rfl rfl 3 (by decide) (hts (.fieldLink RX2 17 "MoorTrianglesModel" "ys" "[I") fl_X2_canFlip_17) (fun _ h9 => h9) rfl dX2_canFlip_51 ?_
      refine lv_iload_n hx hb dX2_canFlip_54 rfl (lv_at hl 3 rfl) ?_
      refine va_iald (D := (dC, dI)) hx hb hK hP 2 0 rfl rfl ia dX2_canFlip_55 ?_
      refine rd_cVi (As := [.int (r_fr tb a b 1 t), .int (r_fr tb a b 0 t), .int (xs a.toNatClampNeg), .int (ys a.toNatClampNeg)]) (rest := []) F (c_X2_area l dC dI cI cZ cY h qx qy qh qt qs rw th n xs ys hs t tb sg fl (r_fr tb a b 1 t) (r_fr tb a b 0 t) (xs a.toNatClampNeg) (ys a.toNatClampNeg) (i1 c_1) (i2 c_1)) (cwV 4 hts gX2_canFlip_X2_area rfl rfl rfl hd_X2_area ⟨Nat.le_of_ble_eq_true rfl, Nat.le_of_ble_eq_true rfl⟩) hP hK (va_recv hK hP (ci := 2) (q0 := 0) rfl rfl) rfl hl.1 rfl (lv_room (Nat.le_of_ble_eq_true rfl)) dX2_canFlip_56 ⟨Nat.zero_le _, Nat.zero_le _⟩ ?_
      refine lv_istore (lv' := [(5, .int (r_area xs ys (r_fr tb a b 1 t) (r_fr tb a b 0 t) (xs a.toNatClampNeg) (ys a.toNatClampNeg))), (4, .int (r_fr tb a b 0 t)), (3, .int (r_fr tb a b 1 t)), (0, .ref h), (1, .int a), (2, .int b)]) hx hb dX2_canFlip_59 hl (by decide) rfl (fun ls hl => ?_)
      refine lv_aload_n hx hb dX2_canFlip_61 rfl (lv_at hl 3 rfl) ?_
      refine lv_iload_n hx hb dX2_canFlip_62 rfl (lv_at hl 2 rfl) ?_
      refine lv_iload hx hb dX2_canFlip_63 (lv_at hl 1 rfl) ?_
      refine lv_aload_n hx hb dX2_canFlip_65 rfl (lv_at hl 3 rfl) ?_
      refine va_get (D := (dC, dI)) (ci := 2) (v := .ref qx) (C := RX2) (T := TX2) (N := 9) hx hb hts in_X2_canFlip_X2 hown hK hP 0 rfl rfl 2 (by decide) (hts (.fieldLink RX2 13 "MoorTrianglesModel" "xs" "[I") fl_X2_canFlip_13) (fun _ h9 => h9) rfl dX2_canFlip_66 ?_
      refine lv_iload_n hx hb dX2_canFlip_69 rfl (lv_at hl 5 rfl) ?_
      refine va_iald (D := (dC, dI)) hx hb hK hP 1 0 rfl rfl ib dX2_canFlip_70 ?_
      refine lv_aload_n hx hb dX2_canFlip_71 rfl (lv_at hl 3 rfl) ?_
      refine va_get (D := (dC, dI)) (ci := 2) (v := .ref qy) (C := RX2) (T := TX2) (N := 9) hx hb hts in_X2_canFlip_X2 hown hK hP 0 rfl rfl 3 (by decide) (hts (.fieldLink RX2 17 "MoorTrianglesModel" "ys" "[I") fl_X2_canFlip_17) (fun _ h9 => h9) rfl dX2_canFlip_72 ?_
      refine lv_iload_n hx hb dX2_canFlip_75 rfl (lv_at hl 5 rfl) ?_
      refine va_iald (D := (dC, dI)) hx hb hK hP 2 0 rfl rfl ib dX2_canFlip_76 ?_
      refine rd_cVi (As := [.int (r_fr tb a b 1 t), .int (r_fr tb a b 0 t), .int (xs b.toNatClampNeg), .int (ys b.toNatClampNeg)]) (rest := []) F (c_X2_area l dC dI cI cZ cY h qx qy qh qt qs rw th n xs ys hs t tb sg fl (r_fr tb a b 1 t) (r_fr tb a b 0 t) (xs b.toNatClampNeg) (ys b.toNatClampNeg) (i1 c_1) (i2 c_1)) (cwV 4 hts gX2_canFlip_X2_area rfl rfl rfl hd_X2_area ⟨Nat.le_of_ble_eq_true rfl, Nat.le_of_ble_eq_true rfl⟩) hP hK (va_recv hK hP (ci := 2) (q0 := 0) rfl rfl) rfl hl.1 rfl (lv_room (Nat.le_of_ble_eq_true rfl)) dX2_canFlip_77 ⟨Nat.zero_le _, Nat.zero_le _⟩ ?_
      refine lv_istore (lv' := [(6, .int (r_area xs ys (r_fr tb a b 1 t) (r_fr tb a b 0 t) (xs b.toNatClampNeg) (ys b.toNatClampNeg))), (5, .int (r_area xs ys (r_fr tb a b 1 t) (r_fr tb a b 0 t) (xs a.toNatClampNeg) (ys a.toNatClampNeg))), (4, .int (r_fr tb a b 0 t)), (3, .int (r_fr tb a b 1 t)), (0, .ref h), (1, .int a), (2, .int b)]) hx hb dX2_canFlip_80 hl (by decide) rfl (fun ls hl => ?_)
      refine lv_iload hx hb dX2_canFlip_82 (lv_at hl 1 rfl) ?_
      refine lv_if_le (tgt := 92) hx hb dX2_canFlip_84 (by decide) (fun c_3 => ?_) (fun c_3 => ?_)
      · refine lv_iload hx hb dX2_canFlip_92 (lv_at hl 1 rfl) ?_
        refine lv_if_ge (tgt := 106) hx hb dX2_canFlip_94 (by decide) (fun c_4 => ?_) (fun c_4 => ?_)
        · refine lv_iconst (v := 0) hx hb dX2_canFlip_106 (by decide) ?_
          exact rd_zret hx hb hr hlocks (by unfold r_canFlip; rw [if_pos c_1, if_pos c_2]; unfold r_opp; rw [if_pos c_3, if_pos c_4]; try rfl) dX2_canFlip_107
        · refine lv_iload hx hb dX2_canFlip_97 (lv_at hl 0 rfl) ?_
          refine lv_if_le (tgt := 106) hx hb dX2_canFlip_99 (by decide) (fun c_5 => ?_) (fun c_5 => ?_)
          · refine lv_iconst (v := 0) hx hb dX2_canFlip_106 (by decide) ?_
            exact rd_zret hx hb hr hlocks (by unfold r_canFlip; rw [if_pos c_1, if_pos c_2]; unfold r_opp; rw [if_pos c_3, if_neg c_4, if_pos c_5]; try rfl) dX2_canFlip_107
          · refine lv_iconst (v := 1) hx hb dX2_canFlip_102 (by decide) ?_
            refine lv_goto (tgt := 107) hx hb dX2_canFlip_103 (by decide) ?_
            exact rd_zret hx hb hr hlocks (by unfold r_canFlip; rw [if_pos c_1, if_pos c_2]; unfold r_opp; rw [if_pos c_3, if_neg c_4, if_neg c_5]; try rfl) dX2_canFlip_107
      · refine lv_iload hx hb dX2_canFlip_87 (lv_at hl 0 rfl) ?_
        refine lv_if_lt (tgt := 102) hx hb dX2_canFlip_89 (by decide) (fun c_6 => ?_) (fun c_6 => ?_)
        · refine lv_iconst (v := 1) hx hb dX2_canFlip_102 (by decide) ?_
          refine lv_goto (tgt := 107) hx hb dX2_canFlip_103 (by decide) ?_
          exact rd_zret hx hb hr hlocks (by unfold r_canFlip; rw [if_pos c_1, if_pos c_2]; unfold r_opp; rw [if_neg c_3, if_pos c_6]; try rfl) dX2_canFlip_107
        · refine lv_iload hx hb dX2_canFlip_92 (lv_at hl 1 rfl) ?_
          refine lv_if_ge (tgt := 106) hx hb dX2_canFlip_94 (by decide) (fun c_7 => ?_) (fun c_7 => ?_)
          · refine lv_iconst (v := 0) hx hb dX2_canFlip_106 (by decide) ?_
            exact rd_zret hx hb hr hlocks (by unfold r_canFlip; rw [if_pos c_1, if_pos c_2]; unfold r_opp; rw [if_neg c_3, if_neg c_6, if_pos c_7]; try rfl) dX2_canFlip_107
          · refine lv_iload hx hb dX2_canFlip_97 (lv_at hl 0 rfl) ?_
            refine lv_if_le (tgt := 106) hx hb dX2_canFlip_99 (by decide) (fun c_8 => ?_) (fun c_8 => ?_)
            · refine lv_iconst (v := 0) hx hb dX2_canFlip_106 (by decide) ?_
              exact rd_zret hx hb hr hlocks (by unfold r_canFlip; rw [if_pos c_1, if_pos c_2]; unfold r_opp; rw [if_neg c_3, if_neg c_6, if_neg c_7, if_pos c_8]; try rfl) dX2_canFlip_107
            · refine lv_iconst (v := 1) hx hb dX2_canFlip_102 (by decide) ?_
              refine lv_goto (tgt := 107) hx hb dX2_canFlip_103 (by decide) ?_
              exact rd_zret hx hb hr hlocks (by unfold r_canFlip; rw [if_pos c_1, if_pos c_2]; unfold r_opp; rw [if_neg c_3, if_neg c_6, if_neg c_7, if_neg c_8]; try rfl) dX2_canFlip_107
    · refine lv_iconst (v := 0) hx hb dX2_canFlip_21 (by decide) ?_
      exact rd_zret hx hb hr hlocks (by unfold r_canFlip r_opp; rw [if_pos c_1, if_neg c_2]; try rfl) dX2_canFlip_22
theorem hd_X2_cairnAt : yX2_cairnAt.cls = RX2 ∧ yX2_cairnAt.cls ≠ "java/lang/invoke/MethodHandle" ∧ yX2_cairnAt.cls ≠ "java/lang/invoke/VarHandle" ∧ (parseMethodDescriptor yX2_cairnAt.desc).map (fun d => d.parameters.length) = some 2 := by decide +kernel
theorem in_X2_cairnAt_X2 : ∀ w ∈ wsX20, w ∈ wsX2_cairnAt := by decide +kernel
theorem fl_X2_cairnAt_7 : (Cond.fieldLink RX2 7 "MoorTrianglesModel" "cairns" "I") ∈ wsX2_cairnAt := by decide +kernel
theorem fl_X2_cairnAt_13 : (Cond.fieldLink RX2 13 "MoorTrianglesModel" "xs" "[I") ∈ wsX2_cairnAt := by decide +kernel
theorem fl_X2_cairnAt_17 : (Cond.fieldLink RX2 17 "MoorTrianglesModel" "ys" "[I") ∈ wsX2_cairnAt := by decide +kernel
set_option maxHeartbeats 4000000 in
set_option maxRecDepth 100000 in
theorem c_X2_cairnAt (l : Launch) (dC : Nat → ClassId) (dI : Nat → Nat → Nat) (cI cZ cY : ClassId) (h qx qy qh qt qs : Nat) (rw : Nat → Nat) (th : Int32) (n : Nat) (xs ys hs : Nat → Int32) (t : Nat) (tb : Nat → Int32) (sg : Nat → Nat → Int32) (fl : Int32) (x : Int32) (y : Int32) (hn : n ≤ 17) : Met l yX2_cairnAt wsX2_cairnAt ({ frames := 0, cells := 0, slots := 0, locals := 0 }) (va_Pc [.ref h, .int x, .int y] (fun U => va_P (dC, dI) vwCl (wR cI cZ cY h qx qy qh qt qs rw th n xs ys hs t tb sg fl) U.heap ∧ va_K (dC, dI) vwCl (gTY cI cZ cY) U)) (vp_Si (fun r => r = r_cairnAt n xs ys x y)) 0 0 (fun _ => False) := by
  refine rd_start (cc := cX2_cairnAt) (maxL := 4) (ret := (some .int)) RX2 (by decide) rfl rfl (Nat.le_of_ble_eq_true rfl) ?_
  intro p e s m below meth c ⟨hx, hb, hr, hml, hown, hts, hlocks⟩ hP hK ls hl
  have F : CallFix p m c cX2_cairnAt 4 s ([.ref h, .int x, .int y] : List Value).toArray wsX2_cairnAt RX2 := ⟨hx, hb, hml, hown, hts⟩
  have hl : lv_has ls 4 [(0, .ref h), (1, .int x), (2, .int y)] := hl
  refine lv_iconst (v := 0) hx hb dX2_cairnAt_0 (by decide) ?_
  refine lv_istore_n (lv' := [(3, .int 0), (0, .ref h), (1, .int x), (2, .int y)]) hx hb dX2_cairnAt_1 rfl hl (by decide) rfl (fun ls hl => ?_)
  have hL2 : ∀ (k_1 : Nat) (i : Nat), (n - i) < k_1 → (i ≤ n) → (∀ j, j < i → r_pAt xs ys x y j = false) → ∀ ls : Array Slot, lv_has ls 4 [(3, .int (nI i)), (0, .ref h), (1, .int x), (2, .int y)] → W p l e ({ frames := 0, cells := 0, slots := 0, locals := 0 } : Room) s m ([.ref h, .int x, .int y] : List Value).toArray below meth c s.heap [] 0 0 (MQ below (vp_Si (fun r => r = r_cairnAt n xs ys x y)) ([.ref h, .int x, .int y] : List Value).toArray s 0 0 (fun _ => False)) (F0 m 2 ls []) := by
    intro k_1
    induction k_1 with
    | zero => intro i hk; exact absurd hk (Nat.not_lt_zero _)
    | succ k_1 ih_2 =>
      intro i hk_2 hi_i hbf ls hl
      refine lv_iload_n hx hb dX2_cairnAt_2 rfl (lv_at hl 0 rfl) ?_
      refine lv_aload_n hx hb dX2_cairnAt_3 rfl (lv_at hl 1 rfl) ?_
      refine va_get (D := (dC, dI)) (ci := 2) (v := .int (nI n)) (C := RX2) (T := TX2) (N := 9) hx hb hts in_X2_cairnAt_X2 hown hK hP 0 rfl rfl 1 (by decide) (hts (.fieldLink RX2 7 "MoorTrianglesModel" "cairns" "I") fl_X2_cairnAt_7) (fun _ h9 => h9) rfl dX2_cairnAt_4 ?_
      refine lv_icmp_ge (tgt := 38) hx hb dX2_cairnAt_7 (by decide) (fun c_3 => ?_) (fun c_3 => ?_)
      · have hge_i : n ≤ i := nI_le_le (by omega) (by omega) c_3
        have heq_i : i = n := by omega
        have hl : lv_has ls 4 [(3, .int (nI n)), (0, .ref h), (1, .int x), (2, .int y)] := by rw [heq_i] at hl; exact hl
        rw [heq_i] at hbf
        refine lv_iconst (v := (-1)) hx hb dX2_cairnAt_38 (by decide) ?_
        exact rd_iret hx hb hr hlocks (by rw [r_cairnAt, rg_fst_none hbf]; rfl) dX2_cairnAt_39
      · have hlt_i : i < n := nI_nle_lt (by omega) (by omega) c_3
        refine lv_aload_n hx hb dX2_cairnAt_10 rfl (lv_at hl 1 rfl) ?_
        refine va_get (D := (dC, dI)) (ci := 2) (v := .ref qx) (C := RX2) (T := TX2) (N := 9) hx hb hts in_X2_cairnAt_X2 hown hK hP 0 rfl rfl 2 (by decide) (hts (.fieldLink RX2 13 "MoorTrianglesModel" "xs" "[I") fl_X2_cairnAt_13) (fun _ h9 => h9) rfl dX2_cairnAt_11 ?_
        refine lv_iload_n hx hb dX2_cairnAt_14 rfl (lv_at hl 0 rfl) ?_
        refine va_iald (D := (dC, dI)) hx hb hK hP 1 0 rfl rfl (vp_in_nI (by omega) (by decide)) dX2_cairnAt_15 ?_
        refine lv_iload_n hx hb dX2_cairnAt_16 rfl (lv_at hl 2 rfl) ?_
        refine lv_icmp_ne (tgt := 32) hx hb dX2_cairnAt_17 (by decide) (fun c_4 => ?_) (fun c_4 => ?_)
        · rw [nI_clamp (by omega)] at c_4
          refine lv_iinc (v := nI (i + 1)) (lv' := [(3, .int (nI (i + 1))), (0, .ref h), (1, .int x), (2, .int y)]) hx hb dX2_cairnAt_32 hl (k := 0) rfl (nI_1 _) (by decide) rfl (fun ls hl => ?_)
          refine lv_goto (tgt := 2) hx hb dX2_cairnAt_35 (by decide) ?_
          have hl := lv_sub (l' := [(3, .int (nI (i + 1))), (0, .ref h), (1, .int x), (2, .int y)]) hl [0, 1, 2, 3] rfl
          have hl : lv_has ls 4 [(3, .int (nI (i + 1))), (0, .ref h), (1, .int x), (2, .int y)] := by
            have e9 : [(3, .int (nI (i + 1))), (0, .ref h), (1, .int x), (2, .int y)] = ([(3, .int (nI (i + 1))), (0, .ref h), (1, .int x), (2, .int y)] : List (Nat × Value)) := by rfl
            rw [← e9]; exact hl
          exact ih_2 (i + 1) (by omega) (by omega) (rg_bef hbf (by simp only [r_pAt, c_4]; rfl)) _ hl
        · rw [nI_clamp (by omega)] at c_4
          refine lv_aload_n hx hb dX2_cairnAt_20 rfl (lv_at hl 1 rfl) ?_
          refine va_get (D := (dC, dI)) (ci := 2) (v := .ref qy) (C := RX2) (T := TX2) (N := 9) hx hb hts in_X2_cairnAt_X2 hown hK hP 0 rfl rfl 3 (by decide) (hts (.fieldLink RX2 17 "MoorTrianglesModel" "ys" "[I") fl_X2_cairnAt_17) (fun _ h9 => h9) rfl dX2_cairnAt_21 ?_
          refine lv_iload_n hx hb dX2_cairnAt_24 rfl (lv_at hl 0 rfl) ?_
          refine va_iald (D := (dC, dI)) hx hb hK hP 2 0 rfl rfl (vp_in_nI (by omega) (by decide)) dX2_cairnAt_25 ?_
          refine lv_iload_n hx hb dX2_cairnAt_26 rfl (lv_at hl 3 rfl) ?_
          refine lv_icmp_ne (tgt := 32) hx hb dX2_cairnAt_27 (by decide) (fun c_5 => ?_) (fun c_5 => ?_)
          · rw [nI_clamp (by omega)] at c_5
            refine lv_iinc (v := nI (i + 1)) (lv' := [(3, .int (nI (i + 1))), (0, .ref h), (1, .int x), (2, .int y)]) hx hb dX2_cairnAt_32 hl (k := 0) rfl (nI_1 _) (by decide) rfl (fun ls hl => ?_)
            refine lv_goto (tgt := 2) hx hb dX2_cairnAt_35 (by decide) ?_
            have hl := lv_sub (l' := [(3, .int (nI (i + 1))), (0, .ref h), (1, .int x), (2, .int y)]) hl [0, 1, 2, 3] rfl
            have hl : lv_has ls 4 [(3, .int (nI (i + 1))), (0, .ref h), (1, .int x), (2, .int y)] := by
              have e9 : [(3, .int (nI (i + 1))), (0, .ref h), (1, .int x), (2, .int y)] = ([(3, .int (nI (i + 1))), (0, .ref h), (1, .int x), (2, .int y)] : List (Nat × Value)) := by rfl
              rw [← e9]; exact hl
            exact ih_2 (i + 1) (by omega) (by omega) (rg_bef hbf (by simp only [r_pAt, c_4, c_5]; rfl)) _ hl
          · rw [nI_clamp (by omega)] at c_5
            refine lv_iload_n hx hb dX2_cairnAt_30 rfl (lv_at hl 0 rfl) ?_
            exact rd_iret hx hb hr hlocks (by rw [r_cairnAt, rg_fst_some (i := i) (by simp only [r_pAt, c_4, c_5]; rfl) hbf hlt_i]; rfl) dX2_cairnAt_31
  have hl := lv_sub (l' := [(3, .int 0), (0, .ref h), (1, .int x), (2, .int y)]) hl [0, 1, 2, 3] rfl
  have hl : lv_has ls 4 [(3, .int (nI 0)), (0, .ref h), (1, .int x), (2, .int y)] := by
    have e9 : [(3, .int 0), (0, .ref h), (1, .int x), (2, .int y)] = ([(3, .int (nI 0)), (0, .ref h), (1, .int x), (2, .int y)] : List (Nat × Value)) := by rfl
    rw [← e9]; exact hl
  exact hL2 _ 0 (Nat.lt_succ_self _) (by omega) (fun j hj => absurd hj (Nat.not_lt_zero _)) _ hl
theorem hd_X2_covers : yX2_covers.cls = RX2 ∧ yX2_covers.cls ≠ "java/lang/invoke/MethodHandle" ∧ yX2_covers.cls ≠ "java/lang/invoke/VarHandle" ∧ (parseMethodDescriptor yX2_covers.desc).map (fun d => d.parameters.length) = some 3 := by decide +kernel
theorem ma0_X2_covers_abs : (Cond.methodLink RX2 71 Lib.Math.abs.name) ∈ wsX2_covers := by decide +kernel
theorem ma1_X2_covers_abs : (Cond.static Lib.Math.abs.name) ∈ wsX2_covers := by decide +kernel
theorem ma2_X2_covers_abs : (Cond.initialized "java/lang/Math") ∈ wsX2_covers := by decide +kernel
theorem ma3_X2_covers_abs : (Cond.code Lib.Math.abs.name Lib.Math.abs.code 1 (some .int)) ∈ wsX2_covers := by decide +kernel
set_option maxHeartbeats 4000000 in
set_option maxRecDepth 100000 in
theorem c_X2_covers (l : Launch) (dC : Nat → ClassId) (dI : Nat → Nat → Nat) (cI cZ cY : ClassId) (h qx qy qh qt qs : Nat) (rw : Nat → Nat) (th : Int32) (n : Nat) (xs ys hs : Nat → Int32) (t : Nat) (tb : Nat → Int32) (sg : Nat → Nat → Int32) (fl : Int32) (k : Int32) (x : Int32) (y : Int32) (ik : vp_in k 36) (i0 : vp_in (r_corner tb k 0) 17) (i1 : vp_in (r_corner tb k 1) 17) (i2 : vp_in (r_corner tb k 2) 17) : Met l yX2_covers wsX2_covers ({ frames := 2, cells := 0, slots := 0, locals := 45 }) (va_Pc [.ref h, .int k, .int x, .int y] (fun U => va_P (dC, dI) vwCl (wR cI cZ cY h qx qy qh qt qs rw th n xs ys hs t tb sg fl) U.heap ∧ va_K (dC, dI) vwCl (gTY cI cZ cY) U)) (vp_Si (fun r => r = bI (r_covers xs ys tb k x y))) 0 0 (fun _ => False) := by
  refine rd_start (cc := cX2_covers) (maxL := 7) (ret := (some .boolean)) RX2 (by decide) rfl rfl (Nat.le_of_ble_eq_true rfl) ?_
  intro p e s m below meth c ⟨hx, hb, hr, hml, hown, hts, hlocks⟩ hP hK ls hl
  have F : CallFix p m c cX2_covers 7 s ([.ref h, .int k, .int x, .int y] : List Value).toArray wsX2_covers RX2 := ⟨hx, hb, hml, hown, hts⟩
  have hl : lv_has ls 7 [(0, .ref h), (1, .int k), (2, .int x), (3, .int y)] := hl
  refine lv_aload_n hx hb dX2_covers_0 rfl (lv_at hl 0 rfl) ?_
  refine lv_iload_n hx hb dX2_covers_1 rfl (lv_at hl 1 rfl) ?_
  refine lv_iconst (v := 0) hx hb dX2_covers_2 (by decide) ?_
  refine rd_cVi (As := [.int k, .int 0]) (rest := []) F (c_X2_corner l dC dI cI cZ cY h qx qy qh qt qs rw th n xs ys hs t tb sg fl k 0 ik) (cwV 2 hts gX2_covers_X2_corner rfl rfl rfl hd_X2_corner ⟨Nat.le_of_ble_eq_true rfl, Nat.le_of_ble_eq_true rfl⟩) hP hK (va_recv hK hP (ci := 2) (q0 := 0) rfl rfl) rfl hl.1 rfl (lv_room (Nat.le_of_ble_eq_true rfl)) dX2_covers_3 ⟨Nat.zero_le _, Nat.zero_le _⟩ ?_
  refine lv_istore (lv' := [(4, .int (r_corner tb k 0)), (0, .ref h), (1, .int k), (2, .int x), (3, .int y)]) hx hb dX2_covers_6 hl (by decide) rfl (fun ls hl => ?_)
  refine lv_aload_n hx hb dX2_covers_8 rfl (lv_at hl 1 rfl) ?_
  refine lv_iload_n hx hb dX2_covers_9 rfl (lv_at hl 2 rfl) ?_
  refine lv_iconst (v := 1) hx hb dX2_covers_10 (by decide) ?_
  refine rd_cVi (As := [.int k, .int 1]) (rest := []) F (c_X2_corner l dC dI cI cZ cY h qx qy qh qt qs rw th n xs ys hs t tb sg fl k 1 ik) (cwV 2 hts gX2_covers_X2_corner rfl rfl rfl hd_X2_corner ⟨Nat.le_of_ble_eq_true rfl, Nat.le_of_ble_eq_true rfl⟩) hP hK (va_recv hK hP (ci := 2) (q0 := 0) rfl rfl) rfl hl.1 rfl (lv_room (Nat.le_of_ble_eq_true rfl)) dX2_covers_11 ⟨Nat.zero_le _, Nat.zero_le _⟩ ?_
  refine lv_istore (lv' := [(5, .int (r_corner tb k 1)), (4, .int (r_corner tb k 0)), (0, .ref h), (1, .int k), (2, .int x), (3, .int y)]) hx hb dX2_covers_14 hl (by decide) rfl (fun ls hl => ?_)
  refine lv_aload_n hx hb dX2_covers_16 rfl (lv_at hl 2 rfl) ?_
  refine lv_iload_n hx hb dX2_covers_17 rfl (lv_at hl 3 rfl) ?_
  refine lv_iconst (v := 2) hx hb dX2_covers_18 (by decide) ?_
  refine rd_cVi (As := [.int k, .int 2]) (rest := []) F (c_X2_corner l dC dI cI cZ cY h qx qy qh qt qs rw th n xs ys hs t tb sg fl k 2 ik) (cwV 2 hts gX2_covers_X2_corner rfl rfl rfl hd_X2_corner ⟨Nat.le_of_ble_eq_true rfl, Nat.le_of_ble_eq_true rfl⟩) hP hK (va_recv hK hP (ci := 2) (q0 := 0) rfl rfl) rfl hl.1 rfl (lv_room (Nat.le_of_ble_eq_true rfl)) dX2_covers_19 ⟨Nat.zero_le _, Nat.zero_le _⟩ ?_
  refine lv_istore (lv' := [(6, .int (r_corner tb k 2)), (5, .int (r_corner tb k 1)), (4, .int (r_corner tb k 0)), (0, .ref h), (1, .int k), (2, .int x), (3, .int y)]) hx hb dX2_covers_22 hl (by decide) rfl (fun ls hl => ?_)
  refine lv_aload_n hx hb dX2_covers_24 rfl (lv_at hl 3 rfl) ?_
  refine lv_iload hx hb dX2_covers_25 (lv_at hl 2 rfl) ?_
  refine lv_iload hx hb dX2_covers_27 (lv_at hl 1 rfl) ?_
  refine lv_iload_n hx hb dX2_covers_29 rfl (lv_at hl 5 rfl) ?_
  refine lv_iload_n hx hb dX2_covers_30 rfl (lv_at hl 6 rfl) ?_
  refine rd_cVi (As := [.int (r_corner tb k 0), .int (r_corner tb k 1), .int x, .int y]) (rest := []) F (c_X2_area l dC dI cI cZ cY h qx qy qh qt qs rw th n xs ys hs t tb sg fl (r_corner tb k 0) (r_corner tb k 1) x y i0 i1) (cwV 4 hts gX2_covers_X2_area rfl rfl rfl hd_X2_area ⟨Nat.le_of_ble_eq_true rfl, Nat.le_of_ble_eq_true rfl⟩) hP hK (va_recv hK hP (ci := 2) (q0 := 0) rfl rfl) rfl hl.1 rfl (lv_room (Nat.le_of_ble_eq_true rfl)) dX2_covers_31 ⟨Nat.zero_le _, Nat.zero_le _⟩ ?_
  refine va_mabs hx hb (hml.trans hl.1.symm) hown (hts _ ma0_X2_covers_abs) (hts _ ma1_X2_covers_abs) (hts _ ma2_X2_covers_abs) (hts _ ma3_X2_covers_abs) (Nat.le_of_ble_eq_true rfl) (Nat.le_of_ble_eq_true rfl) (Nat.zero_le _) (Nat.zero_le _) dX2_covers_34 ?_
  show W _ _ _ _ _ _ _ _ _ _ _ _ _ _ _ (F0 _ _ _ (.int (abs32 (r_area xs ys (r_corner tb k 0) (r_corner tb k 1) x y)) :: _))
  refine lv_aload_n hx hb dX2_covers_37 rfl (lv_at hl 3 rfl) ?_
  refine lv_iload hx hb dX2_covers_38 (lv_at hl 1 rfl) ?_
  refine lv_iload hx hb dX2_covers_40 (lv_at hl 0 rfl) ?_
  refine lv_iload_n hx hb dX2_covers_42 rfl (lv_at hl 5 rfl) ?_
  refine lv_iload_n hx hb dX2_covers_43 rfl (lv_at hl 6 rfl) ?_
  refine rd_cVi (As := [.int (r_corner tb k 1), .int (r_corner tb k 2), .int x, .int y]) (rest := [.int (abs32 (r_area xs ys (r_corner tb k 0) (r_corner tb k 1) x y))]) F (c_X2_area l dC dI cI cZ cY h qx qy qh qt qs rw th n xs ys hs t tb sg fl (r_corner tb k 1) (r_corner tb k 2) x y i1 i2) (cwV 4 hts gX2_covers_X2_area rfl rfl rfl hd_X2_area ⟨Nat.le_of_ble_eq_true rfl, Nat.le_of_ble_eq_true rfl⟩) hP hK (va_recv hK hP (ci := 2) (q0 := 0) rfl rfl) rfl hl.1 rfl (lv_room (Nat.le_of_ble_eq_true rfl)) dX2_covers_44 ⟨Nat.zero_le _, Nat.zero_le _⟩ ?_
  refine va_mabs hx hb (hml.trans hl.1.symm) hown (hts _ ma0_X2_covers_abs) (hts _ ma1_X2_covers_abs) (hts _ ma2_X2_covers_abs) (hts _ ma3_X2_covers_abs) (Nat.le_of_ble_eq_true rfl) (Nat.le_of_ble_eq_true rfl) (Nat.zero_le _) (Nat.zero_le _) dX2_covers_47 ?_
  show W _ _ _ _ _ _ _ _ _ _ _ _ _ _ _ (F0 _ _ _ (.int (abs32 (r_area xs ys (r_corner tb k 1) (r_corner tb k 2) x y)) :: _))
  refine lv_iadd hx hb dX2_covers_50 ?_
  refine lv_aload_n hx hb dX2_covers_51 rfl (lv_at hl 3 rfl) ?_
  refine lv_iload hx hb dX2_covers_52 (lv_at hl 0 rfl) ?_
  refine lv_iload hx hb dX2_covers_54 (lv_at hl 2 rfl) ?_
  refine lv_iload_n hx hb dX2_covers_56 rfl (lv_at hl 5 rfl) ?_
  refine lv_iload_n hx hb dX2_covers_57 rfl (lv_at hl 6 rfl) ?_
  refine rd_cVi (As := [.int (r_corner tb k 2), .int (r_corner tb k 0), .int x, .int y]) (rest := [.int ((abs32 (r_area xs ys (r_corner tb k 0) (r_corner tb k 1) x y)) + (abs32 (r_area xs ys (r_corner tb k 1) (r_corner tb k 2) x y)))]) F (c_X2_area l dC dI cI cZ cY h qx qy qh qt qs rw th n xs ys hs t tb sg fl (r_corner tb k 2) (r_corner tb k 0) x y i2 i0) (cwV 4 hts gX2_covers_X2_area rfl rfl rfl hd_X2_area ⟨Nat.le_of_ble_eq_true rfl, Nat.le_of_ble_eq_true rfl⟩) hP hK (va_recv hK hP (ci := 2) (q0 := 0) rfl rfl) rfl hl.1 rfl (lv_room (Nat.le_of_ble_eq_true rfl)) dX2_covers_58 ⟨Nat.zero_le _, Nat.zero_le _⟩ ?_
  refine va_mabs hx hb (hml.trans hl.1.symm) hown (hts _ ma0_X2_covers_abs) (hts _ ma1_X2_covers_abs) (hts _ ma2_X2_covers_abs) (hts _ ma3_X2_covers_abs) (Nat.le_of_ble_eq_true rfl) (Nat.le_of_ble_eq_true rfl) (Nat.zero_le _) (Nat.zero_le _) dX2_covers_61 ?_
  show W _ _ _ _ _ _ _ _ _ _ _ _ _ _ _ (F0 _ _ _ (.int (abs32 (r_area xs ys (r_corner tb k 2) (r_corner tb k 0) x y)) :: _))
  refine lv_iadd hx hb dX2_covers_64 ?_
  refine lv_aload_n hx hb dX2_covers_65 rfl (lv_at hl 3 rfl) ?_
  refine lv_iload_n hx hb dX2_covers_66 rfl (lv_at hl 4 rfl) ?_
  refine rd_cVi (As := [.int k]) (rest := [.int (((abs32 (r_area xs ys (r_corner tb k 0) (r_corner tb k 1) x y)) + (abs32 (r_area xs ys (r_corner tb k 1) (r_corner tb k 2) x y))) + (abs32 (r_area xs ys (r_corner tb k 2) (r_corner tb k 0) x y)))]) F (c_X2_areaOf l dC dI cI cZ cY h qx qy qh qt qs rw th n xs ys hs t tb sg fl k ik i0 i1 i2) (cwV 1 hts gX2_covers_X2_areaOf rfl rfl rfl hd_X2_areaOf ⟨Nat.le_of_ble_eq_true rfl, Nat.le_of_ble_eq_true rfl⟩) hP hK (va_recv hK hP (ci := 2) (q0 := 0) rfl rfl) rfl hl.1 rfl (lv_room (Nat.le_of_ble_eq_true rfl)) dX2_covers_67 ⟨Nat.zero_le _, Nat.zero_le _⟩ ?_
  refine lv_icmp_ne (tgt := 77) hx hb dX2_covers_70 (by decide) (fun c_1 => ?_) (fun c_1 => ?_)
  · refine lv_iconst (v := 0) hx hb dX2_covers_77 (by decide) ?_
    exact rd_zret hx hb hr hlocks (by first | (rw [r_covers, if_neg c_1]; done) | (rw [r_covers, if_neg c_1]; rfl) | (simp only [r_covers, c_1]; done) | (simp only [r_covers, c_1]; rfl) | (simp [r_covers, c_1, bI]; done)) dX2_covers_78
  · refine lv_iconst (v := 1) hx hb dX2_covers_73 (by decide) ?_
    refine lv_goto (tgt := 78) hx hb dX2_covers_74 (by decide) ?_
    exact rd_zret hx hb hr hlocks (by first | (rw [r_covers, if_pos c_1]; done) | (rw [r_covers, if_pos c_1]; rfl) | (simp only [r_covers, c_1]; done) | (simp only [r_covers, c_1]; rfl) | (simp [r_covers, c_1, bI]; done)) dX2_covers_78
theorem hd_X2_lies : yX2_lies.cls = RX2 ∧ yX2_lies.cls ≠ "java/lang/invoke/MethodHandle" ∧ yX2_lies.cls ≠ "java/lang/invoke/VarHandle" ∧ (parseMethodDescriptor yX2_lies.desc).map (fun d => d.parameters.length) = some 2 := by decide +kernel
