theorem hd_X0_isCairn : yX0_isCairn.cls = RX0 ∧ yX0_isCairn.cls ≠ "java/lang/invoke/MethodHandle" ∧ yX0_isCairn.cls ≠ "java/lang/invoke/VarHandle" ∧ (parseMethodDescriptor yX0_isCairn.desc).map (fun d => d.parameters.length) = some 1 := by decide +kernel
theorem hd_X0_xOf : yX0_xOf.cls = RX0 ∧ yX0_xOf.cls ≠ "java/lang/invoke/MethodHandle" ∧ yX0_xOf.cls ≠ "java/lang/invoke/VarHandle" ∧ (parseMethodDescriptor yX0_xOf.desc).map (fun d => d.parameters.length) = some 1 := by decide +kernel
theorem hd_X0_yOf : yX0_yOf.cls = RX0 ∧ yX0_yOf.cls ≠ "java/lang/invoke/MethodHandle" ∧ yX0_yOf.cls ≠ "java/lang/invoke/VarHandle" ∧ (parseMethodDescriptor yX0_yOf.desc).map (fun d => d.parameters.length) = some 1 := by decide +kernel
theorem hd_X0_leftOf : yX0_leftOf.cls = RX0 ∧ yX0_leftOf.cls ≠ "java/lang/invoke/MethodHandle" ∧ yX0_leftOf.cls ≠ "java/lang/invoke/VarHandle" ∧ (parseMethodDescriptor yX0_leftOf.desc).map (fun d => d.parameters.length) = some 2 := by decide +kernel
theorem hd_X0_corner : yX0_corner.cls = RX0 ∧ yX0_corner.cls ≠ "java/lang/invoke/MethodHandle" ∧ yX0_corner.cls ≠ "java/lang/invoke/VarHandle" ∧ (parseMethodDescriptor yX0_corner.desc).map (fun d => d.parameters.length) = some 2 := by decide +kernel
theorem hd_X0_turn : yX0_turn.cls = RX0 ∧ yX0_turn.cls ≠ "java/lang/invoke/MethodHandle" ∧ yX0_turn.cls ≠ "java/lang/invoke/VarHandle" ∧ (parseMethodDescriptor yX0_turn.desc).map (fun d => d.parameters.length) = some 4 := by decide +kernel
theorem hd_X0_areaOf : yX0_areaOf.cls = RX0 ∧ yX0_areaOf.cls ≠ "java/lang/invoke/MethodHandle" ∧ yX0_areaOf.cls ≠ "java/lang/invoke/VarHandle" ∧ (parseMethodDescriptor yX0_areaOf.desc).map (fun d => d.parameters.length) = some 1 := by decide +kernel
theorem hd_X0_covers : yX0_covers.cls = RX0 ∧ yX0_covers.cls ≠ "java/lang/invoke/MethodHandle" ∧ yX0_covers.cls ≠ "java/lang/invoke/VarHandle" ∧ (parseMethodDescriptor yX0_covers.desc).map (fun d => d.parameters.length) = some 3 := by decide +kernel
theorem hd_X0_circleHolds : yX0_circleHolds.cls = RX0 ∧ yX0_circleHolds.cls ≠ "java/lang/invoke/MethodHandle" ∧ yX0_circleHolds.cls ≠ "java/lang/invoke/VarHandle" ∧ (parseMethodDescriptor yX0_circleHolds.desc).map (fun d => d.parameters.length) = some 5 := by decide +kernel
theorem hd_X0_isEdge : yX0_isEdge.cls = RX0 ∧ yX0_isEdge.cls ≠ "java/lang/invoke/MethodHandle" ∧ yX0_isEdge.cls ≠ "java/lang/invoke/VarHandle" ∧ (parseMethodDescriptor yX0_isEdge.desc).map (fun d => d.parameters.length) = some 2 := by decide +kernel
theorem hd_X0_isInner : yX0_isInner.cls = RX0 ∧ yX0_isInner.cls ≠ "java/lang/invoke/MethodHandle" ∧ yX0_isInner.cls ≠ "java/lang/invoke/VarHandle" ∧ (parseMethodDescriptor yX0_isInner.desc).map (fun d => d.parameters.length) = some 2 := by decide +kernel
theorem hd_X0_mustStay : yX0_mustStay.cls = RX0 ∧ yX0_mustStay.cls ≠ "java/lang/invoke/MethodHandle" ∧ yX0_mustStay.cls ≠ "java/lang/invoke/VarHandle" ∧ (parseMethodDescriptor yX0_mustStay.desc).map (fun d => d.parameters.length) = some 2 := by decide +kernel
theorem hd_X0_isUnfair : yX0_isUnfair.cls = RX0 ∧ yX0_isUnfair.cls ≠ "java/lang/invoke/MethodHandle" ∧ yX0_isUnfair.cls ≠ "java/lang/invoke/VarHandle" ∧ (parseMethodDescriptor yX0_isUnfair.desc).map (fun d => d.parameters.length) = some 2 := by decide +kernel
theorem hd_X0_isTurnable : yX0_isTurnable.cls = RX0 ∧ yX0_isTurnable.cls ≠ "java/lang/invoke/MethodHandle" ∧ yX0_isTurnable.cls ≠ "java/lang/invoke/VarHandle" ∧ (parseMethodDescriptor yX0_isTurnable.desc).map (fun d => d.parameters.length) = some 2 := by decide +kernel
theorem hd_X0_isEdgeThat : yX0_isEdgeThat.cls = RX0 ∧ yX0_isEdgeThat.cls ≠ "java/lang/invoke/MethodHandle" ∧ yX0_isEdgeThat.cls ≠ "java/lang/invoke/VarHandle" ∧ (parseMethodDescriptor yX0_isEdgeThat.desc).map (fun d => d.parameters.length) = some 3 := by decide +kernel
theorem hd_X0_hasCairnAt : yX0_hasCairnAt.cls = RX0 ∧ yX0_hasCairnAt.cls ≠ "java/lang/invoke/MethodHandle" ∧ yX0_hasCairnAt.cls ≠ "java/lang/invoke/VarHandle" ∧ (parseMethodDescriptor yX0_hasCairnAt.desc).map (fun d => d.parameters.length) = some 2 := by decide +kernel
theorem hd_X0_edgesAt : yX0_edgesAt.cls = RX0 ∧ yX0_edgesAt.cls ≠ "java/lang/invoke/MethodHandle" ∧ yX0_edgesAt.cls ≠ "java/lang/invoke/VarHandle" ∧ (parseMethodDescriptor yX0_edgesAt.desc).map (fun d => d.parameters.length) = some 1 := by decide +kernel
theorem hd_X0_trianglesAt : yX0_trianglesAt.cls = RX0 ∧ yX0_trianglesAt.cls ≠ "java/lang/invoke/MethodHandle" ∧ yX0_trianglesAt.cls ≠ "java/lang/invoke/VarHandle" ∧ (parseMethodDescriptor yX0_trianglesAt.desc).map (fun d => d.parameters.length) = some 1 := by decide +kernel
theorem hd_X0_find : yX0_find.cls = RX0 ∧ yX0_find.cls ≠ "java/lang/invoke/MethodHandle" ∧ yX0_find.cls ≠ "java/lang/invoke/VarHandle" ∧ (parseMethodDescriptor yX0_find.desc).map (fun d => d.parameters.length) = some 2 := by decide +kernel
theorem hd_X0_edgesThat : yX0_edgesThat.cls = RX0 ∧ yX0_edgesThat.cls ≠ "java/lang/invoke/MethodHandle" ∧ yX0_edgesThat.cls ≠ "java/lang/invoke/VarHandle" ∧ (parseMethodDescriptor yX0_edgesThat.desc).map (fun d => d.parameters.length) = some 1 := by decide +kernel
theorem in_X0_isCairn_X0 : ∀ w ∈ wsX00, w ∈ wsX0_isCairn := by decide +kernel
theorem fl_X0_isCairn_38 : (Cond.fieldLink RX0 38 "MoorTriangles$Mesh" "cairns" "I") ∈ wsX0_isCairn := by decide +kernel
set_option maxHeartbeats 4000000 in
set_option maxRecDepth 100000 in
theorem c_X0_isCairn (l : Launch) (dC : Nat → ClassId) (dI : Nat → Nat → Nat) (cI cZ cY : ClassId) (h qx qy ql qs qc : Nat) (n t : Nat) (xs ys lf sy co : Nat → Int32) (a : Int32) : Met l yX0_isCairn wsX0_isCairn ({ frames := 0, cells := 0, slots := 0, locals := 0 }) (va_Pc [.ref h, .int a] (fun U => va_P (dC, dI) vwCl (wM cI h qx qy ql qs qc n t xs ys lf sy co) U.heap ∧ va_K (dC, dI) vwCl (gTY cI cZ cY) U)) (vp_Si (fun r => r = bI (m_isCairn n a))) 0 0 (fun _ => False) := by
  refine rd_start (cc := cX0_isCairn) (maxL := 2) (ret := (some .boolean)) RX0 (by decide) rfl rfl (Nat.le_of_ble_eq_true rfl) ?_
  intro p e s m below meth c ⟨hx, hb, hr, hml, hown, hts, hlocks⟩ hP hK ls hl
  have F : CallFix p m c cX0_isCairn 2 s ([.ref h, .int a] : List Value).toArray wsX0_isCairn RX0 := ⟨hx, hb, hml, hown, hts⟩
  have hl : lv_has ls 2 [(0, .ref h), (1, .int a)] := hl
  refine lv_iload_n hx hb dX0_isCairn_0 rfl (lv_at hl 1 rfl) ?_
  refine lv_if_lt (tgt := 22) hx hb dX0_isCairn_1 (by decide) (fun c_1 => ?_) (fun c_1 => ?_)
  · refine lv_iconst (v := 0) hx hb dX0_isCairn_22 (by decide) ?_
    exact rd_zret hx hb hr hlocks (by first | rfl | (simp only [m_isCairn, c_1]; done) | (simp only [m_isCairn, c_1]; rfl) | (simp [m_isCairn, c_1, bI]; done)) dX0_isCairn_23
  · refine lv_iload_n hx hb dX0_isCairn_4 rfl (lv_at hl 1 rfl) ?_
    refine lv_bipush (v := 17) hx hb dX0_isCairn_5 (by decide) ?_
    refine lv_icmp_ge (tgt := 22) hx hb dX0_isCairn_7 (by decide) (fun c_2 => ?_) (fun c_2 => ?_)
    · refine lv_iconst (v := 0) hx hb dX0_isCairn_22 (by decide) ?_
      exact rd_zret hx hb hr hlocks (by first | rfl | (simp only [m_isCairn, c_1, c_2]; done) | (simp only [m_isCairn, c_1, c_2]; rfl) | (simp [m_isCairn, c_1, c_2, bI]; done)) dX0_isCairn_23
    · refine lv_iload_n hx hb dX0_isCairn_10 rfl (lv_at hl 1 rfl) ?_
      refine lv_aload_n hx hb dX0_isCairn_11 rfl (lv_at hl 0 rfl) ?_
      refine va_get (D := (dC, dI)) (ci := 0) (v := .int (nI n)) (C := RX0) (T := TX0) (N := 7) hx hb hts in_X0_isCairn_X0 hown hK hP 0 rfl rfl 0 (by decide) (hts (.fieldLink RX0 38 "MoorTriangles$Mesh" "cairns" "I") fl_X0_isCairn_38) (fun _ h9 => h9) rfl dX0_isCairn_12 ?_
      refine lv_icmp_ge (tgt := 22) hx hb dX0_isCairn_15 (by decide) (fun c_3 => ?_) (fun c_3 => ?_)
      · refine lv_iconst (v := 0) hx hb dX0_isCairn_22 (by decide) ?_
        exact rd_zret hx hb hr hlocks (by first | rfl | (simp only [m_isCairn, c_1, c_2, c_3]; done) | (simp only [m_isCairn, c_1, c_2, c_3]; rfl) | (simp [m_isCairn, c_1, c_2, c_3, bI]; done)) dX0_isCairn_23
      · refine lv_iconst (v := 1) hx hb dX0_isCairn_18 (by decide) ?_
        refine lv_goto (tgt := 23) hx hb dX0_isCairn_19 (by decide) ?_
        exact rd_zret hx hb hr hlocks (by first | rfl | (simp only [m_isCairn, c_1, c_2, c_3]; done) | (simp only [m_isCairn, c_1, c_2, c_3]; rfl) | (simp [m_isCairn, c_1, c_2, c_3, bI]; done)) dX0_isCairn_23
theorem in_X0_xOf_X0 : ∀ w ∈ wsX00, w ∈ wsX0_xOf := by decide +kernel
theorem fl_X0_xOf_11 : (Cond.fieldLink RX0 11 "MoorTriangles$Mesh" "xs" "[I") ∈ wsX0_xOf := by decide +kernel
set_option maxHeartbeats 4000000 in
set_option maxRecDepth 100000 in
theorem c_X0_xOf (l : Launch) (dC : Nat → ClassId) (dI : Nat → Nat → Nat) (cI cZ cY : ClassId) (h qx qy ql qs qc : Nat) (n t : Nat) (xs ys lf sy co : Nat → Int32) (a : Int32) : Met l yX0_xOf wsX0_xOf ({ frames := 0, cells := 0, slots := 0, locals := 0 }) (va_Pc [.ref h, .int a] (fun U => va_P (dC, dI) vwCl (wM cI h qx qy ql qs qc n t xs ys lf sy co) U.heap ∧ va_K (dC, dI) vwCl (gTY cI cZ cY) U)) (vp_Si (fun r => r = m_xOf xs a)) 0 0 (fun _ => False) := by
  refine rd_start (cc := cX0_xOf) (maxL := 2) (ret := (some .int)) RX0 (by decide) rfl rfl (Nat.le_of_ble_eq_true rfl) ?_
  intro p e s m below meth c ⟨hx, hb, hr, hml, hown, hts, hlocks⟩ hP hK ls hl
  have F : CallFix p m c cX0_xOf 2 s ([.ref h, .int a] : List Value).toArray wsX0_xOf RX0 := ⟨hx, hb, hml, hown, hts⟩
  have hl : lv_has ls 2 [(0, .ref h), (1, .int a)] := hl
  refine lv_iload_n hx hb dX0_xOf_0 rfl (lv_at hl 1 rfl) ?_
  refine lv_if_lt (tgt := 19) hx hb dX0_xOf_1 (by decide) (fun c_1 => ?_) (fun c_1 => ?_)
  · refine lv_iconst (v := 0) hx hb dX0_xOf_19 (by decide) ?_
    exact rd_iret hx hb hr hlocks (by first | rfl | (simp only [m_xOf, c_1]; done) | (simp only [m_xOf, c_1]; rfl) | (simp [m_xOf, c_1, bI]; done)) dX0_xOf_20
  · refine lv_iload_n hx hb dX0_xOf_4 rfl (lv_at hl 1 rfl) ?_
    refine lv_bipush (v := 17) hx hb dX0_xOf_5 (by decide) ?_
    refine lv_icmp_ge (tgt := 19) hx hb dX0_xOf_7 (by decide) (fun c_2 => ?_) (fun c_2 => ?_)
    · refine lv_iconst (v := 0) hx hb dX0_xOf_19 (by decide) ?_
      exact rd_iret hx hb hr hlocks (by first | rfl | (simp only [m_xOf, c_1, c_2]; done) | (simp only [m_xOf, c_1, c_2]; rfl) | (simp [m_xOf, c_1, c_2, bI]; done)) dX0_xOf_20
    · refine lv_aload_n hx hb dX0_xOf_10 rfl (lv_at hl 0 rfl) ?_
      refine va_get (D := (dC, dI)) (ci := 0) (v := .ref qx) (C := RX0) (T := TX0) (N := 7) hx hb hts in_X0_xOf_X0 hown hK hP 0 rfl rfl 2 (by decide) (hts (.fieldLink RX0 11 "MoorTriangles$Mesh" "xs" "[I") fl_X0_xOf_11) (fun _ h9 => h9) rfl dX0_xOf_11 ?_
      refine lv_iload_n hx hb dX0_xOf_14 rfl (lv_at hl 1 rfl) ?_
      refine va_iald (D := (dC, dI)) hx hb hK hP 1 0 rfl rfl (in_of 17 (by decide) rfl c_1 c_2) dX0_xOf_15 ?_
      refine lv_goto (tgt := 20) hx hb dX0_xOf_16 (by decide) ?_
      exact rd_iret hx hb hr hlocks (by first | rfl | (simp only [m_xOf, c_1, c_2]; done) | (simp only [m_xOf, c_1, c_2]; rfl) | (simp [m_xOf, c_1, c_2, bI]; done)) dX0_xOf_20
theorem in_X0_yOf_X0 : ∀ w ∈ wsX00, w ∈ wsX0_yOf := by decide +kernel
theorem fl_X0_yOf_15 : (Cond.fieldLink RX0 15 "MoorTriangles$Mesh" "ys" "[I") ∈ wsX0_yOf := by decide +kernel
set_option maxHeartbeats 4000000 in
set_option maxRecDepth 100000 in
theorem c_X0_yOf (l : Launch) (dC : Nat → ClassId) (dI : Nat → Nat → Nat) (cI cZ cY : ClassId) (h qx qy ql qs qc : Nat) (n t : Nat) (xs ys lf sy co : Nat → Int32) (a : Int32) : Met l yX0_yOf wsX0_yOf ({ frames := 0, cells := 0, slots := 0, locals := 0 }) (va_Pc [.ref h, .int a] (fun U => va_P (dC, dI) vwCl (wM cI h qx qy ql qs qc n t xs ys lf sy co) U.heap ∧ va_K (dC, dI) vwCl (gTY cI cZ cY) U)) (vp_Si (fun r => r = m_xOf ys a)) 0 0 (fun _ => False) := by
  refine rd_start (cc := cX0_yOf) (maxL := 2) (ret := (some .int)) RX0 (by decide) rfl rfl (Nat.le_of_ble_eq_true rfl) ?_
  intro p e s m below meth c ⟨hx, hb, hr, hml, hown, hts, hlocks⟩ hP hK ls hl
  have F : CallFix p m c cX0_yOf 2 s ([.ref h, .int a] : List Value).toArray wsX0_yOf RX0 := ⟨hx, hb, hml, hown, hts⟩
  have hl : lv_has ls 2 [(0, .ref h), (1, .int a)] := hl
  refine lv_iload_n hx hb dX0_yOf_0 rfl (lv_at hl 1 rfl) ?_
  refine lv_if_lt (tgt := 19) hx hb dX0_yOf_1 (by decide) (fun c_1 => ?_) (fun c_1 => ?_)
  · refine lv_iconst (v := 0) hx hb dX0_yOf_19 (by decide) ?_
    exact rd_iret hx hb hr hlocks (by first | rfl | (simp only [m_xOf, c_1]; done) | (simp only [m_xOf, c_1]; rfl) | (simp [m_xOf, c_1, bI]; done)) dX0_yOf_20
  · refine lv_iload_n hx hb dX0_yOf_4 rfl (lv_at hl 1 rfl) ?_
    refine lv_bipush (v := 17) hx hb dX0_yOf_5 (by decide) ?_
    refine lv_icmp_ge (tgt := 19) hx hb dX0_yOf_7 (by decide) (fun c_2 => ?_) (fun c_2 => ?_)
    · refine lv_iconst (v := 0) hx hb dX0_yOf_19 (by decide) ?_
      exact rd_iret hx hb hr hlocks (by first | rfl | (simp only [m_xOf, c_1, c_2]; done) | (simp only [m_xOf, c_1, c_2]; rfl) | (simp [m_xOf, c_1, c_2, bI]; done)) dX0_yOf_20
    · refine lv_aload_n hx hb dX0_yOf_10 rfl (lv_at hl 0 rfl) ?_
      refine va_get (D := (dC, dI)) (ci := 0) (v := .ref qy) (C := RX0) (T := TX0) (N := 7) hx hb hts in_X0_yOf_X0 hown hK hP 0 rfl rfl 3 (by decide) (hts (.fieldLink RX0 15 "MoorTriangles$Mesh" "ys" "[I") fl_X0_yOf_15) (fun _ h9 => h9) rfl dX0_yOf_11 ?_
      refine lv_iload_n hx hb dX0_yOf_14 rfl (lv_at hl 1 rfl) ?_
      refine va_iald (D := (dC, dI)) hx hb hK hP 2 0 rfl rfl (in_of 17 (by decide) rfl c_1 c_2) dX0_yOf_15 ?_
      refine lv_goto (tgt := 20) hx hb dX0_yOf_16 (by decide) ?_
      exact rd_iret hx hb hr hlocks (by first | rfl | (simp only [m_xOf, c_1, c_2]; done) | (simp only [m_xOf, c_1, c_2]; rfl) | (simp [m_xOf, c_1, c_2, bI]; done)) dX0_yOf_20
theorem in_X0_leftOf_X0 : ∀ w ∈ wsX00, w ∈ wsX0_leftOf := by decide +kernel
theorem fl_X0_leftOf_18 : (Cond.fieldLink RX0 18 "MoorTriangles$Mesh" "lefts" "[I") ∈ wsX0_leftOf := by decide +kernel
set_option maxHeartbeats 4000000 in
set_option maxRecDepth 100000 in
theorem c_X0_leftOf (l : Launch) (dC : Nat → ClassId) (dI : Nat → Nat → Nat) (cI cZ cY : ClassId) (h qx qy ql qs qc : Nat) (n t : Nat) (xs ys lf sy co : Nat → Int32) (a : Int32) (b : Int32) : Met l yX0_leftOf wsX0_leftOf ({ frames := 0, cells := 0, slots := 0, locals := 0 }) (va_Pc [.ref h, .int a, .int b] (fun U => va_P (dC, dI) vwCl (wM cI h qx qy ql qs qc n t xs ys lf sy co) U.heap ∧ va_K (dC, dI) vwCl (gTY cI cZ cY) U)) (vp_Si (fun r => r = m_leftOf lf a b)) 0 0 (fun _ => False) := by
  refine rd_start (cc := cX0_leftOf) (maxL := 3) (ret := (some .int)) RX0 (by decide) rfl rfl (Nat.le_of_ble_eq_true rfl) ?_
  intro p e s m below meth c ⟨hx, hb, hr, hml, hown, hts, hlocks⟩ hP hK ls hl
  have F : CallFix p m c cX0_leftOf 3 s ([.ref h, .int a, .int b] : List Value).toArray wsX0_leftOf RX0 := ⟨hx, hb, hml, hown, hts⟩
  have hl : lv_has ls 3 [(0, .ref h), (1, .int a), (2, .int b)] := hl
  refine lv_iload_n hx hb dX0_leftOf_0 rfl (lv_at hl 1 rfl) ?_
  refine lv_if_lt (tgt := 34) hx hb dX0_leftOf_1 (by decide) (fun c_1 => ?_) (fun c_1 => ?_)
  · refine lv_iconst (v := (-1)) hx hb dX0_leftOf_34 (by decide) ?_
    exact rd_iret hx hb hr hlocks (by first | rfl | (simp only [m_leftOf, c_1]; done) | (simp only [m_leftOf, c_1]; rfl) | (simp [m_leftOf, c_1, bI]; done)) dX0_leftOf_35
  · refine lv_iload_n hx hb dX0_leftOf_4 rfl (lv_at hl 1 rfl) ?_
    refine lv_bipush (v := 17) hx hb dX0_leftOf_5 (by decide) ?_
    refine lv_icmp_ge (tgt := 34) hx hb dX0_leftOf_7 (by decide) (fun c_2 => ?_) (fun c_2 => ?_)
    · refine lv_iconst (v := (-1)) hx hb dX0_leftOf_34 (by decide) ?_
      exact rd_iret hx hb hr hlocks (by first | rfl | (simp only [m_leftOf, c_1, c_2]; done) | (simp only [m_leftOf, c_1, c_2]; rfl) | (simp [m_leftOf, c_1, c_2, bI]; done)) dX0_leftOf_35
    · refine lv_iload_n hx hb dX0_leftOf_10 rfl (lv_at hl 2 rfl) ?_
      refine lv_if_lt (tgt := 34) hx hb dX0_leftOf_11 (by decide) (fun c_3 => ?_) (fun c_3 => ?_)
      · refine lv_iconst (v := (-1)) hx hb dX0_leftOf_34 (by decide) ?_
        exact rd_iret hx hb hr hlocks (by first | rfl | (simp only [m_leftOf, c_1, c_2, c_3]; done) | (simp only [m_leftOf, c_1, c_2, c_3]; rfl) | (simp [m_leftOf, c_1, c_2, c_3, bI]; done)) dX0_leftOf_35
      · refine lv_iload_n hx hb dX0_leftOf_14 rfl (lv_at hl 2 rfl) ?_
        refine lv_bipush (v := 17) hx hb dX0_leftOf_15 (by decide) ?_
        refine lv_icmp_ge (tgt := 34) hx hb dX0_leftOf_17 (by decide) (fun c_4 => ?_) (fun c_4 => ?_)
        · refine lv_iconst (v := (-1)) hx hb dX0_leftOf_34 (by decide) ?_
          exact rd_iret hx hb hr hlocks (by first | rfl | (simp only [m_leftOf, c_1, c_2, c_3, c_4]; done) | (simp only [m_leftOf, c_1, c_2, c_3, c_4]; rfl) | (simp [m_leftOf, c_1, c_2, c_3, c_4, bI]; done)) dX0_leftOf_35
        · refine lv_aload_n hx hb dX0_leftOf_20 rfl (lv_at hl 0 rfl) ?_
          refine va_get (D := (dC, dI)) (ci := 0) (v := .ref ql) (C := RX0) (T := TX0) (N := 7) hx hb hts in_X0_leftOf_X0 hown hK hP 0 rfl rfl 4 (by decide) (hts (.fieldLink RX0 18 "MoorTriangles$Mesh" "lefts" "[I") fl_X0_leftOf_18) (fun _ h9 => h9) rfl dX0_leftOf_21 ?_
          refine lv_iload_n hx hb dX0_leftOf_24 rfl (lv_at hl 1 rfl) ?_
          refine lv_bipush (v := 17) hx hb dX0_leftOf_25 (by decide) ?_
          refine lv_imul hx hb dX0_leftOf_27 ?_
          refine lv_iload_n hx hb dX0_leftOf_28 rfl (lv_at hl 2 rfl) ?_
          refine lv_iadd hx hb dX0_leftOf_29 ?_
          refine va_iald (D := (dC, dI)) hx hb hK hP 3 0 rfl rfl (in_row c_1 c_2 c_3 c_4) dX0_leftOf_30 ?_
          refine lv_goto (tgt := 35) hx hb dX0_leftOf_31 (by decide) ?_
          exact rd_iret hx hb hr hlocks (by first | rfl | (simp only [m_leftOf, c_1, c_2, c_3, c_4]; done) | (simp only [m_leftOf, c_1, c_2, c_3, c_4]; rfl) | (simp [m_leftOf, c_1, c_2, c_3, c_4, bI]; done)) dX0_leftOf_35
theorem in_X0_corner_X0 : ∀ w ∈ wsX00, w ∈ wsX0_corner := by decide +kernel
theorem fl_X0_corner_24 : (Cond.fieldLink RX0 24 "MoorTriangles$Mesh" "corners" "[I") ∈ wsX0_corner := by decide +kernel
set_option maxHeartbeats 4000000 in
set_option maxRecDepth 100000 in
theorem c_X0_corner (l : Launch) (dC : Nat → ClassId) (dI : Nat → Nat → Nat) (cI cZ cY : ClassId) (h qx qy ql qs qc : Nat) (n t : Nat) (xs ys lf sy co : Nat → Int32) (k : Int32) (w : Int32) : Met l yX0_corner wsX0_corner ({ frames := 0, cells := 0, slots := 0, locals := 0 }) (va_Pc [.ref h, .int k, .int w] (fun U => va_P (dC, dI) vwCl (wM cI h qx qy ql qs qc n t xs ys lf sy co) U.heap ∧ va_K (dC, dI) vwCl (gTY cI cZ cY) U)) (vp_Si (fun r => r = m_corner co k w)) 0 0 (fun _ => False) := by
  refine rd_start (cc := cX0_corner) (maxL := 3) (ret := (some .int)) RX0 (by decide) rfl rfl (Nat.le_of_ble_eq_true rfl) ?_
  intro p e s m below meth c ⟨hx, hb, hr, hml, hown, hts, hlocks⟩ hP hK ls hl
  have F : CallFix p m c cX0_corner 3 s ([.ref h, .int k, .int w] : List Value).toArray wsX0_corner RX0 := ⟨hx, hb, hml, hown, hts⟩
  have hl : lv_has ls 3 [(0, .ref h), (1, .int k), (2, .int w)] := hl
  refine lv_iload_n hx hb dX0_corner_0 rfl (lv_at hl 1 rfl) ?_
  refine lv_if_lt (tgt := 19) hx hb dX0_corner_1 (by decide) (fun c_1 => ?_) (fun c_1 => ?_)
  · refine lv_iconst (v := (-1)) hx hb dX0_corner_19 (by decide) ?_
    exact rd_iret hx hb hr hlocks (by first | rfl | (simp only [m_corner, c_1]; done) | (simp only [m_corner, c_1]; rfl) | (simp [m_corner, c_1, bI]; done)) dX0_corner_20
  · refine lv_iload_n hx hb dX0_corner_4 rfl (lv_at hl 1 rfl) ?_
    refine lv_bipush (v := 28) hx hb dX0_corner_5 (by decide) ?_
    refine lv_icmp_ge (tgt := 19) hx hb dX0_corner_7 (by decide) (fun c_2 => ?_) (fun c_2 => ?_)
    · refine lv_iconst (v := (-1)) hx hb dX0_corner_19 (by decide) ?_
      exact rd_iret hx hb hr hlocks (by first | rfl | (simp only [m_corner, c_1, c_2]; done) | (simp only [m_corner, c_1, c_2]; rfl) | (simp [m_corner, c_1, c_2, bI]; done)) dX0_corner_20
    · refine lv_iload_n hx hb dX0_corner_10 rfl (lv_at hl 2 rfl) ?_
      refine lv_if_lt (tgt := 19) hx hb dX0_corner_11 (by decide) (fun c_3 => ?_) (fun c_3 => ?_)
      · refine lv_iconst (v := (-1)) hx hb dX0_corner_19 (by decide) ?_
        exact rd_iret hx hb hr hlocks (by first | rfl | (simp only [m_corner, c_1, c_2, c_3]; done) | (simp only [m_corner, c_1, c_2, c_3]; rfl) | (simp [m_corner, c_1, c_2, c_3, bI]; done)) dX0_corner_20
      · refine lv_iload_n hx hb dX0_corner_14 rfl (lv_at hl 2 rfl) ?_
        refine lv_iconst (v := 2) hx hb dX0_corner_15 (by decide) ?_
        refine lv_icmp_le (tgt := 21) hx hb dX0_corner_16 (by decide) (fun c_4 => ?_) (fun c_4 => ?_)
        · refine lv_aload_n hx hb dX0_corner_21 rfl (lv_at hl 0 rfl) ?_
          refine va_get (D := (dC, dI)) (ci := 0) (v := .ref qc) (C := RX0) (T := TX0) (N := 7) hx hb hts in_X0_corner_X0 hown hK hP 0 rfl rfl 6 (by decide) (hts (.fieldLink RX0 24 "MoorTriangles$Mesh" "corners" "[I") fl_X0_corner_24) (fun _ h9 => h9) rfl dX0_corner_22 ?_
          refine lv_iconst (v := 3) hx hb dX0_corner_25 (by decide) ?_
          refine lv_iload_n hx hb dX0_corner_26 rfl (lv_at hl 1 rfl) ?_
          refine lv_imul hx hb dX0_corner_27 ?_
          refine lv_iload_n hx hb dX0_corner_28 rfl (lv_at hl 2 rfl) ?_
          refine lv_iadd hx hb dX0_corner_29 ?_
          refine va_iald (D := (dC, dI)) hx hb hK hP 5 0 rfl rfl (in_cor c_1 c_2 c_3 c_4) dX0_corner_30 ?_
          exact rd_iret hx hb hr hlocks (by first | rfl | (simp only [m_corner, c_1, c_2, c_3, c_4]; done) | (simp only [m_corner, c_1, c_2, c_3, c_4]; rfl) | (simp [m_corner, c_1, c_2, c_3, c_4, bI]; done)) dX0_corner_31
        · refine lv_iconst (v := (-1)) hx hb dX0_corner_19 (by decide) ?_
          exact rd_iret hx hb hr hlocks (by first | rfl | (simp only [m_corner, c_1, c_2, c_3, c_4]; done) | (simp only [m_corner, c_1, c_2, c_3, c_4]; rfl) | (simp [m_corner, c_1, c_2, c_3, c_4, bI]; done)) dX0_corner_20
set_option maxHeartbeats 4000000 in
set_option maxRecDepth 100000 in
theorem c_X0_turn (l : Launch) (dC : Nat → ClassId) (dI : Nat → Nat → Nat) (cI cZ cY : ClassId) (h qx qy ql qs qc : Nat) (n t : Nat) (xs ys lf sy co : Nat → Int32) (a : Int32) (b : Int32) (x : Int32) (y : Int32) : Met l yX0_turn wsX0_turn ({ frames := 1, cells := 0, slots := 0, locals := 21 }) (va_Pc [.ref h, .int a, .int b, .int x, .int y] (fun U => va_P (dC, dI) vwCl (wM cI h qx qy ql qs qc n t xs ys lf sy co) U.heap ∧ va_K (dC, dI) vwCl (gTY cI cZ cY) U)) (vp_Si (fun r => r = m_turn xs ys a b x y)) 0 0 (fun _ => False) := by
  refine rd_start (cc := cX0_turn) (maxL := 5) (ret := (some .int)) RX0 (by decide) rfl rfl (Nat.le_of_ble_eq_true rfl) ?_
  intro p e s m below meth c ⟨hx, hb, hr, hml, hown, hts, hlocks⟩ hP hK ls hl
  have F : CallFix p m c cX0_turn 5 s ([.ref h, .int a, .int b, .int x, .int y] : List Value).toArray wsX0_turn RX0 := ⟨hx, hb, hml, hown, hts⟩
  have hl : lv_has ls 5 [(0, .ref h), (1, .int a), (2, .int b), (3, .int x), (4, .int y)] := hl
  refine lv_aload_n hx hb dX0_turn_0 rfl (lv_at hl 0 rfl) ?_
  refine lv_iload_n hx hb dX0_turn_1 rfl (lv_at hl 2 rfl) ?_
  refine rd_cVi (As := [.int b]) (rest := []) F (c_X0_xOf l dC dI cI cZ cY h qx qy ql qs qc n t xs ys lf sy co b) (cwV 1 hts gX0_turn_X0_xOf rfl rfl rfl hd_X0_xOf ⟨Nat.le_of_ble_eq_true rfl, Nat.le_of_ble_eq_true rfl⟩) hP hK (va_recv hK hP (ci := 0) (q0 := 0) rfl rfl) rfl hl.1 rfl (lv_room (Nat.le_of_ble_eq_true rfl)) dX0_turn_2 ⟨Nat.zero_le _, Nat.zero_le _⟩ ?_
  refine lv_aload_n hx hb dX0_turn_5 rfl (lv_at hl 0 rfl) ?_
  refine lv_iload_n hx hb dX0_turn_6 rfl (lv_at hl 1 rfl) ?_
  refine rd_cVi (As := [.int a]) (rest := [.int (m_xOf xs b)]) F (c_X0_xOf l dC dI cI cZ cY h qx qy ql qs qc n t xs ys lf sy co a) (cwV 1 hts gX0_turn_X0_xOf rfl rfl rfl hd_X0_xOf ⟨Nat.le_of_ble_eq_true rfl, Nat.le_of_ble_eq_true rfl⟩) hP hK (va_recv hK hP (ci := 0) (q0 := 0) rfl rfl) rfl hl.1 rfl (lv_room (Nat.le_of_ble_eq_true rfl)) dX0_turn_7 ⟨Nat.zero_le _, Nat.zero_le _⟩ ?_
  refine lv_isub hx hb dX0_turn_10 ?_
  refine lv_iload hx hb dX0_turn_11 (lv_at hl 4 rfl) ?_
  refine lv_aload_n hx hb dX0_turn_13 rfl (lv_at hl 0 rfl) ?_
  refine lv_iload_n hx hb dX0_turn_14 rfl (lv_at hl 1 rfl) ?_
  refine rd_cVi (As := [.int a]) (rest := [.int y, .int ((m_xOf xs b) - (m_xOf xs a))]) F (c_X0_yOf l dC dI cI cZ cY h qx qy ql qs qc n t xs ys lf sy co a) (cwV 1 hts gX0_turn_X0_yOf rfl rfl rfl hd_X0_yOf ⟨Nat.le_of_ble_eq_true rfl, Nat.le_of_ble_eq_true rfl⟩) hP hK (va_recv hK hP (ci := 0) (q0 := 0) rfl rfl) rfl hl.1 rfl (lv_room (Nat.le_of_ble_eq_true rfl)) dX0_turn_15 ⟨Nat.zero_le _, Nat.zero_le _⟩ ?_
  refine lv_isub hx hb dX0_turn_18 ?_
  refine lv_imul hx hb dX0_turn_19 ?_
  refine lv_aload_n hx hb dX0_turn_20 rfl (lv_at hl 0 rfl) ?_
  refine lv_iload_n hx hb dX0_turn_21 rfl (lv_at hl 2 rfl) ?_
  refine rd_cVi (As := [.int b]) (rest := [.int (((m_xOf xs b) - (m_xOf xs a)) * (y - (m_xOf ys a)))]) F (c_X0_yOf l dC dI cI cZ cY h qx qy ql qs qc n t xs ys lf sy co b) (cwV 1 hts gX0_turn_X0_yOf rfl rfl rfl hd_X0_yOf ⟨Nat.le_of_ble_eq_true rfl, Nat.le_of_ble_eq_true rfl⟩) hP hK (va_recv hK hP (ci := 0) (q0 := 0) rfl rfl) rfl hl.1 rfl (lv_room (Nat.le_of_ble_eq_true rfl)) dX0_turn_22 ⟨Nat.zero_le _, Nat.zero_le _⟩ ?_
  refine lv_aload_n hx hb dX0_turn_25 rfl (lv_at hl 0 rfl) ?_
  refine lv_iload_n hx hb dX0_turn_26 rfl (lv_at hl 1 rfl) ?_
  refine rd_cVi (As := [.int a]) (rest := [.int (m_xOf ys b), .int (((m_xOf xs b) - (m_xOf xs a)) * (y - (m_xOf ys a)))]) F (c_X0_yOf l dC dI cI cZ cY h qx qy ql qs qc n t xs ys lf sy co a) (cwV 1 hts gX0_turn_X0_yOf rfl rfl rfl hd_X0_yOf ⟨Nat.le_of_ble_eq_true rfl, Nat.le_of_ble_eq_true rfl⟩) hP hK (va_recv hK hP (ci := 0) (q0 := 0) rfl rfl) rfl hl.1 rfl (lv_room (Nat.le_of_ble_eq_true rfl)) dX0_turn_27 ⟨Nat.zero_le _, Nat.zero_le _⟩ ?_
  refine lv_isub hx hb dX0_turn_30 ?_
  refine lv_iload_n hx hb dX0_turn_31 rfl (lv_at hl 3 rfl) ?_
  refine lv_aload_n hx hb dX0_turn_32 rfl (lv_at hl 0 rfl) ?_
  refine lv_iload_n hx hb dX0_turn_33 rfl (lv_at hl 1 rfl) ?_
  refine rd_cVi (As := [.int a]) (rest := [.int x, .int ((m_xOf ys b) - (m_xOf ys a)), .int (((m_xOf xs b) - (m_xOf xs a)) * (y - (m_xOf ys a)))]) F (c_X0_xOf l dC dI cI cZ cY h qx qy ql qs qc n t xs ys lf sy co a) (cwV 1 hts gX0_turn_X0_xOf rfl rfl rfl hd_X0_xOf ⟨Nat.le_of_ble_eq_true rfl, Nat.le_of_ble_eq_true rfl⟩) hP hK (va_recv hK hP (ci := 0) (q0 := 0) rfl rfl) rfl hl.1 rfl (lv_room (Nat.le_of_ble_eq_true rfl)) dX0_turn_34 ⟨Nat.zero_le _, Nat.zero_le _⟩ ?_
  refine lv_isub hx hb dX0_turn_37 ?_
  refine lv_imul hx hb dX0_turn_38 ?_
  refine lv_isub hx hb dX0_turn_39 ?_
  exact rd_iret hx hb hr hlocks (by first | rfl | (simp only [m_turn]; done) | (simp only [m_turn]; rfl) | (simp [m_turn, bI]; done)) dX0_turn_40
theorem ma0_X0_areaOf_abs : (Cond.methodLink RX0 81 Lib.Math.abs.name) ∈ wsX0_areaOf := by decide +kernel
theorem ma1_X0_areaOf_abs : (Cond.static Lib.Math.abs.name) ∈ wsX0_areaOf := by decide +kernel
theorem ma2_X0_areaOf_abs : (Cond.initialized "java/lang/Math") ∈ wsX0_areaOf := by decide +kernel
theorem ma3_X0_areaOf_abs : (Cond.code Lib.Math.abs.name Lib.Math.abs.code 1 (some .int)) ∈ wsX0_areaOf := by decide +kernel
set_option maxHeartbeats 4000000 in
set_option maxRecDepth 100000 in
theorem c_X0_areaOf (l : Launch) (dC : Nat → ClassId) (dI : Nat → Nat → Nat) (cI cZ cY : ClassId) (h qx qy ql qs qc : Nat) (n t : Nat) (xs ys lf sy co : Nat → Int32) (k : Int32) : Met l yX0_areaOf wsX0_areaOf ({ frames := 2, cells := 0, slots := 0, locals := 45 }) (va_Pc [.ref h, .int k] (fun U => va_P (dC, dI) vwCl (wM cI h qx qy ql qs qc n t xs ys lf sy co) U.heap ∧ va_K (dC, dI) vwCl (gTY cI cZ cY) U)) (vp_Si (fun r => r = m_areaOf xs ys co k)) 0 0 (fun _ => False) := by
  refine rd_start (cc := cX0_areaOf) (maxL := 3) (ret := (some .int)) RX0 (by decide) rfl rfl (Nat.le_of_ble_eq_true rfl) ?_
  intro p e s m below meth c ⟨hx, hb, hr, hml, hown, hts, hlocks⟩ hP hK ls hl
  have F : CallFix p m c cX0_areaOf 3 s ([.ref h, .int k] : List Value).toArray wsX0_areaOf RX0 := ⟨hx, hb, hml, hown, hts⟩
  have hl : lv_has ls 3 [(0, .ref h), (1, .int k)] := hl
  refine lv_aload_n hx hb dX0_areaOf_0 rfl (lv_at hl 0 rfl) ?_
  refine lv_iload_n hx hb dX0_areaOf_1 rfl (lv_at hl 1 rfl) ?_
  refine lv_iconst (v := 2) hx hb dX0_areaOf_2 (by decide) ?_
  refine rd_cVi (As := [.int k, .int 2]) (rest := []) F (c_X0_corner l dC dI cI cZ cY h qx qy ql qs qc n t xs ys lf sy co k 2) (cwV 2 hts gX0_areaOf_X0_corner rfl rfl rfl hd_X0_corner ⟨Nat.le_of_ble_eq_true rfl, Nat.le_of_ble_eq_true rfl⟩) hP hK (va_recv hK hP (ci := 0) (q0 := 0) rfl rfl) rfl hl.1 rfl (lv_room (Nat.le_of_ble_eq_true rfl)) dX0_areaOf_3 ⟨Nat.zero_le _, Nat.zero_le _⟩ ?_
  refine lv_istore_n (lv' := [(2, .int (m_corner co k 2)), (0, .ref h), (1, .int k)]) hx hb dX0_areaOf_6 rfl hl (by decide) rfl (fun ls hl => ?_)
  refine lv_aload_n hx hb dX0_areaOf_7 rfl (lv_at hl 1 rfl) ?_
  refine lv_aload_n hx hb dX0_areaOf_8 rfl (lv_at hl 1 rfl) ?_
  refine lv_iload_n hx hb dX0_areaOf_9 rfl (lv_at hl 2 rfl) ?_
  refine lv_iconst (v := 0) hx hb dX0_areaOf_10 (by decide) ?_
  refine rd_cVi (As := [.int k, .int 0]) (rest := [.ref h]) F (c_X0_corner l dC dI cI cZ cY h qx qy ql qs qc n t xs ys lf sy co k 0) (cwV 2 hts gX0_areaOf_X0_corner rfl rfl rfl hd_X0_corner ⟨Nat.le_of_ble_eq_true rfl, Nat.le_of_ble_eq_true rfl⟩) hP hK (va_recv hK hP (ci := 0) (q0 := 0) rfl rfl) rfl hl.1 rfl (lv_room (Nat.le_of_ble_eq_true rfl)) dX0_areaOf_11 ⟨Nat.zero_le _, Nat.zero_le _⟩ ?_
  refine lv_aload_n hx hb dX0_areaOf_14 rfl (lv_at hl 1 rfl) ?_
  refine lv_iload_n hx hb dX0_areaOf_15 rfl (lv_at hl 2 rfl) ?_
  refine lv_iconst (v := 1) hx hb dX0_areaOf_16 (by decide) ?_
  refine rd_cVi (As := [.int k, .int 1]) (rest := [.int (m_corner co k 0), .ref h]) F (c_X0_corner l dC dI cI cZ cY h qx qy ql qs qc n t xs ys lf sy co k 1) (cwV 2 hts gX0_areaOf_X0_corner rfl rfl rfl hd_X0_corner ⟨Nat.le_of_ble_eq_true rfl, Nat.le_of_ble_eq_true rfl⟩) hP hK (va_recv hK hP (ci := 0) (q0 := 0) rfl rfl) rfl hl.1 rfl (lv_room (Nat.le_of_ble_eq_true rfl)) dX0_areaOf_17 ⟨Nat.zero_le _, Nat.zero_le _⟩ ?_
  refine lv_aload_n hx hb dX0_areaOf_20 rfl (lv_at hl 1 rfl) ?_
  refine lv_iload_n hx hb dX0_areaOf_21 rfl (lv_at hl 0 rfl) ?_
  refine rd_cVi (As := [.int (m_corner co k 2)]) (rest := [.int (m_corner co k 1), .int (m_corner co k 0), .ref h]) F (c_X0_xOf l dC dI cI cZ cY h qx qy ql qs qc n t xs ys lf sy co (m_corner co k 2)) (cwV 1 hts gX0_areaOf_X0_xOf rfl rfl rfl hd_X0_xOf ⟨Nat.le_of_ble_eq_true rfl, Nat.le_of_ble_eq_true rfl⟩) hP hK (va_recv hK hP (ci := 0) (q0 := 0) rfl rfl) rfl hl.1 rfl (lv_room (Nat.le_of_ble_eq_true rfl)) dX0_areaOf_22 ⟨Nat.zero_le _, Nat.zero_le _⟩ ?_
  refine lv_aload_n hx hb dX0_areaOf_25 rfl (lv_at hl 1 rfl) ?_
  refine lv_iload_n hx hb dX0_areaOf_26 rfl (lv_at hl 0 rfl) ?_
  refine rd_cVi (As := [.int (m_corner co k 2)]) (rest := [.int (m_xOf xs (m_corner co k 2)), .int (m_corner co k 1), .int (m_corner co k 0), .ref h]) F (c_X0_yOf l dC dI cI cZ cY h qx qy ql qs qc n t xs ys lf sy co (m_corner co k 2)) (cwV 1 hts gX0_areaOf_X0_yOf rfl rfl rfl hd_X0_yOf ⟨Nat.le_of_ble_eq_true rfl, Nat.le_of_ble_eq_true rfl⟩) hP hK (va_recv hK hP (ci := 0) (q0 := 0) rfl rfl) rfl hl.1 rfl (lv_room (Nat.le_of_ble_eq_true rfl)) dX0_areaOf_27 ⟨Nat.zero_le _, Nat.zero_le _⟩ ?_
  refine rd_cVi (As := [.int (m_corner co k 0), .int (m_corner co k 1), .int (m_xOf xs (m_corner co k 2)), .int (m_xOf ys (m_corner co k 2))]) (rest := []) F (c_X0_turn l dC dI cI cZ cY h qx qy ql qs qc n t xs ys lf sy co (m_corner co k 0) (m_corner co k 1) (m_xOf xs (m_corner co k 2)) (m_xOf ys (m_corner co k 2))) (cwV 4 hts gX0_areaOf_X0_turn rfl rfl rfl hd_X0_turn ⟨Nat.le_of_ble_eq_true rfl, Nat.le_of_ble_eq_true rfl⟩) hP hK (va_recv hK hP (ci := 0) (q0 := 0) rfl rfl) rfl hl.1 rfl (lv_room (Nat.le_of_ble_eq_true rfl)) dX0_areaOf_30 ⟨Nat.zero_le _, Nat.zero_le _⟩ ?_
  refine va_mabs hx hb (hml.trans hl.1.symm) hown (hts _ ma0_X0_areaOf_abs) (hts _ ma1_X0_areaOf_abs) (hts _ ma2_X0_areaOf_abs) (hts _ ma3_X0_areaOf_abs) (Nat.le_of_ble_eq_true rfl) (Nat.le_of_ble_eq_true rfl) (Nat.zero_le _) (Nat.zero_le _) dX0_areaOf_33 ?_
  show W _ _ _ _ _ _ _ _ _ _ _ _ _ _ _ (F0 _ _ _ (.int (abs32 (m_turn xs ys (m_corner co k 0) (m_corner co k 1) (m_xOf xs (m_corner co k 2)) (m_xOf ys (m_corner co k 2)))) :: _))
  exact rd_iret hx hb hr hlocks (by first | rfl | (simp only [m_areaOf]; done) | (simp only [m_areaOf]; rfl) | (simp [m_areaOf, bI]; done)) dX0_areaOf_36
set_option maxHeartbeats 4000000 in
set_option maxRecDepth 100000 in
theorem c_X0_covers (l : Launch) (dC : Nat → ClassId) (dI : Nat → Nat → Nat) (cI cZ cY : ClassId) (h qx qy ql qs qc : Nat) (n t : Nat) (xs ys lf sy co : Nat → Int32) (k : Int32) (x : Int32) (y : Int32) : Met l yX0_covers wsX0_covers ({ frames := 2, cells := 0, slots := 0, locals := 45 }) (va_Pc [.ref h, .int k, .int x, .int y] (fun U => va_P (dC, dI) vwCl (wM cI h qx qy ql qs qc n t xs ys lf sy co) U.heap ∧ va_K (dC, dI) vwCl (gTY cI cZ cY) U)) (vp_Si (fun r => r = bI (m_covers xs ys co k x y))) 0 0 (fun _ => False) := by
  refine rd_start (cc := cX0_covers) (maxL := 10) (ret := (some .boolean)) RX0 (by decide) rfl rfl (Nat.le_of_ble_eq_true rfl) ?_
  intro p e s m below meth c ⟨hx, hb, hr, hml, hown, hts, hlocks⟩ hP hK ls hl
  have F : CallFix p m c cX0_covers 10 s ([.ref h, .int k, .int x, .int y] : List Value).toArray wsX0_covers RX0 := ⟨hx, hb, hml, hown, hts⟩
  have hl : lv_has ls 10 [(0, .ref h), (1, .int k), (2, .int x), (3, .int y)] := hl
  refine lv_aload_n hx hb dX0_covers_0 rfl (lv_at hl 0 rfl) ?_
  refine lv_iload_n hx hb dX0_covers_1 rfl (lv_at hl 1 rfl) ?_
  refine lv_iconst (v := 0) hx hb dX0_covers_2 (by decide) ?_
  refine rd_cVi (As := [.int k, .int 0]) (rest := []) F (c_X0_corner l dC dI cI cZ cY h qx qy ql qs qc n t xs ys lf sy co k 0) (cwV 2 hts gX0_covers_X0_corner rfl rfl rfl hd_X0_corner ⟨Nat.le_of_ble_eq_true rfl, Nat.le_of_ble_eq_true rfl⟩) hP hK (va_recv hK hP (ci := 0) (q0 := 0) rfl rfl) rfl hl.1 rfl (lv_room (Nat.le_of_ble_eq_true rfl)) dX0_covers_3 ⟨Nat.zero_le _, Nat.zero_le _⟩ ?_
  refine lv_istore (lv' := [(4, .int (m_corner co k 0)), (0, .ref h), (1, .int k), (2, .int x), (3, .int y)]) hx hb dX0_covers_6 hl (by decide) rfl (fun ls hl => ?_)
  refine lv_aload_n hx hb dX0_covers_8 rfl (lv_at hl 1 rfl) ?_
  refine lv_iload_n hx hb dX0_covers_9 rfl (lv_at hl 2 rfl) ?_
  refine lv_iconst (v := 1) hx hb dX0_covers_10 (by decide) ?_
  refine rd_cVi (As := [.int k, .int 1]) (rest := []) F (c_X0_corner l dC dI cI cZ cY h qx qy ql qs qc n t xs ys lf sy co k 1) (cwV 2 hts gX0_covers_X0_corner rfl rfl rfl hd_X0_corner ⟨Nat.le_of_ble_eq_true rfl, Nat.le_of_ble_eq_true rfl⟩) hP hK (va_recv hK hP (ci := 0) (q0 := 0) rfl rfl) rfl hl.1 rfl (lv_room (Nat.le_of_ble_eq_true rfl)) dX0_covers_11 ⟨Nat.zero_le _, Nat.zero_le _⟩ ?_
  refine lv_istore (lv' := [(5, .int (m_corner co k 1)), (4, .int (m_corner co k 0)), (0, .ref h), (1, .int k), (2, .int x), (3, .int y)]) hx hb dX0_covers_14 hl (by decide) rfl (fun ls hl => ?_)
  refine lv_aload_n hx hb dX0_covers_16 rfl (lv_at hl 2 rfl) ?_
  refine lv_iload_n hx hb dX0_covers_17 rfl (lv_at hl 3 rfl) ?_
  refine lv_iconst (v := 2) hx hb dX0_covers_18 (by decide) ?_
  refine rd_cVi (As := [.int k, .int 2]) (rest := []) F (c_X0_corner l dC dI cI cZ cY h qx qy ql qs qc n t xs ys lf sy co k 2) (cwV 2 hts gX0_covers_X0_corner rfl rfl rfl hd_X0_corner ⟨Nat.le_of_ble_eq_true rfl, Nat.le_of_ble_eq_true rfl⟩) hP hK (va_recv hK hP (ci := 0) (q0 := 0) rfl rfl) rfl hl.1 rfl (lv_room (Nat.le_of_ble_eq_true rfl)) dX0_covers_19 ⟨Nat.zero_le _, Nat.zero_le _⟩ ?_
  refine lv_istore (lv' := [(6, .int (m_corner co k 2)), (5, .int (m_corner co k 1)), (4, .int (m_corner co k 0)), (0, .ref h), (1, .int k), (2, .int x), (3, .int y)]) hx hb dX0_covers_22 hl (by decide) rfl (fun ls hl => ?_)
  refine lv_aload_n hx hb dX0_covers_24 rfl (lv_at hl 3 rfl) ?_
  refine lv_iload hx hb dX0_covers_25 (lv_at hl 2 rfl) ?_
  refine lv_iload hx hb dX0_covers_27 (lv_at hl 1 rfl) ?_
  refine lv_iload_n hx hb dX0_covers_29 rfl (lv_at hl 5 rfl) ?_
  refine lv_iload_n hx hb dX0_covers_30 rfl (lv_at hl 6 rfl) ?_
  refine rd_cVi (As := [.int (m_corner co k 0), .int (m_corner co k 1), .int x, .int y]) (rest := []) F (c_X0_turn l dC dI cI cZ cY h qx qy ql qs qc n t xs ys lf sy co (m_corner co k 0) (m_corner co k 1) x y) (cwV 4 hts gX0_covers_X0_turn rfl rfl rfl hd_X0_turn ⟨Nat.le_of_ble_eq_true rfl, Nat.le_of_ble_eq_true rfl⟩) hP hK (va_recv hK hP (ci := 0) (q0 := 0) rfl rfl) rfl hl.1 rfl (lv_room (Nat.le_of_ble_eq_true rfl)) dX0_covers_31 ⟨Nat.zero_le _, Nat.zero_le _⟩ ?_
  refine lv_istore (lv' := [(7, .int (m_turn xs ys (m_corner co k 0) (m_corner co k 1) x y)), (6, .int (m_corner co k 2)), (5, .int (m_corner co k 1)), (4, .int (m_corner co k 0)), (0, .ref h), (1, .int k), (2, .int x), (3, .int y)]) hx hb dX0_covers_34 hl (by decide) rfl (fun ls hl => ?_)
  refine lv_aload_n hx hb dX0_covers_36 rfl (lv_at hl 4 rfl) ?_
  refine lv_iload hx hb dX0_covers_37 (lv_at hl 2 rfl) ?_
  refine lv_iload hx hb dX0_covers_39 (lv_at hl 1 rfl) ?_
  refine lv_iload_n hx hb dX0_covers_41 rfl (lv_at hl 6 rfl) ?_
  refine lv_iload_n hx hb dX0_covers_42 rfl (lv_at hl 7 rfl) ?_
  refine rd_cVi (As := [.int (m_corner co k 1), .int (m_corner co k 2), .int x, .int y]) (rest := []) F (c_X0_turn l dC dI cI cZ cY h qx qy ql qs qc n t xs ys lf sy co (m_corner co k 1) (m_corner co k 2) x y) (cwV 4 hts gX0_covers_X0_turn rfl rfl rfl hd_X0_turn ⟨Nat.le_of_ble_eq_true rfl, Nat.le_of_ble_eq_true rfl⟩) hP hK (va_recv hK hP (ci := 0) (q0 := 0) rfl rfl) rfl hl.1 rfl (lv_room (Nat.le_of_ble_eq_true rfl)) dX0_covers_43 ⟨Nat.zero_le _, Nat.zero_le _⟩ ?_
  refine lv_istore (lv' := [(8, .int (m_turn xs ys (m_corner co k 1) (m_corner co k 2) x y)), (7, .int (m_turn xs ys (m_corner co k 0) (m_corner co k 1) x y)), (6, .int (m_corner co k 2)), (5, .int (m_corner co k 1)), (4, .int (m_corner co k 0)), (0, .ref h), (1, .int k), (2, .int x), (3, .int y)]) hx hb dX0_covers_46 hl (by decide) rfl (fun ls hl => ?_)
  refine lv_aload_n hx hb dX0_covers_48 rfl (lv_at hl 5 rfl) ?_
  refine lv_iload hx hb dX0_covers_49 (lv_at hl 2 rfl) ?_
  refine lv_iload hx hb dX0_covers_51 (lv_at hl 4 rfl) ?_
  refine lv_iload_n hx hb dX0_covers_53 rfl (lv_at hl 7 rfl) ?_
  refine lv_iload_n hx hb dX0_covers_54 rfl (lv_at hl 8 rfl) ?_
  refine rd_cVi (As := [.int (m_corner co k 2), .int (m_corner co k 0), .int x, .int y]) (rest := []) F (c_X0_turn l dC dI cI cZ cY h qx qy ql qs qc n t xs ys lf sy co (m_corner co k 2) (m_corner co k 0) x y) (cwV 4 hts gX0_covers_X0_turn rfl rfl rfl hd_X0_turn ⟨Nat.le_of_ble_eq_true rfl, Nat.le_of_ble_eq_true rfl⟩) hP hK (va_recv hK hP (ci := 0) (q0 := 0) rfl rfl) rfl hl.1 rfl (lv_room (Nat.le_of_ble_eq_true rfl)) dX0_covers_55 ⟨Nat.zero_le _, Nat.zero_le _⟩ ?_
  refine lv_istore (lv' := [(9, .int (m_turn xs ys (m_corner co k 2) (m_corner co k 0) x y)), (8, .int (m_turn xs ys (m_corner co k 1) (m_corner co k 2) x y)), (7, .int (m_turn xs ys (m_corner co k 0) (m_corner co k 1) x y)), (6, .int (m_corner co k 2)), (5, .int (m_corner co k 1)), (4, .int (m_corner co k 0)), (0, .ref h), (1, .int k), (2, .int x), (3, .int y)]) hx hb dX0_covers_58 hl (by decide) rfl (fun ls hl => ?_)
  refine lv_iload hx hb dX0_covers_60 (lv_at hl 2 rfl) ?_
  refine lv_if_lt (tgt := 75) hx hb dX0_covers_62 (by decide) (fun c_1 => ?_) (fun c_1 => ?_)
  · refine lv_iload hx hb dX0_covers_75 (lv_at hl 2 rfl) ?_
    refine lv_if_gt (tgt := 94) hx hb dX0_covers_77 (by decide) (fun c_2 => ?_) (fun c_2 => ?_)
    · refine lv_iconst (v := 0) hx hb dX0_covers_94 (by decide) ?_
      exact rd_zret hx hb hr hlocks (by simp [m_covers, m_covA, m_covB, bI, c_1, c_2]) dX0_covers_95
    · refine lv_iload hx hb dX0_covers_80 (lv_at hl 1 rfl) ?_
      refine lv_if_gt (tgt := 94) hx hb dX0_covers_82 (by decide) (fun c_3 => ?_) (fun c_3 => ?_)
      · refine lv_iconst (v := 0) hx hb dX0_covers_94 (by decide) ?_
        exact rd_zret hx hb hr hlocks (by simp [m_covers, m_covA, m_covB, bI, c_1, c_2, c_3]) dX0_covers_95
      · refine lv_iload hx hb dX0_covers_85 (lv_at hl 0 rfl) ?_
        refine lv_if_gt (tgt := 94) hx hb dX0_covers_87 (by decide) (fun c_4 => ?_) (fun c_4 => ?_)
        · refine lv_iconst (v := 0) hx hb dX0_covers_94 (by decide) ?_
          exact rd_zret hx hb hr hlocks (by simp [m_covers, m_covA, m_covB, bI, c_1, c_2, c_3, c_4]) dX0_covers_95
        · refine lv_iconst (v := 1) hx hb dX0_covers_90 (by decide) ?_
          refine lv_goto (tgt := 95) hx hb dX0_covers_91 (by decide) ?_
          exact rd_zret hx hb hr hlocks (by simp [m_covers, m_covA, m_covB, bI, c_1, c_2, c_3, c_4]) dX0_covers_95
  · refine lv_iload hx hb dX0_covers_65 (lv_at hl 1 rfl) ?_
    refine lv_if_lt (tgt := 75) hx hb dX0_covers_67 (by decide) (fun c_5 => ?_) (fun c_5 => ?_)
    · refine lv_iload hx hb dX0_covers_75 (lv_at hl 2 rfl) ?_
      refine lv_if_gt (tgt := 94) hx hb dX0_covers_77 (by decide) (fun c_6 => ?_) (fun c_6 => ?_)
      · refine lv_iconst (v := 0) hx hb dX0_covers_94 (by decide) ?_
        exact rd_zret hx hb hr hlocks (by simp [m_covers, m_covA, m_covB, bI, c_1, c_5, c_6]) dX0_covers_95
      · refine lv_iload hx hb dX0_covers_80 (lv_at hl 1 rfl) ?_
        refine lv_if_gt (tgt := 94) hx hb dX0_covers_82 (by decide) (fun c_7 => ?_) (fun c_7 => ?_)
        · refine lv_iconst (v := 0) hx hb dX0_covers_94 (by decide) ?_
          exact rd_zret hx hb hr hlocks (by simp [m_covers, m_covA, m_covB, bI, c_1, c_5, c_6, c_7]) dX0_covers_95
        · refine lv_iload hx hb dX0_covers_85 (lv_at hl 0 rfl) ?_
          refine lv_if_gt (tgt := 94) hx hb dX0_covers_87 (by decide) (fun c_8 => ?_) (fun c_8 => ?_)
          · refine lv_iconst (v := 0) hx hb dX0_covers_94 (by decide) ?_
            exact rd_zret hx hb hr hlocks (by simp [m_covers, m_covA, m_covB, bI, c_1, c_5, c_6, c_7, c_8]) dX0_covers_95
          · refine lv_iconst (v := 1) hx hb dX0_covers_90 (by decide) ?_
            refine lv_goto (tgt := 95) hx hb dX0_covers_91 (by decide) ?_
            exact rd_zret hx hb hr hlocks (by simp [m_covers, m_covA, m_covB, bI, c_1, c_5, c_6, c_7, c_8]) dX0_covers_95
    · refine lv_iload hx hb dX0_covers_70 (lv_at hl 0 rfl) ?_
      refine lv_if_ge (tgt := 90) hx hb dX0_covers_72 (by decide) (fun c_9 => ?_) (fun c_9 => ?_)
      · refine lv_iconst (v := 1) hx hb dX0_covers_90 (by decide) ?_
        refine lv_goto (tgt := 95) hx hb dX0_covers_91 (by decide) ?_
        exact rd_zret hx hb hr hlocks (by simp [m_covers, m_covA, m_covB, bI, c_1, c_5, c_9]) dX0_covers_95
      · refine lv_iload hx hb dX0_covers_75 (lv_at hl 2 rfl) ?_
        refine lv_if_gt (tgt := 94) hx hb dX0_covers_77 (by decide) (fun c_10 => ?_) (fun c_10 => ?_)
        · refine lv_iconst (v := 0) hx hb dX0_covers_94 (by decide) ?_
          exact rd_zret hx hb hr hlocks (by simp [m_covers, m_covA, m_covB, bI, c_1, c_5, c_9, c_10]) dX0_covers_95
        · refine lv_iload hx hb dX0_covers_80 (lv_at hl 1 rfl) ?_
          refine lv_if_gt (tgt := 94) hx hb dX0_covers_82 (by decide) (fun c_11 => ?_) (fun c_11 => ?_)
          · refine lv_iconst (v := 0) hx hb dX0_covers_94 (by decide) ?_
            exact rd_zret hx hb hr hlocks (by simp [m_covers, m_covA, m_covB, bI, c_1, c_5, c_9, c_10, c_11]) dX0_covers_95
          · refine lv_iload hx hb dX0_covers_85 (lv_at hl 0 rfl) ?_
            refine lv_if_gt (tgt := 94) hx hb dX0_covers_87 (by decide) (fun c_12 => ?_) (fun c_12 => ?_)
            · refine lv_iconst (v := 0) hx hb dX0_covers_94 (by decide) ?_
              exact rd_zret hx hb hr hlocks (by simp [m_covers, m_covA, m_covB, bI, c_1, c_5, c_9, c_10, c_11, c_12]) dX0_covers_95
            · refine lv_iconst (v := 1) hx hb dX0_covers_90 (by decide) ?_
              refine lv_goto (tgt := 95) hx hb dX0_covers_91 (by decide) ?_
              exact rd_zret hx hb hr hlocks (by simp [m_covers, m_covA, m_covB, bI, c_1, c_5, c_9, c_10, c_11, c_12]) dX0_covers_95
set_option maxHeartbeats 4000000 in
set_option maxRecDepth 100000 in
theorem c_X0_circleHolds (l : Launch) (dC : Nat → ClassId) (dI : Nat → Nat → Nat) (cI cZ cY : ClassId) (h qx qy ql qs qc : Nat) (n t : Nat) (xs ys lf sy co : Nat → Int32) (a : Int32) (b : Int32) (c9 : Int32) (x : Int32) (y : Int32) : Met l yX0_circleHolds wsX0_circleHolds ({ frames := 1, cells := 0, slots := 0, locals := 21 }) (va_Pc [.ref h, .int a, .int b, .int c9, .int x, .int y] (fun U => va_P (dC, dI) vwCl (wM cI h qx qy ql qs qc n t xs ys lf sy co) U.heap ∧ va_K (dC, dI) vwCl (gTY cI cZ cY) U)) (vp_Si (fun r => r = bI (m_circleHolds xs ys a b c9 x y))) 0 0 (fun _ => False) := by
  refine rd_start (cc := cX0_circleHolds) (maxL := 16) (ret := (some .boolean)) RX0 (by decide) rfl rfl (Nat.le_of_ble_eq_true rfl) ?_
  intro p e s m below meth c ⟨hx, hb, hr, hml, hown, hts, hlocks⟩ hP hK ls hl
  have F : CallFix p m c cX0_circleHolds 16 s ([.ref h, .int a, .int b, .int c9, .int x, .int y] : List Value).toArray wsX0_circleHolds RX0 := ⟨hx, hb, hml, hown, hts⟩
  have hl : lv_has ls 16 [(0, .ref h), (1, .int a), (2, .int b), (3, .int c9), (4, .int x), (5, .int y)] := hl
  refine lv_aload_n hx hb dX0_circleHolds_0 rfl (lv_at hl 0 rfl) ?_
  refine lv_iload_n hx hb dX0_circleHolds_1 rfl (lv_at hl 1 rfl) ?_
  refine rd_cVi (As := [.int a]) (rest := []) F (c_X0_xOf l dC dI cI cZ cY h qx qy ql qs qc n t xs ys lf sy co a) (cwV 1 hts gX0_circleHolds_X0_xOf rfl rfl rfl hd_X0_xOf ⟨Nat.le_of_ble_eq_true rfl, Nat.le_of_ble_eq_true rfl⟩) hP hK (va_recv hK hP (ci := 0) (q0 := 0) rfl rfl) rfl hl.1 rfl (lv_room (Nat.le_of_ble_eq_true rfl)) dX0_circleHolds_2 ⟨Nat.zero_le _, Nat.zero_le _⟩ ?_
  refine lv_iload hx hb dX0_circleHolds_5 (lv_at hl 4 rfl) ?_
  refine lv_isub hx hb dX0_circleHolds_7 ?_
  refine lv_istore (lv' := [(6, .int ((m_xOf xs a) - x)), (0, .ref h), (1, .int a), (2, .int b), (3, .int c9), (4, .int x), (5, .int y)]) hx hb dX0_circleHolds_8 hl (by decide) rfl (fun ls hl => ?_)
  refine lv_aload_n hx hb dX0_circleHolds_10 rfl (lv_at hl 1 rfl) ?_
  refine lv_iload_n hx hb dX0_circleHolds_11 rfl (lv_at hl 2 rfl) ?_
  refine rd_cVi (As := [.int a]) (rest := []) F (c_X0_yOf l dC dI cI cZ cY h qx qy ql qs qc n t xs ys lf sy co a) (cwV 1 hts gX0_circleHolds_X0_yOf rfl rfl rfl hd_X0_yOf ⟨Nat.le_of_ble_eq_true rfl, Nat.le_of_ble_eq_true rfl⟩) hP hK (va_recv hK hP (ci := 0) (q0 := 0) rfl rfl) rfl hl.1 rfl (lv_room (Nat.le_of_ble_eq_true rfl)) dX0_circleHolds_12 ⟨Nat.zero_le _, Nat.zero_le _⟩ ?_
  refine lv_iload hx hb dX0_circleHolds_15 (lv_at hl 6 rfl) ?_
  refine lv_isub hx hb dX0_circleHolds_17 ?_
  refine lv_istore (lv' := [(7, .int ((m_xOf ys a) - y)), (6, .int ((m_xOf xs a) - x)), (0, .ref h), (1, .int a), (2, .int b), (3, .int c9), (4, .int x), (5, .int y)]) hx hb dX0_circleHolds_18 hl (by decide) rfl (fun ls hl => ?_)
  refine lv_aload_n hx hb dX0_circleHolds_20 rfl (lv_at hl 2 rfl) ?_
  refine lv_iload_n hx hb dX0_circleHolds_21 rfl (lv_at hl 4 rfl) ?_
  refine rd_cVi (As := [.int b]) (rest := []) F (c_X0_xOf l dC dI cI cZ cY h qx qy ql qs qc n t xs ys lf sy co b) (cwV 1 hts gX0_circleHolds_X0_xOf rfl rfl rfl hd_X0_xOf ⟨Nat.le_of_ble_eq_true rfl, Nat.le_of_ble_eq_true rfl⟩) hP hK (va_recv hK hP (ci := 0) (q0 := 0) rfl rfl) rfl hl.1 rfl (lv_room (Nat.le_of_ble_eq_true rfl)) dX0_circleHolds_22 ⟨Nat.zero_le _, Nat.zero_le _⟩ ?_
  refine lv_iload hx hb dX0_circleHolds_25 (lv_at hl 6 rfl) ?_
  refine lv_isub hx hb dX0_circleHolds_27 ?_
  refine lv_istore (lv' := [(8, .int ((m_xOf xs b) - x)), (7, .int ((m_xOf ys a) - y)), (6, .int ((m_xOf xs a) - x)), (0, .ref h), (1, .int a), (2, .int b), (3, .int c9), (4, .int x), (5, .int y)]) hx hb dX0_circleHolds_28 hl (by decide) rfl (fun ls hl => ?_)
  refine lv_aload_n hx hb dX0_circleHolds_30 rfl (lv_at hl 3 rfl) ?_
  refine lv_iload_n hx hb dX0_circleHolds_31 rfl (lv_at hl 5 rfl) ?_
  refine rd_cVi (As := [.int b]) (rest := []) F (c_X0_yOf l dC dI cI cZ cY h qx qy ql qs qc n t xs ys lf sy co b) (cwV 1 hts gX0_circleHolds_X0_yOf rfl rfl rfl hd_X0_yOf ⟨Nat.le_of_ble_eq_true rfl, Nat.le_of_ble_eq_true rfl⟩) hP hK (va_recv hK hP (ci := 0) (q0 := 0) rfl rfl) rfl hl.1 rfl (lv_room (Nat.le_of_ble_eq_true rfl)) dX0_circleHolds_32 ⟨Nat.zero_le _, Nat.zero_le _⟩ ?_
  refine lv_iload hx hb dX0_circleHolds_35 (lv_at hl 8 rfl) ?_
  refine lv_isub hx hb dX0_circleHolds_37 ?_
  refine lv_istore (lv' := [(9, .int ((m_xOf ys b) - y)), (8, .int ((m_xOf xs b) - x)), (7, .int ((m_xOf ys a) - y)), (6, .int ((m_xOf xs a) - x)), (0, .ref h), (1, .int a), (2, .int b), (3, .int c9), (4, .int x), (5, .int y)]) hx hb dX0_circleHolds_38 hl (by decide) rfl (fun ls hl => ?_)
  refine lv_aload_n hx hb dX0_circleHolds_40 rfl (lv_at hl 4 rfl) ?_
  refine lv_iload_n hx hb dX0_circleHolds_41 rfl (lv_at hl 7 rfl) ?_
  refine rd_cVi (As := [.int c9]) (rest := []) F (c_X0_xOf l dC dI cI cZ cY h qx qy ql qs qc n t xs ys lf sy co c9) (cwV 1 hts gX0_circleHolds_X0_xOf rfl rfl rfl hd_X0_xOf ⟨Nat.le_of_ble_eq_true rfl, Nat.le_of_ble_eq_true rfl⟩) hP hK (va_recv hK hP (ci := 0) (q0 := 0) rfl rfl) rfl hl.1 rfl (lv_room (Nat.le_of_ble_eq_true rfl)) dX0_circleHolds_42 ⟨Nat.zero_le _, Nat.zero_le _⟩ ?_
  refine lv_iload hx hb dX0_circleHolds_45 (lv_at hl 8 rfl) ?_
  refine lv_isub hx hb dX0_circleHolds_47 ?_
  refine lv_istore (lv' := [(10, .int ((m_xOf xs c9) - x)), (9, .int ((m_xOf ys b) - y)), (8, .int ((m_xOf xs b) - x)), (7, .int ((m_xOf ys a) - y)), (6, .int ((m_xOf xs a) - x)), (0, .ref h), (1, .int a), (2, .int b), (3, .int c9), (4, .int x), (5, .int y)]) hx hb dX0_circleHolds_48 hl (by decide) rfl (fun ls hl => ?_)
  refine lv_aload_n hx hb dX0_circleHolds_50 rfl (lv_at hl 5 rfl) ?_
  refine lv_iload_n hx hb dX0_circleHolds_51 rfl (lv_at hl 8 rfl) ?_
  refine rd_cVi (As := [.int c9]) (rest := []) F (c_X0_yOf l dC dI cI cZ cY h qx qy ql qs qc n t xs ys lf sy co c9) (cwV 1 hts gX0_circleHolds_X0_yOf rfl rfl rfl hd_X0_yOf ⟨Nat.le_of_ble_eq_true rfl, Nat.le_of_ble_eq_true rfl⟩) hP hK (va_recv hK hP (ci := 0) (q0 := 0) rfl rfl) rfl hl.1 rfl (lv_room (Nat.le_of_ble_eq_true rfl)) dX0_circleHolds_52 ⟨Nat.zero_le _, Nat.zero_le _⟩ ?_
  refine lv_iload hx hb dX0_circleHolds_55 (lv_at hl 10 rfl) ?_
  refine lv_isub hx hb dX0_circleHolds_57 ?_
  refine lv_istore (lv' := [(11, .int ((m_xOf ys c9) - y)), (10, .int ((m_xOf xs c9) - x)), (9, .int ((m_xOf ys b) - y)), (8, .int ((m_xOf xs b) - x)), (7, .int ((m_xOf ys a) - y)), (6, .int ((m_xOf xs a) - x)), (0, .ref h), (1, .int a), (2, .int b), (3, .int c9), (4, .int x), (5, .int y)]) hx hb dX0_circleHolds_58 hl (by decide) rfl (fun ls hl => ?_)
  refine lv_iload hx hb dX0_circleHolds_60 (lv_at hl 3 rfl) ?_
  refine lv_iload hx hb dX0_circleHolds_62 (lv_at hl 0 rfl) ?_
  refine lv_imul hx hb dX0_circleHolds_64 ?_
  refine lv_iload hx hb dX0_circleHolds_65 (lv_at hl 2 rfl) ?_
  refine lv_iload hx hb dX0_circleHolds_67 (lv_at hl 1 rfl) ?_
  refine lv_imul hx hb dX0_circleHolds_69 ?_
  refine lv_isub hx hb dX0_circleHolds_70 ?_
  refine lv_istore (lv' := [(12, .int ((((m_xOf xs b) - x) * ((m_xOf ys c9) - y)) - (((m_xOf ys b) - y) * ((m_xOf xs c9) - x)))), (11, .int ((m_xOf ys c9) - y)), (10, .int ((m_xOf xs c9) - x)), (9, .int ((m_xOf ys b) - y)), (8, .int ((m_xOf xs b) - x)), (7, .int ((m_xOf ys a) - y)), (6, .int ((m_xOf xs a) - x)), (0, .ref h), (1, .int a), (2, .int b), (3, .int c9), (4, .int x), (5, .int y)]) hx hb dX0_circleHolds_71 hl (by decide) rfl (fun ls hl => ?_)
  refine lv_iload hx hb dX0_circleHolds_73 (lv_at hl 2 rfl) ?_
  refine lv_iload hx hb dX0_circleHolds_75 (lv_at hl 5 rfl) ?_
  refine lv_imul hx hb dX0_circleHolds_77 ?_
  refine lv_iload hx hb dX0_circleHolds_78 (lv_at hl 1 rfl) ?_
  refine lv_iload hx hb dX0_circleHolds_80 (lv_at hl 6 rfl) ?_
  refine lv_imul hx hb dX0_circleHolds_82 ?_
  refine lv_isub hx hb dX0_circleHolds_83 ?_
  refine lv_istore (lv' := [(13, .int ((((m_xOf xs c9) - x) * ((m_xOf ys a) - y)) - (((m_xOf ys c9) - y) * ((m_xOf xs a) - x)))), (12, .int ((((m_xOf xs b) - x) * ((m_xOf ys c9) - y)) - (((m_xOf ys b) - y) * ((m_xOf xs c9) - x)))), (11, .int ((m_xOf ys c9) - y)), (10, .int ((m_xOf xs c9) - x)), (9, .int ((m_xOf ys b) - y)), (8, .int ((m_xOf xs b) - x)), (7, .int ((m_xOf ys a) - y)), (6, .int ((m_xOf xs a) - x)), (0, .ref h), (1, .int a), (2, .int b), (3, .int c9), (4, .int x), (5, .int y)]) hx hb dX0_circleHolds_84 hl (by decide) rfl (fun ls hl => ?_)
  refine lv_iload hx hb dX0_circleHolds_86 (lv_at hl 7 rfl) ?_
  refine lv_iload hx hb dX0_circleHolds_88 (lv_at hl 4 rfl) ?_
  refine lv_imul hx hb dX0_circleHolds_90 ?_
  refine lv_iload hx hb dX0_circleHolds_91 (lv_at hl 6 rfl) ?_
  refine lv_iload hx hb dX0_circleHolds_93 (lv_at hl 5 rfl) ?_
  refine lv_imul hx hb dX0_circleHolds_95 ?_
  refine lv_isub hx hb dX0_circleHolds_96 ?_
  refine lv_istore (lv' := [(14, .int ((((m_xOf xs a) - x) * ((m_xOf ys b) - y)) - (((m_xOf ys a) - y) * ((m_xOf xs b) - x)))), (13, .int ((((m_xOf xs c9) - x) * ((m_xOf ys a) - y)) - (((m_xOf ys c9) - y) * ((m_xOf xs a) - x)))), (12, .int ((((m_xOf xs b) - x) * ((m_xOf ys c9) - y)) - (((m_xOf ys b) - y) * ((m_xOf xs c9) - x)))), (11, .int ((m_xOf ys c9) - y)), (10, .int ((m_xOf xs c9) - x)), (9, .int ((m_xOf ys b) - y)), (8, .int ((m_xOf xs b) - x)), (7, .int ((m_xOf ys a) - y)), (6, .int ((m_xOf xs a) - x)), (0, .ref h), (1, .int a), (2, .int b), (3, .int c9), (4, .int x), (5, .int y)]) hx hb dX0_circleHolds_97 hl (by decide) rfl (fun ls hl => ?_)
  refine lv_iload hx hb dX0_circleHolds_99 (lv_at hl 8 rfl) ?_
  refine lv_iload hx hb dX0_circleHolds_101 (lv_at hl 8 rfl) ?_
  refine lv_imul hx hb dX0_circleHolds_103 ?_
  refine lv_iload hx hb dX0_circleHolds_104 (lv_at hl 7 rfl) ?_
  refine lv_iload hx hb dX0_circleHolds_106 (lv_at hl 7 rfl) ?_
  refine lv_imul hx hb dX0_circleHolds_108 ?_
  refine lv_iadd hx hb dX0_circleHolds_109 ?_
  refine lv_iload hx hb dX0_circleHolds_110 (lv_at hl 2 rfl) ?_
  refine lv_imul hx hb dX0_circleHolds_112 ?_
  refine lv_iload hx hb dX0_circleHolds_113 (lv_at hl 6 rfl) ?_
  refine lv_iload hx hb dX0_circleHolds_115 (lv_at hl 6 rfl) ?_
  refine lv_imul hx hb dX0_circleHolds_117 ?_
  refine lv_iload hx hb dX0_circleHolds_118 (lv_at hl 5 rfl) ?_
  refine lv_iload hx hb dX0_circleHolds_120 (lv_at hl 5 rfl) ?_
  refine lv_imul hx hb dX0_circleHolds_122 ?_
  refine lv_iadd hx hb dX0_circleHolds_123 ?_
  refine lv_iload hx hb dX0_circleHolds_124 (lv_at hl 1 rfl) ?_
  refine lv_imul hx hb dX0_circleHolds_126 ?_
  refine lv_iadd hx hb dX0_circleHolds_127 ?_
  refine lv_iload hx hb dX0_circleHolds_128 (lv_at hl 4 rfl) ?_
  refine lv_iload hx hb dX0_circleHolds_130 (lv_at hl 4 rfl) ?_
  refine lv_imul hx hb dX0_circleHolds_132 ?_
  refine lv_iload hx hb dX0_circleHolds_133 (lv_at hl 3 rfl) ?_
  refine lv_iload hx hb dX0_circleHolds_135 (lv_at hl 3 rfl) ?_
  refine lv_imul hx hb dX0_circleHolds_137 ?_
  refine lv_iadd hx hb dX0_circleHolds_138 ?_
  refine lv_iload hx hb dX0_circleHolds_139 (lv_at hl 0 rfl) ?_
  refine lv_imul hx hb dX0_circleHolds_141 ?_
  refine lv_iadd hx hb dX0_circleHolds_142 ?_
  refine lv_istore (lv' := [(15, .int (((((((m_xOf xs a) - x) * ((m_xOf xs a) - x)) + (((m_xOf ys a) - y) * ((m_xOf ys a) - y))) * ((((m_xOf xs b) - x) * ((m_xOf ys c9) - y)) - (((m_xOf ys b) - y) * ((m_xOf xs c9) - x)))) + (((((m_xOf xs b) - x) * ((m_xOf xs b) - x)) + (((m_xOf ys b) - y) * ((m_xOf ys b) - y))) * ((((m_xOf xs c9) - x) * ((m_xOf ys a) - y)) - (((m_xOf ys c9) - y) * ((m_xOf xs a) - x))))) + (((((m_xOf xs c9) - x) * ((m_xOf xs c9) - x)) + (((m_xOf ys c9) - y) * ((m_xOf ys c9) - y))) * ((((m_xOf xs a) - x) * ((m_xOf ys b) - y)) - (((m_xOf ys a) - y) * ((m_xOf xs b) - x)))))), (14, .int ((((m_xOf xs a) - x) * ((m_xOf ys b) - y)) - (((m_xOf ys a) - y) * ((m_xOf xs b) - x)))), (13, .int ((((m_xOf xs c9) - x) * ((m_xOf ys a) - y)) - (((m_xOf ys c9) - y) * ((m_xOf xs a) - x)))), (12, .int ((((m_xOf xs b) - x) * ((m_xOf ys c9) - y)) - (((m_xOf ys b) - y) * ((m_xOf xs c9) - x)))), (11, .int ((m_xOf ys c9) - y)), (10, .int ((m_xOf xs c9) - x)), (9, .int ((m_xOf ys b) - y)), (8, .int ((m_xOf xs b) - x)), (7, .int ((m_xOf ys a) - y)), (6, .int ((m_xOf xs a) - x)), (0, .ref h), (1, .int a), (2, .int b), (3, .int c9), (4, .int x), (5, .int y)]) hx hb dX0_circleHolds_143 hl (by decide) rfl (fun ls hl => ?_)
  refine lv_iload hx hb dX0_circleHolds_145 (lv_at hl 1 rfl) ?_
  refine lv_iload hx hb dX0_circleHolds_147 (lv_at hl 3 rfl) ?_
  refine lv_iadd hx hb dX0_circleHolds_149 ?_
  refine lv_iload hx hb dX0_circleHolds_150 (lv_at hl 2 rfl) ?_
  refine lv_iadd hx hb dX0_circleHolds_152 ?_
  refine lv_if_le (tgt := 169) hx hb dX0_circleHolds_153 (by decide) (fun c_1 => ?_) (fun c_1 => ?_)
  · refine lv_iload hx hb dX0_circleHolds_169 (lv_at hl 0 rfl) ?_
    refine lv_if_ge (tgt := 178) hx hb dX0_circleHolds_171 (by decide) (fun c_2 => ?_) (fun c_2 => ?_)
    · refine lv_iconst (v := 0) hx hb dX0_circleHolds_178 (by decide) ?_
      exact rd_zret hx hb hr hlocks (by unfold m_circleHolds m_circle m_sgn; first | (rw [if_pos (by assumption), if_pos (by assumption)]; rfl) | (rw [if_pos (by assumption), if_neg (by assumption)]; rfl) | (rw [if_neg (by assumption), if_pos (by assumption)]; rfl) | (rw [if_neg (by assumption), if_neg (by assumption)]; rfl)) dX0_circleHolds_179
    · refine lv_iconst (v := 1) hx hb dX0_circleHolds_174 (by decide) ?_
      refine lv_goto (tgt := 179) hx hb dX0_circleHolds_175 (by decide) ?_
      exact rd_zret hx hb hr hlocks (by unfold m_circleHolds m_circle m_sgn; first | (rw [if_pos (by assumption), if_pos (by assumption)]; rfl) | (rw [if_pos (by assumption), if_neg (by assumption)]; rfl) | (rw [if_neg (by assumption), if_pos (by assumption)]; rfl) | (rw [if_neg (by assumption), if_neg (by assumption)]; rfl)) dX0_circleHolds_179
  · refine lv_iload hx hb dX0_circleHolds_156 (lv_at hl 0 rfl) ?_
    refine lv_if_le (tgt := 165) hx hb dX0_circleHolds_158 (by decide) (fun c_3 => ?_) (fun c_3 => ?_)
    · refine lv_iconst (v := 0) hx hb dX0_circleHolds_165 (by decide) ?_
      refine lv_goto (tgt := 179) hx hb dX0_circleHolds_166 (by decide) ?_
      exact rd_zret hx hb hr hlocks (by unfold m_circleHolds m_circle m_sgn; first | (rw [if_pos (by assumption), if_pos (by assumption)]; rfl) | (rw [if_pos (by assumption), if_neg (by assumption)]; rfl) | (rw [if_neg (by assumption), if_pos (by assumption)]; rfl) | (rw [if_neg (by assumption), if_neg (by assumption)]; rfl)) dX0_circleHolds_179
    · refine lv_iconst (v := 1) hx hb dX0_circleHolds_161 (by decide) ?_
      refine lv_goto (tgt := 179) hx hb dX0_circleHolds_162 (by decide) ?_
      exact rd_zret hx hb hr hlocks (by unfold m_circleHolds m_circle m_sgn; first | (rw [if_pos (by assumption), if_pos (by assumption)]; rfl) | (rw [if_pos (by assumption), if_neg (by assumption)]; rfl) | (rw [if_neg (by assumption), if_pos (by assumption)]; rfl) | (rw [if_neg (by assumption), if_neg (by assumption)]; rfl)) dX0_circleHolds_179
set_option maxHeartbeats 4000000 in
set_option maxRecDepth 100000 in
theorem c_X0_isEdge (l : Launch) (dC : Nat → ClassId) (dI : Nat → Nat → Nat) (cI cZ cY : ClassId) (h qx qy ql qs qc : Nat) (n t : Nat) (xs ys lf sy co : Nat → Int32) (a : Int32) (b : Int32) : Met l yX0_isEdge wsX0_isEdge ({ frames := 1, cells := 0, slots := 0, locals := 22 }) (va_Pc [.ref h, .int a, .int b] (fun U => va_P (dC, dI) vwCl (wM cI h qx qy ql qs qc n t xs ys lf sy co) U.heap ∧ va_K (dC, dI) vwCl (gTY cI cZ cY) U)) (vp_Si (fun r => r = bI (m_isEdge lf a b))) 0 0 (fun _ => False) := by
  refine rd_start (cc := cX0_isEdge) (maxL := 3) (ret := (some .boolean)) RX0 (by decide) rfl rfl (Nat.le_of_ble_eq_true rfl) ?_
  intro p e s m below meth c ⟨hx, hb, hr, hml, hown, hts, hlocks⟩ hP hK ls hl
  have F : CallFix p m c cX0_isEdge 3 s ([.ref h, .int a, .int b] : List Value).toArray wsX0_isEdge RX0 := ⟨hx, hb, hml, hown, hts⟩
  have hl : lv_has ls 3 [(0, .ref h), (1, .int a), (2, .int b)] := hl
  refine lv_aload_n hx hb dX0_isEdge_0 rfl (lv_at hl 0 rfl) ?_
  refine lv_iload_n hx hb dX0_isEdge_1 rfl (lv_at hl 1 rfl) ?_
  refine lv_iload_n hx hb dX0_isEdge_2 rfl (lv_at hl 2 rfl) ?_
  refine rd_cVi (As := [.int a, .int b]) (rest := []) F (c_X0_leftOf l dC dI cI cZ cY h qx qy ql qs qc n t xs ys lf sy co a b) (cwV 2 hts gX0_isEdge_X0_leftOf rfl rfl rfl hd_X0_leftOf ⟨Nat.le_of_ble_eq_true rfl, Nat.le_of_ble_eq_true rfl⟩) hP hK (va_recv hK hP (ci := 0) (q0 := 0) rfl rfl) rfl hl.1 rfl (lv_room (Nat.le_of_ble_eq_true rfl)) dX0_isEdge_3 ⟨Nat.zero_le _, Nat.zero_le _⟩ ?_
  refine lv_iconst (v := (-1)) hx hb dX0_isEdge_6 (by decide) ?_
  refine lv_icmp_ne (tgt := 20) hx hb dX0_isEdge_7 (by decide) (fun c_1 => ?_) (fun c_1 => ?_)
  · refine lv_iconst (v := 1) hx hb dX0_isEdge_20 (by decide) ?_
    refine lv_goto (tgt := 25) hx hb dX0_isEdge_21 (by decide) ?_
    exact rd_zret hx hb hr hlocks (by first | rfl | (simp only [m_isEdge, c_1]; done) | (simp only [m_isEdge, c_1]; rfl) | (simp [m_isEdge, c_1, bI]; done)) dX0_isEdge_25
  · refine lv_aload_n hx hb dX0_isEdge_10 rfl (lv_at hl 0 rfl) ?_
    refine lv_iload_n hx hb dX0_isEdge_11 rfl (lv_at hl 2 rfl) ?_
    refine lv_iload_n hx hb dX0_isEdge_12 rfl (lv_at hl 1 rfl) ?_
    refine rd_cVi (As := [.int b, .int a]) (rest := []) F (c_X0_leftOf l dC dI cI cZ cY h qx qy ql qs qc n t xs ys lf sy co b a) (cwV 2 hts gX0_isEdge_X0_leftOf rfl rfl rfl hd_X0_leftOf ⟨Nat.le_of_ble_eq_true rfl, Nat.le_of_ble_eq_true rfl⟩) hP hK (va_recv hK hP (ci := 0) (q0 := 0) rfl rfl) rfl hl.1 rfl (lv_room (Nat.le_of_ble_eq_true rfl)) dX0_isEdge_13 ⟨Nat.zero_le _, Nat.zero_le _⟩ ?_
    refine lv_iconst (v := (-1)) hx hb dX0_isEdge_16 (by decide) ?_
    refine lv_icmp_eq (tgt := 24) hx hb dX0_isEdge_17 (by decide) (fun c_2 => ?_) (fun c_2 => ?_)
    · refine lv_iconst (v := 0) hx hb dX0_isEdge_24 (by decide) ?_
      exact rd_zret hx hb hr hlocks (by first | rfl | (simp only [m_isEdge, c_1, c_2]; done) | (simp only [m_isEdge, c_1, c_2]; rfl) | (simp [m_isEdge, c_1, c_2, bI]; done)) dX0_isEdge_25
    · refine lv_iconst (v := 1) hx hb dX0_isEdge_20 (by decide) ?_
      refine lv_goto (tgt := 25) hx hb dX0_isEdge_21 (by decide) ?_
      exact rd_zret hx hb hr hlocks (by first | rfl | (simp only [m_isEdge, c_1, c_2]; done) | (simp only [m_isEdge, c_1, c_2]; rfl) | (simp [m_isEdge, c_1, c_2, bI]; done)) dX0_isEdge_25
set_option maxHeartbeats 4000000 in
set_option maxRecDepth 100000 in
theorem c_X0_isInner (l : Launch) (dC : Nat → ClassId) (dI : Nat → Nat → Nat) (cI cZ cY : ClassId) (h qx qy ql qs qc : Nat) (n t : Nat) (xs ys lf sy co : Nat → Int32) (a : Int32) (b : Int32) : Met l yX0_isInner wsX0_isInner ({ frames := 1, cells := 0, slots := 0, locals := 22 }) (va_Pc [.ref h, .int a, .int b] (fun U => va_P (dC, dI) vwCl (wM cI h qx qy ql qs qc n t xs ys lf sy co) U.heap ∧ va_K (dC, dI) vwCl (gTY cI cZ cY) U)) (vp_Si (fun r => r = bI (m_isInner lf a b))) 0 0 (fun _ => False) := by
  refine rd_start (cc := cX0_isInner) (maxL := 3) (ret := (some .boolean)) RX0 (by decide) rfl rfl (Nat.le_of_ble_eq_true rfl) ?_
  intro p e s m below meth c ⟨hx, hb, hr, hml, hown, hts, hlocks⟩ hP hK ls hl
  have F : CallFix p m c cX0_isInner 3 s ([.ref h, .int a, .int b] : List Value).toArray wsX0_isInner RX0 := ⟨hx, hb, hml, hown, hts⟩
  have hl : lv_has ls 3 [(0, .ref h), (1, .int a), (2, .int b)] := hl
  refine lv_aload_n hx hb dX0_isInner_0 rfl (lv_at hl 0 rfl) ?_
  refine lv_iload_n hx hb dX0_isInner_1 rfl (lv_at hl 1 rfl) ?_
  refine lv_iload_n hx hb dX0_isInner_2 rfl (lv_at hl 2 rfl) ?_
  refine rd_cVi (As := [.int a, .int b]) (rest := []) F (c_X0_leftOf l dC dI cI cZ cY h qx qy ql qs qc n t xs ys lf sy co a b) (cwV 2 hts gX0_isInner_X0_leftOf rfl rfl rfl hd_X0_leftOf ⟨Nat.le_of_ble_eq_true rfl, Nat.le_of_ble_eq_true rfl⟩) hP hK (va_recv hK hP (ci := 0) (q0 := 0) rfl rfl) rfl hl.1 rfl (lv_room (Nat.le_of_ble_eq_true rfl)) dX0_isInner_3 ⟨Nat.zero_le _, Nat.zero_le _⟩ ?_
  refine lv_iconst (v := (-1)) hx hb dX0_isInner_6 (by decide) ?_
  refine lv_icmp_eq (tgt := 24) hx hb dX0_isInner_7 (by decide) (fun c_1 => ?_) (fun c_1 => ?_)
  · refine lv_iconst (v := 0) hx hb dX0_isInner_24 (by decide) ?_
    exact rd_zret hx hb hr hlocks (by first | rfl | (simp only [m_isInner, c_1]; done) | (simp only [m_isInner, c_1]; rfl) | (simp [m_isInner, c_1, bI]; done)) dX0_isInner_25
  · refine lv_aload_n hx hb dX0_isInner_10 rfl (lv_at hl 0 rfl) ?_
    refine lv_iload_n hx hb dX0_isInner_11 rfl (lv_at hl 2 rfl) ?_
    refine lv_iload_n hx hb dX0_isInner_12 rfl (lv_at hl 1 rfl) ?_
    refine rd_cVi (As := [.int b, .int a]) (rest := []) F (c_X0_leftOf l dC dI cI cZ cY h qx qy ql qs qc n t xs ys lf sy co b a) (cwV 2 hts gX0_isInner_X0_leftOf rfl rfl rfl hd_X0_leftOf ⟨Nat.le_of_ble_eq_true rfl, Nat.le_of_ble_eq_true rfl⟩) hP hK (va_recv hK hP (ci := 0) (q0 := 0) rfl rfl) rfl hl.1 rfl (lv_room (Nat.le_of_ble_eq_true rfl)) dX0_isInner_13 ⟨Nat.zero_le _, Nat.zero_le _⟩ ?_
    refine lv_iconst (v := (-1)) hx hb dX0_isInner_16 (by decide) ?_
    refine lv_icmp_eq (tgt := 24) hx hb dX0_isInner_17 (by decide) (fun c_2 => ?_) (fun c_2 => ?_)
    · refine lv_iconst (v := 0) hx hb dX0_isInner_24 (by decide) ?_
      exact rd_zret hx hb hr hlocks (by first | rfl | (simp only [m_isInner, c_1, c_2]; done) | (simp only [m_isInner, c_1, c_2]; rfl) | (simp [m_isInner, c_1, c_2, bI]; done)) dX0_isInner_25
    · refine lv_iconst (v := 1) hx hb dX0_isInner_20 (by decide) ?_
      refine lv_goto (tgt := 25) hx hb dX0_isInner_21 (by decide) ?_
      exact rd_zret hx hb hr hlocks (by first | rfl | (simp only [m_isInner, c_1, c_2]; done) | (simp only [m_isInner, c_1, c_2]; rfl) | (simp [m_isInner, c_1, c_2, bI]; done)) dX0_isInner_25
theorem in_X0_mustStay_X0 : ∀ w ∈ wsX00, w ∈ wsX0_mustStay := by decide +kernel
theorem fl_X0_mustStay_21 : (Cond.fieldLink RX0 21 "MoorTriangles$Mesh" "stays" "[I") ∈ wsX0_mustStay := by decide +kernel
set_option maxHeartbeats 4000000 in
set_option maxRecDepth 100000 in
theorem c_X0_mustStay (l : Launch) (dC : Nat → ClassId) (dI : Nat → Nat → Nat) (cI cZ cY : ClassId) (h qx qy ql qs qc : Nat) (n t : Nat) (xs ys lf sy co : Nat → Int32) (a : Int32) (b : Int32) : Met l yX0_mustStay wsX0_mustStay ({ frames := 1, cells := 0, slots := 0, locals := 21 }) (va_Pc [.ref h, .int a, .int b] (fun U => va_P (dC, dI) vwCl (wM cI h qx qy ql qs qc n t xs ys lf sy co) U.heap ∧ va_K (dC, dI) vwCl (gTY cI cZ cY) U)) (vp_Si (fun r => r = bI (m_mustStay n sy a b))) 0 0 (fun _ => False) := by
  refine rd_start (cc := cX0_mustStay) (maxL := 3) (ret := (some .boolean)) RX0 (by decide) rfl rfl (Nat.le_of_ble_eq_true rfl) ?_
  intro p e s m below meth c ⟨hx, hb, hr, hml, hown, hts, hlocks⟩ hP hK ls hl
  have F : CallFix p m c cX0_mustStay 3 s ([.ref h, .int a, .int b] : List Value).toArray wsX0_mustStay RX0 := ⟨hx, hb, hml, hown, hts⟩
  have hl : lv_has ls 3 [(0, .ref h), (1, .int a), (2, .int b)] := hl
  refine lv_aload_n hx hb dX0_mustStay_0 rfl (lv_at hl 0 rfl) ?_
  refine lv_iload_n hx hb dX0_mustStay_1 rfl (lv_at hl 1 rfl) ?_
  refine rd_cVi (As := [.int a]) (rest := []) F (c_X0_isCairn l dC dI cI cZ cY h qx qy ql qs qc n t xs ys lf sy co a) (cwV 1 hts gX0_mustStay_X0_isCairn rfl rfl rfl hd_X0_isCairn ⟨Nat.le_of_ble_eq_true rfl, Nat.le_of_ble_eq_true rfl⟩) hP hK (va_recv hK hP (ci := 0) (q0 := 0) rfl rfl) rfl hl.1 rfl (lv_room (Nat.le_of_ble_eq_true rfl)) dX0_mustStay_2 ⟨Nat.zero_le _, Nat.zero_le _⟩ ?_
  refine lv_if_eqB (tgt := 35) hx hb dX0_mustStay_5 (by decide) (fun c_1 => ?_) (fun c_1 => ?_)
  · refine lv_iconst (v := 0) hx hb dX0_mustStay_35 (by decide) ?_
    exact rd_zret hx hb hr hlocks (by first | rfl | (simp only [m_mustStay, c_1]; done) | (simp only [m_mustStay, c_1]; rfl) | (simp [m_mustStay, c_1, bI]; done)) dX0_mustStay_36
  · refine lv_aload_n hx hb dX0_mustStay_8 rfl (lv_at hl 0 rfl) ?_
    refine lv_iload_n hx hb dX0_mustStay_9 rfl (lv_at hl 2 rfl) ?_
    refine rd_cVi (As := [.int b]) (rest := []) F (c_X0_isCairn l dC dI cI cZ cY h qx qy ql qs qc n t xs ys lf sy co b) (cwV 1 hts gX0_mustStay_X0_isCairn rfl rfl rfl hd_X0_isCairn ⟨Nat.le_of_ble_eq_true rfl, Nat.le_of_ble_eq_true rfl⟩) hP hK (va_recv hK hP (ci := 0) (q0 := 0) rfl rfl) rfl hl.1 rfl (lv_room (Nat.le_of_ble_eq_true rfl)) dX0_mustStay_10 ⟨Nat.zero_le _, Nat.zero_le _⟩ ?_
    refine lv_if_eqB (tgt := 35) hx hb dX0_mustStay_13 (by decide) (fun c_2 => ?_) (fun c_2 => ?_)
    · refine lv_iconst (v := 0) hx hb dX0_mustStay_35 (by decide) ?_
      exact rd_zret hx hb hr hlocks (by first | rfl | (simp only [m_mustStay, c_1, c_2]; done) | (simp only [m_mustStay, c_1, c_2]; rfl) | (simp [m_mustStay, c_1, c_2, bI]; done)) dX0_mustStay_36
    · refine lv_aload_n hx hb dX0_mustStay_16 rfl (lv_at hl 0 rfl) ?_
      refine va_get (D := (dC, dI)) (ci := 0) (v := .ref qs) (C := RX0) (T := TX0) (N := 7) hx hb hts in_X0_mustStay_X0 hown hK hP 0 rfl rfl 5 (by decide) (hts (.fieldLink RX0 21 "MoorTriangles$Mesh" "stays" "[I") fl_X0_mustStay_21) (fun _ h9 => h9) rfl dX0_mustStay_17 ?_
      refine lv_iload_n hx hb dX0_mustStay_20 rfl (lv_at hl 1 rfl) ?_
      refine lv_bipush (v := 17) hx hb dX0_mustStay_21 (by decide) ?_
      refine lv_imul hx hb dX0_mustStay_23 ?_
      refine lv_iload_n hx hb dX0_mustStay_24 rfl (lv_at hl 2 rfl) ?_
      refine lv_iadd hx hb dX0_mustStay_25 ?_
      refine va_iald (D := (dC, dI)) hx hb hK hP 4 0 rfl rfl (m_isCairn_in c_1 c_2) dX0_mustStay_26 ?_
      refine lv_iconst (v := 1) hx hb dX0_mustStay_27 (by decide) ?_
      refine lv_icmp_ne (tgt := 35) hx hb dX0_mustStay_28 (by decide) (fun c_3 => ?_) (fun c_3 => ?_)
      · refine lv_iconst (v := 0) hx hb dX0_mustStay_35 (by decide) ?_
        exact rd_zret hx hb hr hlocks (by first | rfl | (simp only [m_mustStay, c_1, c_2, c_3]; done) | (simp only [m_mustStay, c_1, c_2, c_3]; rfl) | (simp [m_mustStay, c_1, c_2, c_3, bI]; done)) dX0_mustStay_36
      · refine lv_iconst (v := 1) hx hb dX0_mustStay_31 (by decide) ?_
        refine lv_goto (tgt := 36) hx hb dX0_mustStay_32 (by decide) ?_
        exact rd_zret hx hb hr hlocks (by first | rfl | (simp only [m_mustStay, c_1, c_2, c_3]; done) | (simp only [m_mustStay, c_1, c_2, c_3]; rfl) | (simp [m_mustStay, c_1, c_2, c_3, bI]; done)) dX0_mustStay_36
set_option maxHeartbeats 4000000 in
set_option maxRecDepth 100000 in
theorem c_X0_isUnfair (l : Launch) (dC : Nat → ClassId) (dI : Nat → Nat → Nat) (cI cZ cY : ClassId) (h qx qy ql qs qc : Nat) (n t : Nat) (xs ys lf sy co : Nat → Int32) (a : Int32) (b : Int32) : Met l yX0_isUnfair wsX0_isUnfair ({ frames := 2, cells := 0, slots := 0, locals := 56 }) (va_Pc [.ref h, .int a, .int b] (fun U => va_P (dC, dI) vwCl (wM cI h qx qy ql qs qc n t xs ys lf sy co) U.heap ∧ va_K (dC, dI) vwCl (gTY cI cZ cY) U)) (vp_Si (fun r => r = bI (m_isUnfair xs ys lf a b))) 0 0 (fun _ => False) := by
  refine rd_start (cc := cX0_isUnfair) (maxL := 4) (ret := (some .boolean)) RX0 (by decide) rfl rfl (Nat.le_of_ble_eq_true rfl) ?_
  intro p e s m below meth c ⟨hx, hb, hr, hml, hown, hts, hlocks⟩ hP hK ls hl
  have F : CallFix p m c cX0_isUnfair 4 s ([.ref h, .int a, .int b] : List Value).toArray wsX0_isUnfair RX0 := ⟨hx, hb, hml, hown, hts⟩
  have hl : lv_has ls 4 [(0, .ref h), (1, .int a), (2, .int b)] := hl
  refine lv_aload_n hx hb dX0_isUnfair_0 rfl (lv_at hl 0 rfl) ?_
  refine lv_iload_n hx hb dX0_isUnfair_1 rfl (lv_at hl 2 rfl) ?_
  refine lv_iload_n hx hb dX0_isUnfair_2 rfl (lv_at hl 1 rfl) ?_
  refine rd_cVi (As := [.int b, .int a]) (rest := []) F (c_X0_leftOf l dC dI cI cZ cY h qx qy ql qs qc n t xs ys lf sy co b a) (cwV 2 hts gX0_isUnfair_X0_leftOf rfl rfl rfl hd_X0_leftOf ⟨Nat.le_of_ble_eq_true rfl, Nat.le_of_ble_eq_true rfl⟩) hP hK (va_recv hK hP (ci := 0) (q0 := 0) rfl rfl) rfl hl.1 rfl (lv_room (Nat.le_of_ble_eq_true rfl)) dX0_isUnfair_3 ⟨Nat.zero_le _, Nat.zero_le _⟩ ?_
  refine lv_istore_n (lv' := [(3, .int (m_leftOf lf b a)), (0, .ref h), (1, .int a), (2, .int b)]) hx hb dX0_isUnfair_6 rfl hl (by decide) rfl (fun ls hl => ?_)
  refine lv_aload_n hx hb dX0_isUnfair_7 rfl (lv_at hl 1 rfl) ?_
  refine lv_iload_n hx hb dX0_isUnfair_8 rfl (lv_at hl 2 rfl) ?_
  refine lv_iload_n hx hb dX0_isUnfair_9 rfl (lv_at hl 3 rfl) ?_
  refine rd_cVi (As := [.int a, .int b]) (rest := []) F (c_X0_isInner l dC dI cI cZ cY h qx qy ql qs qc n t xs ys lf sy co a b) (cwV 2 hts gX0_isUnfair_X0_isInner rfl rfl rfl hd_X0_isInner ⟨Nat.le_of_ble_eq_true rfl, Nat.le_of_ble_eq_true rfl⟩) hP hK (va_recv hK hP (ci := 0) (q0 := 0) rfl rfl) rfl hl.1 rfl (lv_room (Nat.le_of_ble_eq_true rfl)) dX0_isUnfair_10 ⟨Nat.zero_le _, Nat.zero_le _⟩ ?_
  refine lv_if_eqB (tgt := 45) hx hb dX0_isUnfair_13 (by decide) (fun c_1 => ?_) (fun c_1 => ?_)
  · refine lv_iconst (v := 0) hx hb dX0_isUnfair_45 (by decide) ?_
    exact rd_zret hx hb hr hlocks (by first | rfl | (simp only [m_isUnfair, c_1]; done) | (simp only [m_isUnfair, c_1]; rfl) | (simp [m_isUnfair, c_1, bI]; done)) dX0_isUnfair_46
  · refine lv_aload_n hx hb dX0_isUnfair_16 rfl (lv_at hl 1 rfl) ?_
    refine lv_iload_n hx hb dX0_isUnfair_17 rfl (lv_at hl 2 rfl) ?_
    refine lv_iload_n hx hb dX0_isUnfair_18 rfl (lv_at hl 3 rfl) ?_
    refine lv_aload_n hx hb dX0_isUnfair_19 rfl (lv_at hl 1 rfl) ?_
    refine lv_iload_n hx hb dX0_isUnfair_20 rfl (lv_at hl 2 rfl) ?_
    refine lv_iload_n hx hb dX0_isUnfair_21 rfl (lv_at hl 3 rfl) ?_
    refine rd_cVi (As := [.int a, .int b]) (rest := [.int b, .int a, .ref h]) F (c_X0_leftOf l dC dI cI cZ cY h qx qy ql qs qc n t xs ys lf sy co a b) (cwV 2 hts gX0_isUnfair_X0_leftOf rfl rfl rfl hd_X0_leftOf ⟨Nat.le_of_ble_eq_true rfl, Nat.le_of_ble_eq_true rfl⟩) hP hK (va_recv hK hP (ci := 0) (q0 := 0) rfl rfl) rfl hl.1 rfl (lv_room (Nat.le_of_ble_eq_true rfl)) dX0_isUnfair_22 ⟨Nat.zero_le _, Nat.zero_le _⟩ ?_
    refine lv_aload_n hx hb dX0_isUnfair_25 rfl (lv_at hl 1 rfl) ?_
    refine lv_iload_n hx hb dX0_isUnfair_26 rfl (lv_at hl 0 rfl) ?_
    refine rd_cVi (As := [.int (m_leftOf lf b a)]) (rest := [.int (m_leftOf lf a b), .int b, .int a, .ref h]) F (c_X0_xOf l dC dI cI cZ cY h qx qy ql qs qc n t xs ys lf sy co (m_leftOf lf b a)) (cwV 1 hts gX0_isUnfair_X0_xOf rfl rfl rfl hd_X0_xOf ⟨Nat.le_of_ble_eq_true rfl, Nat.le_of_ble_eq_true rfl⟩) hP hK (va_recv hK hP (ci := 0) (q0 := 0) rfl rfl) rfl hl.1 rfl (lv_room (Nat.le_of_ble_eq_true rfl)) dX0_isUnfair_27 ⟨Nat.zero_le _, Nat.zero_le _⟩ ?_
    refine lv_aload_n hx hb dX0_isUnfair_30 rfl (lv_at hl 1 rfl) ?_
    refine lv_iload_n hx hb dX0_isUnfair_31 rfl (lv_at hl 0 rfl) ?_
    refine rd_cVi (As := [.int (m_leftOf lf b a)]) (rest := [.int (m_xOf xs (m_leftOf lf b a)), .int (m_leftOf lf a b), .int b, .int a, .ref h]) F (c_X0_yOf l dC dI cI cZ cY h qx qy ql qs qc n t xs ys lf sy co (m_leftOf lf b a)) (cwV 1 hts gX0_isUnfair_X0_yOf rfl rfl rfl hd_X0_yOf ⟨Nat.le_of_ble_eq_true rfl, Nat.le_of_ble_eq_true rfl⟩) hP hK (va_recv hK hP (ci := 0) (q0 := 0) rfl rfl) rfl hl.1 rfl (lv_room (Nat.le_of_ble_eq_true rfl)) dX0_isUnfair_32 ⟨Nat.zero_le _, Nat.zero_le _⟩ ?_
    refine rd_cVi (As := [.int a, .int b, .int (m_leftOf lf a b), .int (m_xOf xs (m_leftOf lf b a)), .int (m_xOf ys (m_leftOf lf b a))]) (rest := []) F (c_X0_circleHolds l dC dI cI cZ cY h qx qy ql qs qc n t xs ys lf sy co a b (m_leftOf lf a b) (m_xOf xs (m_leftOf lf b a)) (m_xOf ys (m_leftOf lf b a))) (cwV 5 hts gX0_isUnfair_X0_circleHolds rfl rfl rfl hd_X0_circleHolds ⟨Nat.le_of_ble_eq_true rfl, Nat.le_of_ble_eq_true rfl⟩) hP hK (va_recv hK hP (ci := 0) (q0 := 0) rfl rfl) rfl hl.1 rfl (lv_room (Nat.le_of_ble_eq_true rfl)) dX0_isUnfair_35 ⟨Nat.zero_le _, Nat.zero_le _⟩ ?_
    refine lv_if_eqB (tgt := 45) hx hb dX0_isUnfair_38 (by decide) (fun c_2 => ?_) (fun c_2 => ?_)
    · refine lv_iconst (v := 0) hx hb dX0_isUnfair_45 (by decide) ?_
      exact rd_zret hx hb hr hlocks (by first | rfl | (simp only [m_isUnfair, c_1, c_2]; done) | (simp only [m_isUnfair, c_1, c_2]; rfl) | (simp [m_isUnfair, c_1, c_2, bI]; done)) dX0_isUnfair_46
    · refine lv_iconst (v := 1) hx hb dX0_isUnfair_41 (by decide) ?_
      refine lv_goto (tgt := 46) hx hb dX0_isUnfair_42 (by decide) ?_
      exact rd_zret hx hb hr hlocks (by first | rfl | (simp only [m_isUnfair, c_1, c_2]; done) | (simp only [m_isUnfair, c_1, c_2]; rfl) | (simp [m_isUnfair, c_1, c_2, bI]; done)) dX0_isUnfair_46
set_option maxHeartbeats 4000000 in
set_option maxRecDepth 100000 in
theorem c_X0_isTurnable (l : Launch) (dC : Nat → ClassId) (dI : Nat → Nat → Nat) (cI cZ cY : ClassId) (h qx qy ql qs qc : Nat) (n t : Nat) (xs ys lf sy co : Nat → Int32) (a : Int32) (b : Int32) : Met l yX0_isTurnable wsX0_isTurnable ({ frames := 2, cells := 0, slots := 0, locals := 45 }) (va_Pc [.ref h, .int a, .int b] (fun U => va_P (dC, dI) vwCl (wM cI h qx qy ql qs qc n t xs ys lf sy co) U.heap ∧ va_K (dC, dI) vwCl (gTY cI cZ cY) U)) (vp_Si (fun r => r = bI (m_isTurnable n xs ys lf sy a b))) 0 0 (fun _ => False) := by
  refine rd_start (cc := cX0_isTurnable) (maxL := 5) (ret := (some .boolean)) RX0 (by decide) rfl rfl (Nat.le_of_ble_eq_true rfl) ?_
  intro p e s m below meth c ⟨hx, hb, hr, hml, hown, hts, hlocks⟩ hP hK ls hl
  have F : CallFix p m c cX0_isTurnable 5 s ([.ref h, .int a, .int b] : List Value).toArray wsX0_isTurnable RX0 := ⟨hx, hb, hml, hown, hts⟩
  have hl : lv_has ls 5 [(0, .ref h), (1, .int a), (2, .int b)] := hl
  refine lv_aload_n hx hb dX0_isTurnable_0 rfl (lv_at hl 0 rfl) ?_
  refine lv_iload_n hx hb dX0_isTurnable_1 rfl (lv_at hl 1 rfl) ?_
  refine lv_iload_n hx hb dX0_isTurnable_2 rfl (lv_at hl 2 rfl) ?_
  refine rd_cVi (As := [.int a, .int b]) (rest := []) F (c_X0_isInner l dC dI cI cZ cY h qx qy ql qs qc n t xs ys lf sy co a b) (cwV 2 hts gX0_isTurnable_X0_isInner rfl rfl rfl hd_X0_isInner ⟨Nat.le_of_ble_eq_true rfl, Nat.le_of_ble_eq_true rfl⟩) hP hK (va_recv hK hP (ci := 0) (q0 := 0) rfl rfl) rfl hl.1 rfl (lv_room (Nat.le_of_ble_eq_true rfl)) dX0_isTurnable_3 ⟨Nat.zero_le _, Nat.zero_le _⟩ ?_
  refine lv_if_eqB (tgt := 18) hx hb dX0_isTurnable_6 (by decide) (fun c_1 => ?_) (fun c_1 => ?_)
  · refine lv_iconst (v := 0) hx hb dX0_isTurnable_18 (by decide) ?_
    exact rd_zret hx hb hr hlocks (by first | rfl | (simp only [m_isTurnable, c_1]; done) | (simp only [m_isTurnable, c_1]; rfl) | (simp [m_isTurnable, c_1, bI]; done)) dX0_isTurnable_19
  · refine lv_aload_n hx hb dX0_isTurnable_9 rfl (lv_at hl 0 rfl) ?_
    refine lv_iload_n hx hb dX0_isTurnable_10 rfl (lv_at hl 1 rfl) ?_
    refine lv_iload_n hx hb dX0_isTurnable_11 rfl (lv_at hl 2 rfl) ?_
    refine rd_cVi (As := [.int a, .int b]) (rest := []) F (c_X0_mustStay l dC dI cI cZ cY h qx qy ql qs qc n t xs ys lf sy co a b) (cwV 2 hts gX0_isTurnable_X0_mustStay rfl rfl rfl hd_X0_mustStay ⟨Nat.le_of_ble_eq_true rfl, Nat.le_of_ble_eq_true rfl⟩) hP hK (va_recv hK hP (ci := 0) (q0 := 0) rfl rfl) rfl hl.1 rfl (lv_room (Nat.le_of_ble_eq_true rfl)) dX0_isTurnable_12 ⟨Nat.zero_le _, Nat.zero_le _⟩ ?_
    refine lv_if_eqB (tgt := 20) hx hb dX0_isTurnable_15 (by decide) (fun c_2 => ?_) (fun c_2 => ?_)
    · refine lv_aload_n hx hb dX0_isTurnable_20 rfl (lv_at hl 0 rfl) ?_
      refine lv_iload_n hx hb dX0_isTurnable_21 rfl (lv_at hl 1 rfl) ?_
      refine lv_iload_n hx hb dX0_isTurnable_22 rfl (lv_at hl 2 rfl) ?_
      refine rd_cVi (As := [.int a, .int b]) (rest := []) F (c_X0_leftOf l dC dI cI cZ cY h qx qy ql qs qc n t xs ys lf sy co a b) (cwV 2 hts gX0_isTurnable_X0_leftOf rfl rfl rfl hd_X0_leftOf ⟨Nat.le_of_ble_eq_true rfl, Nat.le_of_ble_eq_true rfl⟩) hP hK (va_recv hK hP (ci := 0) (q0 := 0) rfl rfl) rfl hl.1 rfl (lv_room (Nat.le_of_ble_eq_true rfl)) dX0_isTurnable_23 ⟨Nat.zero_le _, Nat.zero_le _⟩ ?_
      refine lv_istore_n (lv' := [(3, .int (m_leftOf lf a b)), (0, .ref h), (1, .int a), (2, .int b)]) hx hb dX0_isTurnable_26 rfl hl (by decide) rfl (fun ls hl => ?_)
      refine lv_aload_n hx hb dX0_isTurnable_27 rfl (lv_at hl 1 rfl) ?_
      refine lv_iload_n hx hb dX0_isTurnable_28 rfl (lv_at hl 3 rfl) ?_
      refine lv_iload_n hx hb dX0_isTurnable_29 rfl (lv_at hl 2 rfl) ?_
      refine rd_cVi (As := [.int b, .int a]) (rest := []) F (c_X0_leftOf l dC dI cI cZ cY h qx qy ql qs qc n t xs ys lf sy co b a) (cwV 2 hts gX0_isTurnable_X0_leftOf rfl rfl rfl hd_X0_leftOf ⟨Nat.le_of_ble_eq_true rfl, Nat.le_of_ble_eq_true rfl⟩) hP hK (va_recv hK hP (ci := 0) (q0 := 0) rfl rfl) rfl hl.1 rfl (lv_room (Nat.le_of_ble_eq_true rfl)) dX0_isTurnable_30 ⟨Nat.zero_le _, Nat.zero_le _⟩ ?_
      refine lv_istore (lv' := [(4, .int (m_leftOf lf b a)), (3, .int (m_leftOf lf a b)), (0, .ref h), (1, .int a), (2, .int b)]) hx hb dX0_isTurnable_33 hl (by decide) rfl (fun ls hl => ?_)
      refine lv_aload_n hx hb dX0_isTurnable_35 rfl (lv_at hl 2 rfl) ?_
      refine lv_iload_n hx hb dX0_isTurnable_36 rfl (lv_at hl 1 rfl) ?_
      refine lv_iload hx hb dX0_isTurnable_37 (lv_at hl 0 rfl) ?_
      refine lv_aload_n hx hb dX0_isTurnable_39 rfl (lv_at hl 2 rfl) ?_
      refine lv_iload_n hx hb dX0_isTurnable_40 rfl (lv_at hl 3 rfl) ?_
      refine rd_cVi (As := [.int a]) (rest := [.int (m_leftOf lf b a), .int (m_leftOf lf a b), .ref h]) F (c_X0_xOf l dC dI cI cZ cY h qx qy ql qs qc n t xs ys lf sy co a) (cwV 1 hts gX0_isTurnable_X0_xOf rfl rfl rfl hd_X0_xOf ⟨Nat.le_of_ble_eq_true rfl, Nat.le_of_ble_eq_true rfl⟩) hP hK (va_recv hK hP (ci := 0) (q0 := 0) rfl rfl) rfl hl.1 rfl (lv_room (Nat.le_of_ble_eq_true rfl)) dX0_isTurnable_41 ⟨Nat.zero_le _, Nat.zero_le _⟩ ?_
      refine lv_aload_n hx hb dX0_isTurnable_44 rfl (lv_at hl 2 rfl) ?_
      refine lv_iload_n hx hb dX0_isTurnable_45 rfl (lv_at hl 3 rfl) ?_
      refine rd_cVi (As := [.int a]) (rest := [.int (m_xOf xs a), .int (m_leftOf lf b a), .int (m_leftOf lf a b), .ref h]) F (c_X0_yOf l dC dI cI cZ cY h qx qy ql qs qc n t xs ys lf sy co a) (cwV 1 hts gX0_isTurnable_X0_yOf rfl rfl rfl hd_X0_yOf ⟨Nat.le_of_ble_eq_true rfl, Nat.le_of_ble_eq_true rfl⟩) hP hK (va_recv hK hP (ci := 0) (q0 := 0) rfl rfl) rfl hl.1 rfl (lv_room (Nat.le_of_ble_eq_true rfl)) dX0_isTurnable_46 ⟨Nat.zero_le _, Nat.zero_le _⟩ ?_
      refine rd_cVi (As := [.int (m_leftOf lf a b), .int (m_leftOf lf b a), .int (m_xOf xs a), .int (m_xOf ys a)]) (rest := []) F (c_X0_turn l dC dI cI cZ cY h qx qy ql qs qc n t xs ys lf sy co (m_leftOf lf a b) (m_leftOf lf b a) (m_xOf xs a) (m_xOf ys a)) (cwV 4 hts gX0_isTurnable_X0_turn rfl rfl rfl hd_X0_turn ⟨Nat.le_of_ble_eq_true rfl, Nat.le_of_ble_eq_true rfl⟩) hP hK (va_recv hK hP (ci := 0) (q0 := 0) rfl rfl) rfl hl.1 rfl (lv_room (Nat.le_of_ble_eq_true rfl)) dX0_isTurnable_49 ⟨Nat.zero_le _, Nat.zero_le _⟩ ?_
      refine lv_if_ge (tgt := 79) hx hb dX0_isTurnable_52 (by decide) (fun c_3 => ?_) (fun c_3 => ?_)
      · refine lv_iconst (v := 0) hx hb dX0_isTurnable_79 (by decide) ?_
        exact rd_zret hx hb hr hlocks (by first | rfl | (simp only [m_isTurnable, c_1, c_2, c_3]; done) | (simp only [m_isTurnable, c_1, c_2, c_3]; rfl) | (simp [m_isTurnable, c_1, c_2, c_3, bI]; done)) dX0_isTurnable_80
      · refine lv_aload_n hx hb dX0_isTurnable_55 rfl (lv_at hl 2 rfl) ?_
        refine lv_iload_n hx hb dX0_isTurnable_56 rfl (lv_at hl 1 rfl) ?_
        refine lv_iload hx hb dX0_isTurnable_57 (lv_at hl 0 rfl) ?_
        refine lv_aload_n hx hb dX0_isTurnable_59 rfl (lv_at hl 2 rfl) ?_
        refine lv_iload_n hx hb dX0_isTurnable_60 rfl (lv_at hl 4 rfl) ?_
        refine rd_cVi (As := [.int b]) (rest := [.int (m_leftOf lf b a), .int (m_leftOf lf a b), .ref h]) F (c_X0_xOf l dC dI cI cZ cY h qx qy ql qs qc n t xs ys lf sy co b) (cwV 1 hts gX0_isTurnable_X0_xOf rfl rfl rfl hd_X0_xOf ⟨Nat.le_of_ble_eq_true rfl, Nat.le_of_ble_eq_true rfl⟩) hP hK (va_recv hK hP (ci := 0) (q0 := 0) rfl rfl) rfl hl.1 rfl (lv_room (Nat.le_of_ble_eq_true rfl)) dX0_isTurnable_61 ⟨Nat.zero_le _, Nat.zero_le _⟩ ?_
        refine lv_aload_n hx hb dX0_isTurnable_64 rfl (lv_at hl 2 rfl) ?_
        refine lv_iload_n hx hb dX0_isTurnable_65 rfl (lv_at hl 4 rfl) ?_
        refine rd_cVi (As := [.int b]) (rest := [.int (m_xOf xs b), .int (m_leftOf lf b a), .int (m_leftOf lf a b), .ref h]) F (c_X0_yOf l dC dI cI cZ cY h qx qy ql qs qc n t xs ys lf sy co b) (cwV 1 hts gX0_isTurnable_X0_yOf rfl rfl rfl hd_X0_yOf ⟨Nat.le_of_ble_eq_true rfl, Nat.le_of_ble_eq_true rfl⟩) hP hK (va_recv hK hP (ci := 0) (q0 := 0) rfl rfl) rfl hl.1 rfl (lv_room (Nat.le_of_ble_eq_true rfl)) dX0_isTurnable_66 ⟨Nat.zero_le _, Nat.zero_le _⟩ ?_
        refine rd_cVi (As := [.int (m_leftOf lf a b), .int (m_leftOf lf b a), .int (m_xOf xs b), .int (m_xOf ys b)]) (rest := []) F (c_X0_turn l dC dI cI cZ cY h qx qy ql qs qc n t xs ys lf sy co (m_leftOf lf a b) (m_leftOf lf b a) (m_xOf xs b) (m_xOf ys b)) (cwV 4 hts gX0_isTurnable_X0_turn rfl rfl rfl hd_X0_turn ⟨Nat.le_of_ble_eq_true rfl, Nat.le_of_ble_eq_true rfl⟩) hP hK (va_recv hK hP (ci := 0) (q0 := 0) rfl rfl) rfl hl.1 rfl (lv_room (Nat.le_of_ble_eq_true rfl)) dX0_isTurnable_69 ⟨Nat.zero_le _, Nat.zero_le _⟩ ?_
        refine lv_if_le (tgt := 79) hx hb dX0_isTurnable_72 (by decide) (fun c_4 => ?_) (fun c_4 => ?_)
        · refine lv_iconst (v := 0) hx hb dX0_isTurnable_79 (by decide) ?_
          exact rd_zret hx hb hr hlocks (by first | rfl | (simp only [m_isTurnable, c_1, c_2, c_3, c_4]; done) | (simp only [m_isTurnable, c_1, c_2, c_3, c_4]; rfl) | (simp [m_isTurnable, c_1, c_2, c_3, c_4, bI]; done)) dX0_isTurnable_80
        · refine lv_iconst (v := 1) hx hb dX0_isTurnable_75 (by decide) ?_
          refine lv_goto (tgt := 80) hx hb dX0_isTurnable_76 (by decide) ?_
          exact rd_zret hx hb hr hlocks (by first | rfl | (simp only [m_isTurnable, c_1, c_2, c_3, c_4]; done) | (simp only [m_isTurnable, c_1, c_2, c_3, c_4]; rfl) | (simp [m_isTurnable, c_1, c_2, c_3, c_4, bI]; done)) dX0_isTurnable_80
    · refine lv_iconst (v := 0) hx hb dX0_isTurnable_18 (by decide) ?_
      exact rd_zret hx hb hr hlocks (by first | rfl | (simp only [m_isTurnable, c_1, c_2]; done) | (simp only [m_isTurnable, c_1, c_2]; rfl) | (simp [m_isTurnable, c_1, c_2, bI]; done)) dX0_isTurnable_19
set_option maxHeartbeats 4000000 in
set_option maxRecDepth 100000 in
theorem c_X0_isEdgeThat (l : Launch) (dC : Nat → ClassId) (dI : Nat → Nat → Nat) (cI cZ cY : ClassId) (h qx qy ql qs qc : Nat) (n t : Nat) (xs ys lf sy co : Nat → Int32) (f : Int32) (a : Int32) (b : Int32) : Met l yX0_isEdgeThat wsX0_isEdgeThat ({ frames := 3, cells := 0, slots := 0, locals := 79 }) (va_Pc [.ref h, .int f, .int a, .int b] (fun U => va_P (dC, dI) vwCl (wM cI h qx qy ql qs qc n t xs ys lf sy co) U.heap ∧ va_K (dC, dI) vwCl (gTY cI cZ cY) U)) (vp_Si (fun r => r = bI (m_isEdgeThat n xs ys lf sy f a b))) 0 0 (fun _ => False) := by
  refine rd_start (cc := cX0_isEdgeThat) (maxL := 4) (ret := (some .boolean)) RX0 (by decide) rfl rfl (Nat.le_of_ble_eq_true rfl) ?_
  intro p e s m below meth c ⟨hx, hb, hr, hml, hown, hts, hlocks⟩ hP hK ls hl
  have F : CallFix p m c cX0_isEdgeThat 4 s ([.ref h, .int f, .int a, .int b] : List Value).toArray wsX0_isEdgeThat RX0 := ⟨hx, hb, hml, hown, hts⟩
  have hl : lv_has ls 4 [(0, .ref h), (1, .int f), (2, .int a), (3, .int b)] := hl
  refine lv_aload_n hx hb dX0_isEdgeThat_0 rfl (lv_at hl 0 rfl) ?_
  refine lv_iload_n hx hb dX0_isEdgeThat_1 rfl (lv_at hl 2 rfl) ?_
  refine lv_iload_n hx hb dX0_isEdgeThat_2 rfl (lv_at hl 3 rfl) ?_
  refine rd_cVi (As := [.int a, .int b]) (rest := []) F (c_X0_isEdge l dC dI cI cZ cY h qx qy ql qs qc n t xs ys lf sy co a b) (cwV 2 hts gX0_isEdgeThat_X0_isEdge rfl rfl rfl hd_X0_isEdge ⟨Nat.le_of_ble_eq_true rfl, Nat.le_of_ble_eq_true rfl⟩) hP hK (va_recv hK hP (ci := 0) (q0 := 0) rfl rfl) rfl hl.1 rfl (lv_room (Nat.le_of_ble_eq_true rfl)) dX0_isEdgeThat_3 ⟨Nat.zero_le _, Nat.zero_le _⟩ ?_
  refine lv_if_neB (tgt := 11) hx hb dX0_isEdgeThat_6 (by decide) (fun c_1 => ?_) (fun c_1 => ?_)
  · refine lv_iload_n hx hb dX0_isEdgeThat_11 rfl (lv_at hl 1 rfl) ?_
    by_cases c_2 : f = 1
    · refine lv_tsw (k := 1) (off := 32) (tgt := 44) hx hb dX0_isEdgeThat_12 c_2 (by decide +kernel) (by decide +kernel) (by decide +kernel) (by decide) ?_
      refine lv_aload_n hx hb dX0_isEdgeThat_44 rfl (lv_at hl 0 rfl) ?_
      refine lv_iload_n hx hb dX0_isEdgeThat_45 rfl (lv_at hl 2 rfl) ?_
      refine lv_iload_n hx hb dX0_isEdgeThat_46 rfl (lv_at hl 3 rfl) ?_
      refine rd_cVi (As := [.int a, .int b]) (rest := []) F (c_X0_isInner l dC dI cI cZ cY h qx qy ql qs qc n t xs ys lf sy co a b) (cwV 2 hts gX0_isEdgeThat_X0_isInner rfl rfl rfl hd_X0_isInner ⟨Nat.le_of_ble_eq_true rfl, Nat.le_of_ble_eq_true rfl⟩) hP hK (va_recv hK hP (ci := 0) (q0 := 0) rfl rfl) rfl hl.1 rfl (lv_room (Nat.le_of_ble_eq_true rfl)) dX0_isEdgeThat_47 ⟨Nat.zero_le _, Nat.zero_le _⟩ ?_
      refine lv_if_neB (tgt := 57) hx hb dX0_isEdgeThat_50 (by decide) (fun c_3 => ?_) (fun c_3 => ?_)
      · refine lv_iconst (v := 0) hx hb dX0_isEdgeThat_57 (by decide) ?_
        exact rd_zret hx hb hr hlocks (by first | (rw [m_isEdgeThat, if_pos c_1, if_pos c_2]; done) | (rw [m_isEdgeThat, if_pos c_1, if_pos c_2]; first | rfl | (rw [if_pos c_3]; done) | (rw [if_pos c_3]; rfl) | (rw [if_neg c_3]; done) | (rw [if_neg c_3]; rfl) | (rw [c_3]; done) | (rw [c_3]; rfl))) dX0_isEdgeThat_58
      · refine lv_iconst (v := 1) hx hb dX0_isEdgeThat_53 (by decide) ?_
        refine lv_goto (tgt := 58) hx hb dX0_isEdgeThat_54 (by decide) ?_
        exact rd_zret hx hb hr hlocks (by first | (rw [m_isEdgeThat, if_pos c_1, if_pos c_2]; done) | (rw [m_isEdgeThat, if_pos c_1, if_pos c_2]; first | rfl | (rw [if_pos c_3]; done) | (rw [if_pos c_3]; rfl) | (rw [if_neg c_3]; done) | (rw [if_neg c_3]; rfl) | (rw [c_3]; done) | (rw [c_3]; rfl))) dX0_isEdgeThat_58
    by_cases c_4 : f = 2
    · refine lv_tsw (k := 2) (off := 47) (tgt := 59) hx hb dX0_isEdgeThat_12 c_4 (by decide +kernel) (by decide +kernel) (by decide +kernel) (by decide) ?_
      refine lv_aload_n hx hb dX0_isEdgeThat_59 rfl (lv_at hl 0 rfl) ?_
      refine lv_iload_n hx hb dX0_isEdgeThat_60 rfl (lv_at hl 2 rfl) ?_
      refine lv_iload_n hx hb dX0_isEdgeThat_61 rfl (lv_at hl 3 rfl) ?_
      refine rd_cVi (As := [.int a, .int b]) (rest := []) F (c_X0_mustStay l dC dI cI cZ cY h qx qy ql qs qc n t xs ys lf sy co a b) (cwV 2 hts gX0_isEdgeThat_X0_mustStay rfl rfl rfl hd_X0_mustStay ⟨Nat.le_of_ble_eq_true rfl, Nat.le_of_ble_eq_true rfl⟩) hP hK (va_recv hK hP (ci := 0) (q0 := 0) rfl rfl) rfl hl.1 rfl (lv_room (Nat.le_of_ble_eq_true rfl)) dX0_isEdgeThat_62 ⟨Nat.zero_le _, Nat.zero_le _⟩ ?_
      exact rd_zret hx hb hr hlocks (by first | (rw [m_isEdgeThat, if_pos c_1, if_neg c_2, if_pos c_4]; done) | (rw [m_isEdgeThat, if_pos c_1, if_neg c_2, if_pos c_4]; first | rfl | (rw [if_pos c_4]; done) | (rw [if_pos c_4]; rfl) | (rw [if_neg c_4]; done) | (rw [if_neg c_4]; rfl) | (rw [c_4]; done) | (rw [c_4]; rfl))) dX0_isEdgeThat_65
    by_cases c_5 : f = 3
    · refine lv_tsw (k := 3) (off := 54) (tgt := 66) hx hb dX0_isEdgeThat_12 c_5 (by decide +kernel) (by decide +kernel) (by decide +kernel) (by decide) ?_
      refine lv_aload_n hx hb dX0_isEdgeThat_66 rfl (lv_at hl 0 rfl) ?_
      refine lv_iload_n hx hb dX0_isEdgeThat_67 rfl (lv_at hl 2 rfl) ?_
      refine lv_iload_n hx hb dX0_isEdgeThat_68 rfl (lv_at hl 3 rfl) ?_
      refine rd_cVi (As := [.int a, .int b]) (rest := []) F (c_X0_isUnfair l dC dI cI cZ cY h qx qy ql qs qc n t xs ys lf sy co a b) (cwV 2 hts gX0_isEdgeThat_X0_isUnfair rfl rfl rfl hd_X0_isUnfair ⟨Nat.le_of_ble_eq_true rfl, Nat.le_of_ble_eq_true rfl⟩) hP hK (va_recv hK hP (ci := 0) (q0 := 0) rfl rfl) rfl hl.1 rfl (lv_room (Nat.le_of_ble_eq_true rfl)) dX0_isEdgeThat_69 ⟨Nat.zero_le _, Nat.zero_le _⟩ ?_
      exact rd_zret hx hb hr hlocks (by first | (rw [m_isEdgeThat, if_pos c_1, if_neg c_2, if_neg c_4, if_pos c_5]; done) | (rw [m_isEdgeThat, if_pos c_1, if_neg c_2, if_neg c_4, if_pos c_5]; first | rfl | (rw [if_pos c_5]; done) | (rw [if_pos c_5]; rfl) | (rw [if_neg c_5]; done) | (rw [if_neg c_5]; rfl) | (rw [c_5]; done) | (rw [c_5]; rfl))) dX0_isEdgeThat_72
    by_cases c_6 : f = 4
    · refine lv_tsw (k := 4) (off := 61) (tgt := 73) hx hb dX0_isEdgeThat_12 c_6 (by decide +kernel) (by decide +kernel) (by decide +kernel) (by decide) ?_
      refine lv_aload_n hx hb dX0_isEdgeThat_73 rfl (lv_at hl 0 rfl) ?_
      refine lv_iload_n hx hb dX0_isEdgeThat_74 rfl (lv_at hl 2 rfl) ?_
      refine lv_iload_n hx hb dX0_isEdgeThat_75 rfl (lv_at hl 3 rfl) ?_
      refine rd_cVi (As := [.int a, .int b]) (rest := []) F (c_X0_isTurnable l dC dI cI cZ cY h qx qy ql qs qc n t xs ys lf sy co a b) (cwV 2 hts gX0_isEdgeThat_X0_isTurnable rfl rfl rfl hd_X0_isTurnable ⟨Nat.le_of_ble_eq_true rfl, Nat.le_of_ble_eq_true rfl⟩) hP hK (va_recv hK hP (ci := 0) (q0 := 0) rfl rfl) rfl hl.1 rfl (lv_room (Nat.le_of_ble_eq_true rfl)) dX0_isEdgeThat_76 ⟨Nat.zero_le _, Nat.zero_le _⟩ ?_
      exact rd_zret hx hb hr hlocks (by first | (rw [m_isEdgeThat, if_pos c_1, if_neg c_2, if_neg c_4, if_neg c_5, if_pos c_6]; done) | (rw [m_isEdgeThat, if_pos c_1, if_neg c_2, if_neg c_4, if_neg c_5, if_pos c_6]; first | rfl | (rw [if_pos c_6]; done) | (rw [if_pos c_6]; rfl) | (rw [if_neg c_6]; done) | (rw [if_neg c_6]; rfl) | (rw [c_6]; done) | (rw [c_6]; rfl))) dX0_isEdgeThat_79
    refine lv_tableOut (tgt := 80) hx hb dX0_isEdgeThat_12 (tsw_out4_1 c_2 c_4 c_5 c_6) (by decide) ?_
    refine lv_iload_n hx hb dX0_isEdgeThat_80 rfl (lv_at hl 1 rfl) ?_
    refine lv_if_ne (tgt := 88) hx hb dX0_isEdgeThat_81 (by decide) (fun c_7 => ?_) (fun c_7 => ?_)
    · refine lv_iconst (v := 0) hx hb dX0_isEdgeThat_88 (by decide) ?_
      exact rd_zret hx hb hr hlocks (by first | (rw [m_isEdgeThat, if_pos c_1, if_neg c_2, if_neg c_4, if_neg c_5, if_neg c_6]; done) | (rw [m_isEdgeThat, if_pos c_1, if_neg c_2, if_neg c_4, if_neg c_5, if_neg c_6]; first | rfl | (rw [if_pos c_7]; done) | (rw [if_pos c_7]; rfl) | (rw [if_neg c_7]; done) | (rw [if_neg c_7]; rfl) | (rw [c_7]; done) | (rw [c_7]; rfl))) dX0_isEdgeThat_89
    · refine lv_iconst (v := 1) hx hb dX0_isEdgeThat_84 (by decide) ?_
      refine lv_goto (tgt := 89) hx hb dX0_isEdgeThat_85 (by decide) ?_
      exact rd_zret hx hb hr hlocks (by first | (rw [m_isEdgeThat, if_pos c_1, if_neg c_2, if_neg c_4, if_neg c_5, if_neg c_6]; done) | (rw [m_isEdgeThat, if_pos c_1, if_neg c_2, if_neg c_4, if_neg c_5, if_neg c_6]; first | rfl | (rw [if_pos c_7]; done) | (rw [if_pos c_7]; rfl) | (rw [if_neg c_7]; done) | (rw [if_neg c_7]; rfl) | (rw [c_7]; done) | (rw [c_7]; rfl))) dX0_isEdgeThat_89
  · refine lv_iconst (v := 0) hx hb dX0_isEdgeThat_9 (by decide) ?_
    exact rd_zret hx hb hr hlocks (by simp only [m_isEdgeThat, c_1]; rfl) dX0_isEdgeThat_10
theorem in_X0_hasCairnAt_X0 : ∀ w ∈ wsX00, w ∈ wsX0_hasCairnAt := by decide +kernel
theorem fl_X0_hasCairnAt_38 : (Cond.fieldLink RX0 38 "MoorTriangles$Mesh" "cairns" "I") ∈ wsX0_hasCairnAt := by decide +kernel
set_option maxHeartbeats 4000000 in
set_option maxRecDepth 100000 in
theorem c_X0_hasCairnAt (l : Launch) (dC : Nat → ClassId) (dI : Nat → Nat → Nat) (cI cZ cY : ClassId) (h qx qy ql qs qc : Nat) (n t : Nat) (xs ys lf sy co : Nat → Int32) (x : Int32) (y : Int32) (hn : n ≤ 17) : Met l yX0_hasCairnAt wsX0_hasCairnAt ({ frames := 1, cells := 0, slots := 0, locals := 21 }) (va_Pc [.ref h, .int x, .int y] (fun U => va_P (dC, dI) vwCl (wM cI h qx qy ql qs qc n t xs ys lf sy co) U.heap ∧ va_K (dC, dI) vwCl (gTY cI cZ cY) U)) (vp_Si (fun r => r = bI (m_hasCairnAt n xs ys x y))) 0 0 (fun _ => False) := by
  refine rd_start (cc := cX0_hasCairnAt) (maxL := 4) (ret := (some .boolean)) RX0 (by decide) rfl rfl (Nat.le_of_ble_eq_true rfl) ?_
  intro p e s m below meth c ⟨hx, hb, hr, hml, hown, hts, hlocks⟩ hP hK ls hl
  have F : CallFix p m c cX0_hasCairnAt 4 s ([.ref h, .int x, .int y] : List Value).toArray wsX0_hasCairnAt RX0 := ⟨hx, hb, hml, hown, hts⟩
  have hl : lv_has ls 4 [(0, .ref h), (1, .int x), (2, .int y)] := hl
  refine lv_iconst (v := 0) hx hb dX0_hasCairnAt_0 (by decide) ?_
  refine lv_istore_n (lv' := [(3, .int 0), (0, .ref h), (1, .int x), (2, .int y)]) hx hb dX0_hasCairnAt_1 rfl hl (by decide) rfl (fun ls hl => ?_)
  have hL2 : ∀ (k_1 : Nat) (i : Nat), (n - i) < k_1 → (i ≤ n) → (∀ j, j < i → m_pAt xs ys x y j = false) → ∀ ls : Array Slot, lv_has ls 4 [(3, .int (nI i)), (0, .ref h), (1, .int x), (2, .int y)] → W p l e ({ frames := 1, cells := 0, slots := 0, locals := 21 } : Room) s m ([.ref h, .int x, .int y] : List Value).toArray below meth c s.heap [] 0 0 (MQ below (vp_Si (fun r => r = bI (m_hasCairnAt n xs ys x y))) ([.ref h, .int x, .int y] : List Value).toArray s 0 0 (fun _ => False)) (F0 m 2 ls []) := by
    intro k_1
    induction k_1 with
    | zero => intro i hk; exact absurd hk (Nat.not_lt_zero _)
    | succ k_1 ih_2 =>
      intro i hk_2 hi_i hbf ls hl
      refine lv_iload_n hx hb dX0_hasCairnAt_2 rfl (lv_at hl 0 rfl) ?_
      refine lv_aload_n hx hb dX0_hasCairnAt_3 rfl (lv_at hl 1 rfl) ?_
      refine va_get (D := (dC, dI)) (ci := 0) (v := .int (nI n)) (C := RX0) (T := TX0) (N := 7) hx hb hts in_X0_hasCairnAt_X0 hown hK hP 0 rfl rfl 0 (by decide) (hts (.fieldLink RX0 38 "MoorTriangles$Mesh" "cairns" "I") fl_X0_hasCairnAt_38) (fun _ h9 => h9) rfl dX0_hasCairnAt_4 ?_
      refine lv_icmp_ge (tgt := 36) hx hb dX0_hasCairnAt_7 (by decide) (fun c_3 => ?_) (fun c_3 => ?_)
      · have hge_i : n ≤ i := nI_le_le (by omega) (by omega) c_3
        have heq_i : i = n := by omega
        have hl : lv_has ls 4 [(3, .int (nI n)), (0, .ref h), (1, .int x), (2, .int y)] := by rw [heq_i] at hl; exact hl
        rw [heq_i] at hbf
        refine lv_iconst (v := 0) hx hb dX0_hasCairnAt_36 (by decide) ?_
        exact rd_zret hx hb hr hlocks (by rw [m_hasCairnAt, rg_any_f hbf]; rfl) dX0_hasCairnAt_37
      · have hlt_i : i < n := nI_nle_lt (by omega) (by omega) c_3
        refine lv_aload_n hx hb dX0_hasCairnAt_10 rfl (lv_at hl 1 rfl) ?_
        refine lv_iload_n hx hb dX0_hasCairnAt_11 rfl (lv_at hl 0 rfl) ?_
        refine rd_cVi (As := [.int (nI i)]) (rest := []) F (c_X0_xOf l dC dI cI cZ cY h qx qy ql qs qc n t xs ys lf sy co (nI i)) (cwV 1 hts gX0_hasCairnAt_X0_xOf rfl rfl rfl hd_X0_xOf ⟨Nat.le_of_ble_eq_true rfl, Nat.le_of_ble_eq_true rfl⟩) hP hK (va_recv hK hP (ci := 0) (q0 := 0) rfl rfl) rfl hl.1 rfl (lv_room (Nat.le_of_ble_eq_true rfl)) dX0_hasCairnAt_12 ⟨Nat.zero_le _, Nat.zero_le _⟩ ?_
        refine lv_iload_n hx hb dX0_hasCairnAt_15 rfl (lv_at hl 2 rfl) ?_
        refine lv_icmp_ne (tgt := 30) hx hb dX0_hasCairnAt_16 (by decide) (fun c_4 => ?_) (fun c_4 => ?_)
        · refine lv_iinc (v := nI (i + 1)) (lv' := [(3, .int (nI (i + 1))), (0, .ref h), (1, .int x), (2, .int y)]) hx hb dX0_hasCairnAt_30 hl (k := 0) rfl (nI_1 _) (by decide) rfl (fun ls hl => ?_)
          refine lv_goto (tgt := 2) hx hb dX0_hasCairnAt_33 (by decide) ?_
          have hl := lv_sub (l' := [(3, .int (nI (i + 1))), (0, .ref h), (1, .int x), (2, .int y)]) hl [0, 1, 2, 3] rfl
          have hl : lv_has ls 4 [(3, .int (nI (i + 1))), (0, .ref h), (1, .int x), (2, .int y)] := by
            have e9 : [(3, .int (nI (i + 1))), (0, .ref h), (1, .int x), (2, .int y)] = ([(3, .int (nI (i + 1))), (0, .ref h), (1, .int x), (2, .int y)] : List (Nat × Value)) := by rfl
            rw [← e9]; exact hl
          exact ih_2 (i + 1) (by omega) (by omega) (rg_bef hbf (by simp only [m_pAt, c_4]; rfl)) _ hl
        · refine lv_aload_n hx hb dX0_hasCairnAt_19 rfl (lv_at hl 1 rfl) ?_
          refine lv_iload_n hx hb dX0_hasCairnAt_20 rfl (lv_at hl 0 rfl) ?_
          refine rd_cVi (As := [.int (nI i)]) (rest := []) F (c_X0_yOf l dC dI cI cZ cY h qx qy ql qs qc n t xs ys lf sy co (nI i)) (cwV 1 hts gX0_hasCairnAt_X0_yOf rfl rfl rfl hd_X0_yOf ⟨Nat.le_of_ble_eq_true rfl, Nat.le_of_ble_eq_true rfl⟩) hP hK (va_recv hK hP (ci := 0) (q0 := 0) rfl rfl) rfl hl.1 rfl (lv_room (Nat.le_of_ble_eq_true rfl)) dX0_hasCairnAt_21 ⟨Nat.zero_le _, Nat.zero_le _⟩ ?_
          refine lv_iload_n hx hb dX0_hasCairnAt_24 rfl (lv_at hl 3 rfl) ?_
          refine lv_icmp_ne (tgt := 30) hx hb dX0_hasCairnAt_25 (by decide) (fun c_5 => ?_) (fun c_5 => ?_)
          · refine lv_iinc (v := nI (i + 1)) (lv' := [(3, .int (nI (i + 1))), (0, .ref h), (1, .int x), (2, .int y)]) hx hb dX0_hasCairnAt_30 hl (k := 0) rfl (nI_1 _) (by decide) rfl (fun ls hl => ?_)
            refine lv_goto (tgt := 2) hx hb dX0_hasCairnAt_33 (by decide) ?_
            have hl := lv_sub (l' := [(3, .int (nI (i + 1))), (0, .ref h), (1, .int x), (2, .int y)]) hl [0, 1, 2, 3] rfl
            have hl : lv_has ls 4 [(3, .int (nI (i + 1))), (0, .ref h), (1, .int x), (2, .int y)] := by
              have e9 : [(3, .int (nI (i + 1))), (0, .ref h), (1, .int x), (2, .int y)] = ([(3, .int (nI (i + 1))), (0, .ref h), (1, .int x), (2, .int y)] : List (Nat × Value)) := by rfl
              rw [← e9]; exact hl
            exact ih_2 (i + 1) (by omega) (by omega) (rg_bef hbf (by simp only [m_pAt, c_4, c_5]; rfl)) _ hl
          · refine lv_iconst (v := 1) hx hb dX0_hasCairnAt_28 (by decide) ?_
            exact rd_zret hx hb hr hlocks (by rw [m_hasCairnAt, rg_any_t (i := i) (by simp only [m_pAt, c_4, c_5]; rfl) hlt_i]; rfl) dX0_hasCairnAt_29
  have hl := lv_sub (l' := [(3, .int 0), (0, .ref h), (1, .int x), (2, .int y)]) hl [0, 1, 2, 3] rfl
  have hl : lv_has ls 4 [(3, .int (nI 0)), (0, .ref h), (1, .int x), (2, .int y)] := by
    have e9 : [(3, .int 0), (0, .ref h), (1, .int x), (2, .int y)] = ([(3, .int (nI 0)), (0, .ref h), (1, .int x), (2, .int y)] : List (Nat × Value)) := by rfl
    rw [← e9]; exact hl
  exact hL2 _ 0 (Nat.lt_succ_self _) (by omega) (fun j hj => absurd hj (Nat.not_lt_zero _)) _ hl
theorem in_X0_edgesAt_X0 : ∀ w ∈ wsX00, w ∈ wsX0_edgesAt := by decide +kernel
theorem fl_X0_edgesAt_38 : (Cond.fieldLink RX0 38 "MoorTriangles$Mesh" "cairns" "I") ∈ wsX0_edgesAt := by decide +kernel
set_option maxHeartbeats 4000000 in
set_option maxRecDepth 100000 in
theorem c_X0_edgesAt (l : Launch) (dC : Nat → ClassId) (dI : Nat → Nat → Nat) (cI cZ cY : ClassId) (h qx qy ql qs qc : Nat) (n t : Nat) (xs ys lf sy co : Nat → Int32) (a : Int32) (hn : n ≤ 17) : Met l yX0_edgesAt wsX0_edgesAt ({ frames := 2, cells := 0, slots := 0, locals := 44 }) (va_Pc [.ref h, .int a] (fun U => va_P (dC, dI) vwCl (wM cI h qx qy ql qs qc n t xs ys lf sy co) U.heap ∧ va_K (dC, dI) vwCl (gTY cI cZ cY) U)) (vp_Si (fun r => r = m_edgesAt n lf a)) 0 0 (fun _ => False) := by
  refine rd_start (cc := cX0_edgesAt) (maxL := 4) (ret := (some .int)) RX0 (by decide) rfl rfl (Nat.le_of_ble_eq_true rfl) ?_
  intro p e s m below meth c ⟨hx, hb, hr, hml, hown, hts, hlocks⟩ hP hK ls hl
  have F : CallFix p m c cX0_edgesAt 4 s ([.ref h, .int a] : List Value).toArray wsX0_edgesAt RX0 := ⟨hx, hb, hml, hown, hts⟩
  have hl : lv_has ls 4 [(0, .ref h), (1, .int a)] := hl
  refine lv_iconst (v := 0) hx hb dX0_edgesAt_0 (by decide) ?_
  refine lv_istore_n (lv' := [(2, .int 0), (0, .ref h), (1, .int a)]) hx hb dX0_edgesAt_1 rfl hl (by decide) rfl (fun ls hl => ?_)
  refine lv_iconst (v := 0) hx hb dX0_edgesAt_2 (by decide) ?_
  refine lv_istore_n (lv' := [(3, .int 0), (2, .int 0), (0, .ref h), (1, .int a)]) hx hb dX0_edgesAt_3 rfl hl (by decide) rfl (fun ls hl => ?_)
  have hL4 : ∀ (k_1 : Nat) (i : Nat), (n - i) < k_1 → (i ≤ n) → ∀ ls : Array Slot, lv_has ls 4 [(3, .int (nI i)), (2, .int (nI (rg_ct (m_pEdge lf a) i))), (0, .ref h), (1, .int a)] → W p l e ({ frames := 2, cells := 0, slots := 0, locals := 44 } : Room) s m ([.ref h, .int a] : List Value).toArray below meth c s.heap [] 0 0 (MQ below (vp_Si (fun r => r = m_edgesAt n lf a)) ([.ref h, .int a] : List Value).toArray s 0 0 (fun _ => False)) (F0 m 4 ls []) := by
    intro k_1
    induction k_1 with
    | zero => intro i hk; exact absurd hk (Nat.not_lt_zero _)
    | succ k_1 ih_2 =>
      intro i hk_4 hi_i ls hl
      refine lv_iload_n hx hb dX0_edgesAt_4 rfl (lv_at hl 0 rfl) ?_
      refine lv_aload_n hx hb dX0_edgesAt_5 rfl (lv_at hl 2 rfl) ?_
      refine va_get (D := (dC, dI)) (ci := 0) (v := .int (nI n)) (C := RX0) (T := TX0) (N := 7) hx hb hts in_X0_edgesAt_X0 hown hK hP 0 rfl rfl 0 (by decide) (hts (.fieldLink RX0 38 "MoorTriangles$Mesh" "cairns" "I") fl_X0_edgesAt_38) (fun _ h9 => h9) rfl dX0_edgesAt_6 ?_
      refine lv_icmp_ge (tgt := 30) hx hb dX0_edgesAt_9 (by decide) (fun c_3 => ?_) (fun c_3 => ?_)
      · have hge_i : n ≤ i := nI_le_le (by omega) (by omega) c_3
        have heq_i : i = n := by omega
        have hl : lv_has ls 4 [(3, .int (nI n)), (2, .int (nI (rg_ct (m_pEdge lf a) n))), (0, .ref h), (1, .int a)] := by rw [heq_i] at hl; exact hl
        refine lv_iload_n hx hb dX0_edgesAt_30 rfl (lv_at hl 1 rfl) ?_
        exact rd_iret hx hb hr hlocks (by rfl) dX0_edgesAt_31
      · have hlt_i : i < n := nI_nle_lt (by omega) (by omega) c_3
        refine lv_aload_n hx hb dX0_edgesAt_12 rfl (lv_at hl 2 rfl) ?_
        refine lv_iload_n hx hb dX0_edgesAt_13 rfl (lv_at hl 3 rfl) ?_
        refine lv_iload_n hx hb dX0_edgesAt_14 rfl (lv_at hl 0 rfl) ?_
        refine rd_cVi (As := [.int a, .int (nI i)]) (rest := []) F (c_X0_isEdge l dC dI cI cZ cY h qx qy ql qs qc n t xs ys lf sy co a (nI i)) (cwV 2 hts gX0_edgesAt_X0_isEdge rfl rfl rfl hd_X0_isEdge ⟨Nat.le_of_ble_eq_true rfl, Nat.le_of_ble_eq_true rfl⟩) hP hK (va_recv hK hP (ci := 0) (q0 := 0) rfl rfl) rfl hl.1 rfl (lv_room (Nat.le_of_ble_eq_true rfl)) dX0_edgesAt_15 ⟨Nat.zero_le _, Nat.zero_le _⟩ ?_
        refine lv_if_eqB (tgt := 24) hx hb dX0_edgesAt_18 (by decide) (fun c_4 => ?_) (fun c_4 => ?_)
        · refine lv_iinc (v := nI (i + 1)) (lv' := [(3, .int (nI (i + 1))), (2, .int (nI (rg_ct (m_pEdge lf a) i))), (0, .ref h), (1, .int a)]) hx hb dX0_edgesAt_24 hl (k := 0) rfl (nI_1 _) (by decide) rfl (fun ls hl => ?_)
          refine lv_goto (tgt := 4) hx hb dX0_edgesAt_27 (by decide) ?_
          have hl := lv_sub (l' := [(3, .int (nI (i + 1))), (2, .int (nI (rg_ct (m_pEdge lf a) i))), (0, .ref h), (1, .int a)]) hl [0, 1, 2, 3] rfl
          have hl : lv_has ls 4 [(3, .int (nI (i + 1))), (2, .int (nI (rg_ct (m_pEdge lf a) (i + 1)))), (0, .ref h), (1, .int a)] := by
            have e9 : [(3, .int (nI (i + 1))), (2, .int (nI (rg_ct (m_pEdge lf a) i))), (0, .ref h), (1, .int a)] = ([(3, .int (nI (i + 1))), (2, .int (nI (rg_ct (m_pEdge lf a) (i + 1)))), (0, .ref h), (1, .int a)] : List (Nat × Value)) := by rw [rg_ct_f (show m_pEdge lf a i = false from c_4)]
            rw [← e9]; exact hl
          exact ih_2 (i + 1) (by omega) (by omega) _ hl
        · refine lv_iinc (v := nI ((rg_ct (m_pEdge lf a) i) + 1)) (lv' := [(2, .int (nI ((rg_ct (m_pEdge lf a) i) + 1))), (3, .int (nI i)), (0, .ref h), (1, .int a)]) hx hb dX0_edgesAt_21 hl (k := 1) rfl (nI_1 _) (by decide) rfl (fun ls hl => ?_)
          refine lv_iinc (v := nI (i + 1)) (lv' := [(3, .int (nI (i + 1))), (2, .int (nI ((rg_ct (m_pEdge lf a) i) + 1))), (0, .ref h), (1, .int a)]) hx hb dX0_edgesAt_24 hl (k := 1) rfl (nI_1 _) (by decide) rfl (fun ls hl => ?_)
          refine lv_goto (tgt := 4) hx hb dX0_edgesAt_27 (by decide) ?_
          have hl := lv_sub (l' := [(3, .int (nI (i + 1))), (2, .int (nI ((rg_ct (m_pEdge lf a) i) + 1))), (0, .ref h), (1, .int a)]) hl [0, 1, 2, 3] rfl
          have hl : lv_has ls 4 [(3, .int (nI (i + 1))), (2, .int (nI (rg_ct (m_pEdge lf a) (i + 1)))), (0, .ref h), (1, .int a)] := by
            have e9 : [(3, .int (nI (i + 1))), (2, .int (nI ((rg_ct (m_pEdge lf a) i) + 1))), (0, .ref h), (1, .int a)] = ([(3, .int (nI (i + 1))), (2, .int (nI (rg_ct (m_pEdge lf a) (i + 1)))), (0, .ref h), (1, .int a)] : List (Nat × Value)) := by rw [rg_ct_t (show m_pEdge lf a i = true from c_4)]
            rw [← e9]; exact hl
          exact ih_2 (i + 1) (by omega) (by omega) _ hl
  have hl := lv_sub (l' := [(3, .int 0), (2, .int 0), (0, .ref h), (1, .int a)]) hl [0, 1, 2, 3] rfl
  have hl : lv_has ls 4 [(3, .int (nI 0)), (2, .int (nI (rg_ct (m_pEdge lf a) 0))), (0, .ref h), (1, .int a)] := by
    have e9 : [(3, .int 0), (2, .int 0), (0, .ref h), (1, .int a)] = ([(3, .int (nI 0)), (2, .int (nI (rg_ct (m_pEdge lf a) 0))), (0, .ref h), (1, .int a)] : List (Nat × Value)) := by rfl
    rw [← e9]; exact hl
  exact hL4 _ 0 (Nat.lt_succ_self _) (by omega) _ hl
theorem in_X0_trianglesAt_X0 : ∀ w ∈ wsX00, w ∈ wsX0_trianglesAt := by decide +kernel
theorem fl_X0_trianglesAt_38 : (Cond.fieldLink RX0 38 "MoorTriangles$Mesh" "cairns" "I") ∈ wsX0_trianglesAt := by decide +kernel
set_option maxHeartbeats 4000000 in
set_option maxRecDepth 100000 in
theorem c_X0_trianglesAt (l : Launch) (dC : Nat → ClassId) (dI : Nat → Nat → Nat) (cI cZ cY : ClassId) (h qx qy ql qs qc : Nat) (n t : Nat) (xs ys lf sy co : Nat → Int32) (a : Int32) (hn : n ≤ 17) : Met l yX0_trianglesAt wsX0_trianglesAt ({ frames := 1, cells := 0, slots := 0, locals := 22 }) (va_Pc [.ref h, .int a] (fun U => va_P (dC, dI) vwCl (wM cI h qx qy ql qs qc n t xs ys lf sy co) U.heap ∧ va_K (dC, dI) vwCl (gTY cI cZ cY) U)) (vp_Si (fun r => r = m_trianglesAt n lf a)) 0 0 (fun _ => False) := by
  refine rd_start (cc := cX0_trianglesAt) (maxL := 4) (ret := (some .int)) RX0 (by decide) rfl rfl (Nat.le_of_ble_eq_true rfl) ?_
  intro p e s m below meth c ⟨hx, hb, hr, hml, hown, hts, hlocks⟩ hP hK ls hl
  have F : CallFix p m c cX0_trianglesAt 4 s ([.ref h, .int a] : List Value).toArray wsX0_trianglesAt RX0 := ⟨hx, hb, hml, hown, hts⟩
  have hl : lv_has ls 4 [(0, .ref h), (1, .int a)] := hl
  refine lv_iconst (v := 0) hx hb dX0_trianglesAt_0 (by decide) ?_
  refine lv_istore_n (lv' := [(2, .int 0), (0, .ref h), (1, .int a)]) hx hb dX0_trianglesAt_1 rfl hl (by decide) rfl (fun ls hl => ?_)
  refine lv_iconst (v := 0) hx hb dX0_trianglesAt_2 (by decide) ?_
  refine lv_istore_n (lv' := [(3, .int 0), (2, .int 0), (0, .ref h), (1, .int a)]) hx hb dX0_trianglesAt_3 rfl hl (by decide) rfl (fun ls hl => ?_)
  have hL4 : ∀ (k_1 : Nat) (i : Nat), (n - i) < k_1 → (i ≤ n) → ∀ ls : Array Slot, lv_has ls 4 [(3, .int (nI i)), (2, .int (nI (rg_ct (m_pLeft lf a) i))), (0, .ref h), (1, .int a)] → W p l e ({ frames := 1, cells := 0, slots := 0, locals := 22 } : Room) s m ([.ref h, .int a] : List Value).toArray below meth c s.heap [] 0 0 (MQ below (vp_Si (fun r => r = m_trianglesAt n lf a)) ([.ref h, .int a] : List Value).toArray s 0 0 (fun _ => False)) (F0 m 4 ls []) := by
    intro k_1
    induction k_1 with
    | zero => intro i hk; exact absurd hk (Nat.not_lt_zero _)
    | succ k_1 ih_2 =>
      intro i hk_4 hi_i ls hl
      refine lv_iload_n hx hb dX0_trianglesAt_4 rfl (lv_at hl 0 rfl) ?_
      refine lv_aload_n hx hb dX0_trianglesAt_5 rfl (lv_at hl 2 rfl) ?_
      refine va_get (D := (dC, dI)) (ci := 0) (v := .int (nI n)) (C := RX0) (T := TX0) (N := 7) hx hb hts in_X0_trianglesAt_X0 hown hK hP 0 rfl rfl 0 (by decide) (hts (.fieldLink RX0 38 "MoorTriangles$Mesh" "cairns" "I") fl_X0_trianglesAt_38) (fun _ h9 => h9) rfl dX0_trianglesAt_6 ?_
      refine lv_icmp_ge (tgt := 31) hx hb dX0_trianglesAt_9 (by decide) (fun c_3 => ?_) (fun c_3 => ?_)
      · have hge_i : n ≤ i := nI_le_le (by omega) (by omega) c_3
        have heq_i : i = n := by omega
        have hl : lv_has ls 4 [(3, .int (nI n)), (2, .int (nI (rg_ct (m_pLeft lf a) n))), (0, .ref h), (1, .int a)] := by rw [heq_i] at hl; exact hl
        refine lv_iload_n hx hb dX0_trianglesAt_31 rfl (lv_at hl 1 rfl) ?_
        exact rd_iret hx hb hr hlocks (by rfl) dX0_trianglesAt_32
      · have hlt_i : i < n := nI_nle_lt (by omega) (by omega) c_3
        refine lv_aload_n hx hb dX0_trianglesAt_12 rfl (lv_at hl 2 rfl) ?_
        refine lv_iload_n hx hb dX0_trianglesAt_13 rfl (lv_at hl 3 rfl) ?_
        refine lv_iload_n hx hb dX0_trianglesAt_14 rfl (lv_at hl 0 rfl) ?_
        refine rd_cVi (As := [.int a, .int (nI i)]) (rest := []) F (c_X0_leftOf l dC dI cI cZ cY h qx qy ql qs qc n t xs ys lf sy co a (nI i)) (cwV 2 hts gX0_trianglesAt_X0_leftOf rfl rfl rfl hd_X0_leftOf ⟨Nat.le_of_ble_eq_true rfl, Nat.le_of_ble_eq_true rfl⟩) hP hK (va_recv hK hP (ci := 0) (q0 := 0) rfl rfl) rfl hl.1 rfl (lv_room (Nat.le_of_ble_eq_true rfl)) dX0_trianglesAt_15 ⟨Nat.zero_le _, Nat.zero_le _⟩ ?_
        refine lv_iconst (v := (-1)) hx hb dX0_trianglesAt_18 (by decide) ?_
        refine lv_icmp_eq (tgt := 25) hx hb dX0_trianglesAt_19 (by decide) (fun c_4 => ?_) (fun c_4 => ?_)
        · refine lv_iinc (v := nI (i + 1)) (lv' := [(3, .int (nI (i + 1))), (2, .int (nI (rg_ct (m_pLeft lf a) i))), (0, .ref h), (1, .int a)]) hx hb dX0_trianglesAt_25 hl (k := 0) rfl (nI_1 _) (by decide) rfl (fun ls hl => ?_)
          refine lv_goto (tgt := 4) hx hb dX0_trianglesAt_28 (by decide) ?_
          have hl := lv_sub (l' := [(3, .int (nI (i + 1))), (2, .int (nI (rg_ct (m_pLeft lf a) i))), (0, .ref h), (1, .int a)]) hl [0, 1, 2, 3] rfl
          have hl : lv_has ls 4 [(3, .int (nI (i + 1))), (2, .int (nI (rg_ct (m_pLeft lf a) (i + 1)))), (0, .ref h), (1, .int a)] := by
            have e9 : [(3, .int (nI (i + 1))), (2, .int (nI (rg_ct (m_pLeft lf a) i))), (0, .ref h), (1, .int a)] = ([(3, .int (nI (i + 1))), (2, .int (nI (rg_ct (m_pLeft lf a) (i + 1)))), (0, .ref h), (1, .int a)] : List (Nat × Value)) := by rw [rg_ct_f (show m_pLeft lf a i = false from (by simp only [m_pLeft, c_4]; rfl))]
            rw [← e9]; exact hl
          exact ih_2 (i + 1) (by omega) (by omega) _ hl
        · refine lv_iinc (v := nI ((rg_ct (m_pLeft lf a) i) + 1)) (lv' := [(2, .int (nI ((rg_ct (m_pLeft lf a) i) + 1))), (3, .int (nI i)), (0, .ref h), (1, .int a)]) hx hb dX0_trianglesAt_22 hl (k := 1) rfl (nI_1 _) (by decide) rfl (fun ls hl => ?_)
          refine lv_iinc (v := nI (i + 1)) (lv' := [(3, .int (nI (i + 1))), (2, .int (nI ((rg_ct (m_pLeft lf a) i) + 1))), (0, .ref h), (1, .int a)]) hx hb dX0_trianglesAt_25 hl (k := 1) rfl (nI_1 _) (by decide) rfl (fun ls hl => ?_)
          refine lv_goto (tgt := 4) hx hb dX0_trianglesAt_28 (by decide) ?_
          have hl := lv_sub (l' := [(3, .int (nI (i + 1))), (2, .int (nI ((rg_ct (m_pLeft lf a) i) + 1))), (0, .ref h), (1, .int a)]) hl [0, 1, 2, 3] rfl
          have hl : lv_has ls 4 [(3, .int (nI (i + 1))), (2, .int (nI (rg_ct (m_pLeft lf a) (i + 1)))), (0, .ref h), (1, .int a)] := by
            have e9 : [(3, .int (nI (i + 1))), (2, .int (nI ((rg_ct (m_pLeft lf a) i) + 1))), (0, .ref h), (1, .int a)] = ([(3, .int (nI (i + 1))), (2, .int (nI (rg_ct (m_pLeft lf a) (i + 1)))), (0, .ref h), (1, .int a)] : List (Nat × Value)) := by rw [rg_ct_t (show m_pLeft lf a i = true from (by simp only [m_pLeft, c_4]; rfl))]
            rw [← e9]; exact hl
          exact ih_2 (i + 1) (by omega) (by omega) _ hl
  have hl := lv_sub (l' := [(3, .int 0), (2, .int 0), (0, .ref h), (1, .int a)]) hl [0, 1, 2, 3] rfl
  have hl : lv_has ls 4 [(3, .int (nI 0)), (2, .int (nI (rg_ct (m_pLeft lf a) 0))), (0, .ref h), (1, .int a)] := by
    have e9 : [(3, .int 0), (2, .int 0), (0, .ref h), (1, .int a)] = ([(3, .int (nI 0)), (2, .int (nI (rg_ct (m_pLeft lf a) 0))), (0, .ref h), (1, .int a)] : List (Nat × Value)) := by rfl
    rw [← e9]; exact hl
  exact hL4 _ 0 (Nat.lt_succ_self _) (by omega) _ hl
theorem in_X0_find_X0 : ∀ w ∈ wsX00, w ∈ wsX0_find := by decide +kernel
theorem fl_X0_find_42 : (Cond.fieldLink RX0 42 "MoorTriangles$Mesh" "triangles" "I") ∈ wsX0_find := by decide +kernel
set_option maxHeartbeats 4000000 in
set_option maxRecDepth 100000 in
theorem c_X0_find (l : Launch) (dC : Nat → ClassId) (dI : Nat → Nat → Nat) (cI cZ cY : ClassId) (h qx qy ql qs qc : Nat) (n t : Nat) (xs ys lf sy co : Nat → Int32) (x : Int32) (y : Int32) (ht : t ≤ 28) : Met l yX0_find wsX0_find ({ frames := 3, cells := 0, slots := 0, locals := 74 }) (va_Pc [.ref h, .int x, .int y] (fun U => va_P (dC, dI) vwCl (wM cI h qx qy ql qs qc n t xs ys lf sy co) U.heap ∧ va_K (dC, dI) vwCl (gTY cI cZ cY) U)) (vp_Si (fun r => r = m_find t xs ys co x y)) 0 0 (fun _ => False) := by
  refine rd_start (cc := cX0_find) (maxL := 4) (ret := (some .int)) RX0 (by decide) rfl rfl (Nat.le_of_ble_eq_true rfl) ?_
  intro p e s m below meth c ⟨hx, hb, hr, hml, hown, hts, hlocks⟩ hP hK ls hl
  have F : CallFix p m c cX0_find 4 s ([.ref h, .int x, .int y] : List Value).toArray wsX0_find RX0 := ⟨hx, hb, hml, hown, hts⟩
  have hl : lv_has ls 4 [(0, .ref h), (1, .int x), (2, .int y)] := hl
  refine lv_iconst (v := 0) hx hb dX0_find_0 (by decide) ?_
  refine lv_istore_n (lv' := [(3, .int 0), (0, .ref h), (1, .int x), (2, .int y)]) hx hb dX0_find_1 rfl hl (by decide) rfl (fun ls hl => ?_)
  have hL2 : ∀ (k_1 : Nat) (i : Nat), (t - i) < k_1 → (i ≤ t) → (∀ j, j < i → m_pCov xs ys co x y j = false) → ∀ ls : Array Slot, lv_has ls 4 [(3, .int (nI i)), (0, .ref h), (1, .int x), (2, .int y)] → W p l e ({ frames := 3, cells := 0, slots := 0, locals := 74 } : Room) s m ([.ref h, .int x, .int y] : List Value).toArray below meth c s.heap [] 0 0 (MQ below (vp_Si (fun r => r = m_find t xs ys co x y)) ([.ref h, .int x, .int y] : List Value).toArray s 0 0 (fun _ => False)) (F0 m 2 ls []) := by
    intro k_1
    induction k_1 with
    | zero => intro i hk; exact absurd hk (Nat.not_lt_zero _)
    | succ k_1 ih_2 =>
      intro i hk_2 hi_i hbf ls hl
      refine lv_iload_n hx hb dX0_find_2 rfl (lv_at hl 0 rfl) ?_
      refine lv_aload_n hx hb dX0_find_3 rfl (lv_at hl 1 rfl) ?_
      refine va_get (D := (dC, dI)) (ci := 0) (v := .int (nI t)) (C := RX0) (T := TX0) (N := 7) hx hb hts in_X0_find_X0 hown hK hP 0 rfl rfl 1 (by decide) (hts (.fieldLink RX0 42 "MoorTriangles$Mesh" "triangles" "I") fl_X0_find_42) (fun _ h9 => h9) rfl dX0_find_4 ?_
      refine lv_icmp_ge (tgt := 28) hx hb dX0_find_7 (by decide) (fun c_3 => ?_) (fun c_3 => ?_)
      · have hge_i : t ≤ i := nI_le_le (by omega) (by omega) c_3
        have heq_i : i = t := by omega
        have hl : lv_has ls 4 [(3, .int (nI t)), (0, .ref h), (1, .int x), (2, .int y)] := by rw [heq_i] at hl; exact hl
        rw [heq_i] at hbf
        refine lv_iconst (v := (-1)) hx hb dX0_find_28 (by decide) ?_
        exact rd_iret hx hb hr hlocks (by rw [m_find, rg_fst_none hbf]; rfl) dX0_find_29
      · have hlt_i : i < t := nI_nle_lt (by omega) (by omega) c_3
        refine lv_aload_n hx hb dX0_find_10 rfl (lv_at hl 1 rfl) ?_
        refine lv_iload_n hx hb dX0_find_11 rfl (lv_at hl 0 rfl) ?_
        refine lv_iload_n hx hb dX0_find_12 rfl (lv_at hl 2 rfl) ?_
        refine lv_iload_n hx hb dX0_find_13 rfl (lv_at hl 3 rfl) ?_
        refine rd_cVi (As := [.int (nI i), .int x, .int y]) (rest := []) F (c_X0_covers l dC dI cI cZ cY h qx qy ql qs qc n t xs ys lf sy co (nI i) x y) (cwV 3 hts gX0_find_X0_covers rfl rfl rfl hd_X0_covers ⟨Nat.le_of_ble_eq_true rfl, Nat.le_of_ble_eq_true rfl⟩) hP hK (va_recv hK hP (ci := 0) (q0 := 0) rfl rfl) rfl hl.1 rfl (lv_room (Nat.le_of_ble_eq_true rfl)) dX0_find_14 ⟨Nat.zero_le _, Nat.zero_le _⟩ ?_
        refine lv_if_eqB (tgt := 22) hx hb dX0_find_17 (by decide) (fun c_4 => ?_) (fun c_4 => ?_)
        · refine lv_iinc (v := nI (i + 1)) (lv' := [(3, .int (nI (i + 1))), (0, .ref h), (1, .int x), (2, .int y)]) hx hb dX0_find_22 hl (k := 0) rfl (nI_1 _) (by decide) rfl (fun ls hl => ?_)
          refine lv_goto (tgt := 2) hx hb dX0_find_25 (by decide) ?_
          have hl := lv_sub (l' := [(3, .int (nI (i + 1))), (0, .ref h), (1, .int x), (2, .int y)]) hl [0, 1, 2, 3] rfl
          have hl : lv_has ls 4 [(3, .int (nI (i + 1))), (0, .ref h), (1, .int x), (2, .int y)] := by
            have e9 : [(3, .int (nI (i + 1))), (0, .ref h), (1, .int x), (2, .int y)] = ([(3, .int (nI (i + 1))), (0, .ref h), (1, .int x), (2, .int y)] : List (Nat × Value)) := by rfl
            rw [← e9]; exact hl
          exact ih_2 (i + 1) (by omega) (by omega) (rg_bef hbf c_4) _ hl
        · refine lv_iload_n hx hb dX0_find_20 rfl (lv_at hl 0 rfl) ?_
          exact rd_iret hx hb hr hlocks (by rw [m_find, rg_fst_some (i := i) c_4 hbf hlt_i]; rfl) dX0_find_21
  have hl := lv_sub (l' := [(3, .int 0), (0, .ref h), (1, .int x), (2, .int y)]) hl [0, 1, 2, 3] rfl
  have hl : lv_has ls 4 [(3, .int (nI 0)), (0, .ref h), (1, .int x), (2, .int y)] := by
    have e9 : [(3, .int 0), (0, .ref h), (1, .int x), (2, .int y)] = ([(3, .int (nI 0)), (0, .ref h), (1, .int x), (2, .int y)] : List (Nat × Value)) := by rfl
    rw [← e9]; exact hl
  exact hL2 _ 0 (Nat.lt_succ_self _) (by omega) (fun j hj => absurd hj (Nat.not_lt_zero _)) _ hl
theorem in_X0_edgesThat_X0 : ∀ w ∈ wsX00, w ∈ wsX0_edgesThat := by decide +kernel
theorem fl_X0_edgesThat_38 : (Cond.fieldLink RX0 38 "MoorTriangles$Mesh" "cairns" "I") ∈ wsX0_edgesThat := by decide +kernel
set_option maxHeartbeats 4000000 in
set_option maxRecDepth 100000 in
theorem c_X0_edgesThat (l : Launch) (dC : Nat → ClassId) (dI : Nat → Nat → Nat) (cI cZ cY : ClassId) (h qx qy ql qs qc : Nat) (n t : Nat) (xs ys lf sy co : Nat → Int32) (f : Int32) (hn : n ≤ 17) : Met l yX0_edgesThat wsX0_edgesThat ({ frames := 4, cells := 0, slots := 0, locals := 102 }) (va_Pc [.ref h, .int f] (fun U => va_P (dC, dI) vwCl (wM cI h qx qy ql qs qc n t xs ys lf sy co) U.heap ∧ va_K (dC, dI) vwCl (gTY cI cZ cY) U)) (vp_Si (fun r => r = m_edgesThat n xs ys lf sy f)) 0 0 (fun _ => False) := by
  refine rd_start (cc := cX0_edgesThat) (maxL := 5) (ret := (some .int)) RX0 (by decide) rfl rfl (Nat.le_of_ble_eq_true rfl) ?_
  intro p e s m below meth c ⟨hx, hb, hr, hml, hown, hts, hlocks⟩ hP hK ls hl
  have F : CallFix p m c cX0_edgesThat 5 s ([.ref h, .int f] : List Value).toArray wsX0_edgesThat RX0 := ⟨hx, hb, hml, hown, hts⟩
  have hl : lv_has ls 5 [(0, .ref h), (1, .int f)] := hl
  refine lv_iconst (v := 0) hx hb dX0_edgesThat_0 (by decide) ?_
  refine lv_istore_n (lv' := [(2, .int 0), (0, .ref h), (1, .int f)]) hx hb dX0_edgesThat_1 rfl hl (by decide) rfl (fun ls hl => ?_)
  refine lv_iconst (v := 0) hx hb dX0_edgesThat_2 (by decide) ?_
  refine lv_istore_n (lv' := [(3, .int 0), (2, .int 0), (0, .ref h), (1, .int f)]) hx hb dX0_edgesThat_3 rfl hl (by decide) rfl (fun ls hl => ?_)
  have hL4 : ∀ (k_1 : Nat) (i : Nat), (n - i) < k_1 → (i ≤ n) → ∀ ls : Array Slot, lv_has ls 5 [(3, .int (nI i)), (2, .int (nI (rg_sum (m_rET n xs ys lf sy f) i))), (0, .ref h), (1, .int f)] → W p l e ({ frames := 4, cells := 0, slots := 0, locals := 102 } : Room) s m ([.ref h, .int f] : List Value).toArray below meth c s.heap [] 0 0 (MQ below (vp_Si (fun r => r = m_edgesThat n xs ys lf sy f)) ([.ref h, .int f] : List Value).toArray s 0 0 (fun _ => False)) (F0 m 4 ls []) := by
    intro k_1
    induction k_1 with
    | zero => intro i hk; exact absurd hk (Nat.not_lt_zero _)
    | succ k_1 ih_2 =>
      intro i hk_4 hi_i ls hl
      refine lv_iload_n hx hb dX0_edgesThat_4 rfl (lv_at hl 0 rfl) ?_
      refine lv_aload_n hx hb dX0_edgesThat_5 rfl (lv_at hl 2 rfl) ?_
      refine va_get (D := (dC, dI)) (ci := 0) (v := .int (nI n)) (C := RX0) (T := TX0) (N := 7) hx hb hts in_X0_edgesThat_X0 hown hK hP 0 rfl rfl 0 (by decide) (hts (.fieldLink RX0 38 "MoorTriangles$Mesh" "cairns" "I") fl_X0_edgesThat_38) (fun _ h9 => h9) rfl dX0_edgesThat_6 ?_
      refine lv_icmp_ge (tgt := 52) hx hb dX0_edgesThat_9 (by decide) (fun c_3 => ?_) (fun c_3 => ?_)
      · have hge_i : n ≤ i := nI_le_le (by omega) (by omega) c_3
        have heq_i : i = n := by omega
        have hl : lv_has ls 5 [(3, .int (nI n)), (2, .int (nI (rg_sum (m_rET n xs ys lf sy f) n))), (0, .ref h), (1, .int f)] := by rw [heq_i] at hl; exact hl
        refine lv_iload_n hx hb dX0_edgesThat_52 rfl (lv_at hl 1 rfl) ?_
        exact rd_iret hx hb hr hlocks (by rfl) dX0_edgesThat_53
      · have hlt_i : i < n := nI_nle_lt (by omega) (by omega) c_3
        refine lv_iload_n hx hb dX0_edgesThat_12 rfl (lv_at hl 0 rfl) ?_
        refine lv_iconst (v := 1) hx hb dX0_edgesThat_13 (by decide) ?_
        refine lv_iadd hx hb dX0_edgesThat_14 ?_
        refine lv_istore (lv' := [(4, .int ((nI i) + 1)), (3, .int (nI i)), (2, .int (nI (rg_sum (m_rET n xs ys lf sy f) i))), (0, .ref h), (1, .int f)]) hx hb dX0_edgesThat_15 hl (by decide) rfl (fun ls hl => ?_)
        have hL17 : ∀ (k_4 : Nat) (j : Nat), (n - j) < k_4 → (j ≤ n) → (i < j) → ∀ ls : Array Slot, lv_has ls 5 [(4, .int (nI j)), (2, .int (nI (rg_sum (m_rET n xs ys lf sy f) i + rg_ct (m_pET n xs ys lf sy f i) j))), (3, .int (nI i)), (0, .ref h), (1, .int f)] → W p l e ({ frames := 4, cells := 0, slots := 0, locals := 102 } : Room) s m ([.ref h, .int f] : List Value).toArray below meth c s.heap [] 0 0 (MQ below (vp_Si (fun r => r = m_edgesThat n xs ys lf sy f)) ([.ref h, .int f] : List Value).toArray s 0 0 (fun _ => False)) (F0 m 17 ls []) := by
          intro k_4
          induction k_4 with
          | zero => intro j hk; exact absurd hk (Nat.not_lt_zero _)
          | succ k_4 ih_5 =>
            intro j hk_17 hi_j hij ls hl
            refine lv_iload hx hb dX0_edgesThat_17 (lv_at hl 0 rfl) ?_
            refine lv_aload_n hx hb dX0_edgesThat_19 rfl (lv_at hl 3 rfl) ?_
            refine va_get (D := (dC, dI)) (ci := 0) (v := .int (nI n)) (C := RX0) (T := TX0) (N := 7) hx hb hts in_X0_edgesThat_X0 hown hK hP 0 rfl rfl 0 (by decide) (hts (.fieldLink RX0 38 "MoorTriangles$Mesh" "cairns" "I") fl_X0_edgesThat_38) (fun _ h9 => h9) rfl dX0_edgesThat_20 ?_
            refine lv_icmp_ge (tgt := 46) hx hb dX0_edgesThat_23 (by decide) (fun c_6 => ?_) (fun c_6 => ?_)
            · have hge_j : n ≤ j := nI_le_le (by omega) (by omega) c_6
              have heq_j : j = n := by omega
              have hl : lv_has ls 5 [(4, .int (nI n)), (2, .int (nI (rg_sum (m_rET n xs ys lf sy f) i + rg_ct (m_pET n xs ys lf sy f i) n))), (3, .int (nI i)), (0, .ref h), (1, .int f)] := by rw [heq_j] at hl; exact hl
              refine lv_iinc (v := nI (i + 1)) (lv' := [(3, .int (nI (i + 1))), (4, .int (nI n)), (2, .int (nI (rg_sum (m_rET n xs ys lf sy f) i + rg_ct (m_pET n xs ys lf sy f i) n))), (0, .ref h), (1, .int f)]) hx hb dX0_edgesThat_46 hl (k := 2) rfl (nI_1 _) (by decide) rfl (fun ls hl => ?_)
              refine lv_goto (tgt := 4) hx hb dX0_edgesThat_49 (by decide) ?_
              have hl := lv_sub (l' := [(3, .int (nI (i + 1))), (2, .int (nI (rg_sum (m_rET n xs ys lf sy f) i + rg_ct (m_pET n xs ys lf sy f i) n))), (0, .ref h), (1, .int f)]) hl [0, 2, 3, 4] rfl
              have hl : lv_has ls 5 [(3, .int (nI (i + 1))), (2, .int (nI (rg_sum (m_rET n xs ys lf sy f) (i + 1)))), (0, .ref h), (1, .int f)] := by
                have e9 : [(3, .int (nI (i + 1))), (2, .int (nI (rg_sum (m_rET n xs ys lf sy f) i + rg_ct (m_pET n xs ys lf sy f i) n))), (0, .ref h), (1, .int f)] = ([(3, .int (nI (i + 1))), (2, .int (nI (rg_sum (m_rET n xs ys lf sy f) (i + 1)))), (0, .ref h), (1, .int f)] : List (Nat × Value)) := by rfl
                rw [← e9]; exact hl
              exact ih_2 (i + 1) (by omega) (by omega) _ hl
            · have hlt_j : j < n := nI_nle_lt (by omega) (by omega) c_6
              refine lv_aload_n hx hb dX0_edgesThat_26 rfl (lv_at hl 3 rfl) ?_
              refine lv_iload_n hx hb dX0_edgesThat_27 rfl (lv_at hl 4 rfl) ?_
              refine lv_iload_n hx hb dX0_edgesThat_28 rfl (lv_at hl 2 rfl) ?_
              refine lv_iload hx hb dX0_edgesThat_29 (lv_at hl 0 rfl) ?_
              refine rd_cVi (As := [.int f, .int (nI i), .int (nI j)]) (rest := []) F (c_X0_isEdgeThat l dC dI cI cZ cY h qx qy ql qs qc n t xs ys lf sy co f (nI i) (nI j)) (cwV 3 hts gX0_edgesThat_X0_isEdgeThat rfl rfl rfl hd_X0_isEdgeThat ⟨Nat.le_of_ble_eq_true rfl, Nat.le_of_ble_eq_true rfl⟩) hP hK (va_recv hK hP (ci := 0) (q0 := 0) rfl rfl) rfl hl.1 rfl (lv_room (Nat.le_of_ble_eq_true rfl)) dX0_edgesThat_31 ⟨Nat.zero_le _, Nat.zero_le _⟩ ?_
              refine lv_if_eqB (tgt := 40) hx hb dX0_edgesThat_34 (by decide) (fun c_7 => ?_) (fun c_7 => ?_)
              · refine lv_iinc (v := nI (j + 1)) (lv' := [(4, .int (nI (j + 1))), (2, .int (nI (rg_sum (m_rET n xs ys lf sy f) i + rg_ct (m_pET n xs ys lf sy f i) j))), (3, .int (nI i)), (0, .ref h), (1, .int f)]) hx hb dX0_edgesThat_40 hl (k := 0) rfl (nI_1 _) (by decide) rfl (fun ls hl => ?_)
                refine lv_goto (tgt := 17) hx hb dX0_edgesThat_43 (by decide) ?_
                have hl := lv_sub (l' := [(4, .int (nI (j + 1))), (2, .int (nI (rg_sum (m_rET n xs ys lf sy f) i + rg_ct (m_pET n xs ys lf sy f i) j))), (3, .int (nI i)), (0, .ref h), (1, .int f)]) hl [0, 1, 2, 3, 4] rfl
                have hl : lv_has ls 5 [(4, .int (nI (j + 1))), (2, .int (nI (rg_sum (m_rET n xs ys lf sy f) i + rg_ct (m_pET n xs ys lf sy f i) (j + 1)))), (3, .int (nI i)), (0, .ref h), (1, .int f)] := by
                  have e9 : [(4, .int (nI (j + 1))), (2, .int (nI (rg_sum (m_rET n xs ys lf sy f) i + rg_ct (m_pET n xs ys lf sy f i) j))), (3, .int (nI i)), (0, .ref h), (1, .int f)] = ([(4, .int (nI (j + 1))), (2, .int (nI (rg_sum (m_rET n xs ys lf sy f) i + rg_ct (m_pET n xs ys lf sy f i) (j + 1)))), (3, .int (nI i)), (0, .ref h), (1, .int f)] : List (Nat × Value)) := by rw [rg_ct_f (m_pET_hi (by omega) c_7)]; try rfl
                  rw [← e9]; exact hl
                exact ih_5 (j + 1) (by omega) (by omega) (by omega) _ hl
              · refine lv_iinc (v := nI ((rg_sum (m_rET n xs ys lf sy f) i + rg_ct (m_pET n xs ys lf sy f i) j) + 1)) (lv' := [(2, .int (nI ((rg_sum (m_rET n xs ys lf sy f) i + rg_ct (m_pET n xs ys lf sy f i) j) + 1))), (4, .int (nI j)), (3, .int (nI i)), (0, .ref h), (1, .int f)]) hx hb dX0_edgesThat_37 hl (k := 1) rfl (nI_1 _) (by decide) rfl (fun ls hl => ?_)
                refine lv_iinc (v := nI (j + 1)) (lv' := [(4, .int (nI (j + 1))), (2, .int (nI ((rg_sum (m_rET n xs ys lf sy f) i + rg_ct (m_pET n xs ys lf sy f i) j) + 1))), (3, .int (nI i)), (0, .ref h), (1, .int f)]) hx hb dX0_edgesThat_40 hl (k := 1) rfl (nI_1 _) (by decide) rfl (fun ls hl => ?_)
                refine lv_goto (tgt := 17) hx hb dX0_edgesThat_43 (by decide) ?_
                have hl := lv_sub (l' := [(4, .int (nI (j + 1))), (2, .int (nI ((rg_sum (m_rET n xs ys lf sy f) i + rg_ct (m_pET n xs ys lf sy f i) j) + 1))), (3, .int (nI i)), (0, .ref h), (1, .int f)]) hl [0, 1, 2, 3, 4] rfl
                have hl : lv_has ls 5 [(4, .int (nI (j + 1))), (2, .int (nI (rg_sum (m_rET n xs ys lf sy f) i + rg_ct (m_pET n xs ys lf sy f i) (j + 1)))), (3, .int (nI i)), (0, .ref h), (1, .int f)] := by
                  have e9 : [(4, .int (nI (j + 1))), (2, .int (nI ((rg_sum (m_rET n xs ys lf sy f) i + rg_ct (m_pET n xs ys lf sy f i) j) + 1))), (3, .int (nI i)), (0, .ref h), (1, .int f)] = ([(4, .int (nI (j + 1))), (2, .int (nI (rg_sum (m_rET n xs ys lf sy f) i + rg_ct (m_pET n xs ys lf sy f i) (j + 1)))), (3, .int (nI i)), (0, .ref h), (1, .int f)] : List (Nat × Value)) := by rw [rg_ct_t (m_pET_hi (by omega) c_7)]; try rfl
                  rw [← e9]; exact hl
                exact ih_5 (j + 1) (by omega) (by omega) (by omega) _ hl
        have hl := lv_sub (l' := [(4, .int ((nI i) + 1)), (2, .int (nI (rg_sum (m_rET n xs ys lf sy f) i))), (3, .int (nI i)), (0, .ref h), (1, .int f)]) hl [0, 2, 1, 3, 4] rfl
        have hl : lv_has ls 5 [(4, .int (nI (i + 1))), (2, .int (nI (rg_sum (m_rET n xs ys lf sy f) i + rg_ct (m_pET n xs ys lf sy f i) (i + 1)))), (3, .int (nI i)), (0, .ref h), (1, .int f)] := by
          have e9 : [(4, .int ((nI i) + 1)), (2, .int (nI (rg_sum (m_rET n xs ys lf sy f) i))), (3, .int (nI i)), (0, .ref h), (1, .int f)] = ([(4, .int (nI (i + 1))), (2, .int (nI (rg_sum (m_rET n xs ys lf sy f) i + rg_ct (m_pET n xs ys lf sy f i) (i + 1)))), (3, .int (nI i)), (0, .ref h), (1, .int f)] : List (Nat × Value)) := by rw [rg_ct_0 (fun j hj => m_pET_lo hj), nI_1]; try rfl
          rw [← e9]; exact hl
        exact hL17 _ (i + 1) (Nat.lt_succ_self _) (by omega) (by omega) _ hl
  have hl := lv_sub (l' := [(3, .int 0), (2, .int 0), (0, .ref h), (1, .int f)]) hl [0, 1, 2, 3] rfl
  have hl : lv_has ls 5 [(3, .int (nI 0)), (2, .int (nI (rg_sum (m_rET n xs ys lf sy f) 0))), (0, .ref h), (1, .int f)] := by
    have e9 : [(3, .int 0), (2, .int 0), (0, .ref h), (1, .int f)] = ([(3, .int (nI 0)), (2, .int (nI (rg_sum (m_rET n xs ys lf sy f) 0))), (0, .ref h), (1, .int f)] : List (Nat × Value)) := by rfl
    rw [← e9]; exact hl
  exact hL4 _ 0 (Nat.lt_succ_self _) (by omega) _ hl