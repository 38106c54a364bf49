theorem in_X2_told_X2 : ∀ w ∈ wsX20, w ∈ wsX2_told := by decide +kernel
theorem fl_X2_told_35 : (Cond.fieldLink RX2 35 "MoorTrianglesModel" "thrown" "I") ∈ wsX2_told := by decide +kernel
set_option maxHeartbeats 4000000 in
set_option maxRecDepth 100000 in
theorem c_X2_told (l : Launch) (dC : Nat → ClassId) (dI : Nat → Nat → Nat) (cI cZ cY : ClassId) (h qx qy qh qt qs : Nat) (rw : Nat → Nat) (th : Int32) (n : Nat) (xs ys hs : Nat → Int32) (t : Nat) (tb : Nat → Int32) (sg : Nat → Nat → Int32) (fl : Int32) (a : Int32) (w : Int32) (sz : Nat) (ht : t ≤ 36) (hn : n ≤ 17) (hn1 : 1 ≤ n) : Met l yX2_told wsX2_told ({ frames := 6, cells := 0, slots := 0, locals := 138 }) (va_Pc [.ref h, .int a, .int w] (wrP (dC, dI) (gTY cI cZ cY) (wR cI cZ cY h qx qy qh qt qs rw th n xs ys hs t tb sg fl) sz)) (wrQi (dC, dI) (gTY cI cZ cY) (r_b2 (r_isIn a 0 (nI n - 1)) (r_isIn w 0 4) (r_cairnTold n t xs ys hs tb a w) 0) (wR cI cZ cY h qx qy qh qt qs rw (r_b2 (r_isIn a 0 (nI n - 1)) (r_isIn w 0 4) 0 1) n xs ys hs t tb sg fl) (va_A (wR cI cZ cY h qx qy qh qt qs rw th n xs ys hs t tb sg fl) sz)) 0 0 (va_A (wR cI cZ cY h qx qy qh qt qs rw th n xs ys hs t tb sg fl) sz) := by
  refine wr_start (cc := cX2_told) (maxL := 3) (ret := (some .int)) (Q0 := wrQi (dC, dI) (gTY cI cZ cY) (r_b2 (r_isIn a 0 (nI n - 1)) (r_isIn w 0 4) (r_cairnTold n t xs ys hs tb a w) 0) (wR cI cZ cY h qx qy qh qt qs rw (r_b2 (r_isIn a 0 (nI n - 1)) (r_isIn w 0 4) 0 1) n xs ys hs t tb sg fl)) RX2 (by decide) rfl rfl (Nat.le_of_ble_eq_true rfl) ?_
  intro p e s m below meth c ⟨hx, hb, hr, hml, hown, hts, hlocks, hin⟩ hP hK A hD hA hS ls hl
  have F : CallFix p m c cX2_told 3 s ([.ref h, .int a, .int w] : List Value).toArray wsX2_told RX2 := ⟨hx, hb, hml, hown, hts⟩
  have hl : lv_has ls 3 [(0, .ref h), (1, .int a), (2, .int w)] := hl
  refine lv_aload_n hx hb dX2_told_0 rfl (lv_at hl 0 rfl) ?_
  refine lv_iconst (v := 0) hx hb dX2_told_1 (by decide) ?_
  refine va_put (D := (dC, dI)) (ci := 2) (v := .int 0) (ty := .int) (C := RX2) (T := TX2) (N := 9) hx hb hts in_X2_told_X2 tyX2 tyX2_ok nmX2 hown hK hP hD hS 0 rfl rfl 0 (by decide) (hts (.fieldLink RX2 35 "MoorTrianglesModel" "thrown" "I") fl_X2_told_35) (fun _ h9 => h9) rfl (by decide +kernel) rfl rfl (Nat.le_of_ble_eq_true rfl) dX2_told_2 (fun H locs hP hD hS => ?_)
  have hP : va_P (dC, dI) vwCl (wR cI cZ cY h qx qy qh qt qs rw 0 n xs ys hs t tb sg fl) H := hP
  have hD : va_D A (wR cI cZ cY h qx qy qh qt qs rw 0 n xs ys hs t tb sg fl) := hD
  refine lv_aload_n hx hb dX2_told_5 rfl (lv_at hl 0 rfl) ?_
  refine lv_iload_n hx hb dX2_told_6 rfl (lv_at hl 1 rfl) ?_
  refine rd_cVi (As := [.int a]) (rest := []) F (c_X2_isCairn l dC dI cI cZ cY h qx qy qh qt qs rw 0 n xs ys hs t tb sg fl a) (cwV 1 hts gX2_told_X2_isCairn rfl rfl rfl hd_X2_isCairn ⟨Nat.le_of_ble_eq_true rfl, Nat.le_of_ble_eq_true rfl⟩) hP hK (va_recv hK hP (ci := 2) (q0 := 0) rfl rfl) rfl hl.1 rfl (lv_room (Nat.le_of_ble_eq_true rfl)) dX2_told_7 ⟨Nat.zero_le _, Nat.zero_le _⟩ ?_
  refine lv_if_eqB (tgt := 31) hx hb dX2_told_10 (by decide) (fun c_1 => ?_) (fun c_1 => ?_)
  · refine lv_aload_n hx hb dX2_told_31 rfl (lv_at hl 0 rfl) ?_
    refine lv_iconst (v := 1) hx hb dX2_told_32 (by decide) ?_
    refine wx_cVi (As := [.int 1]) (rest := []) F (c_X2_fail l dC dI cI cZ cY h qx qy qh qt qs rw 0 n xs ys hs t tb sg fl 1 H.size) (cwV 1 hts gX2_told_X2_fail rfl rfl rfl hd_X2_fail ⟨Nat.le_of_ble_eq_true rfl, Nat.le_of_ble_eq_true rfl⟩) hP hK hD hS hA (va_recv hK hP (ci := 2) (q0 := 0) rfl rfl) rfl hl.1 rfl (lv_room (Nat.le_of_ble_eq_true rfl)) dX2_told_33 ⟨Nat.zero_le _, Nat.zero_le _⟩ (fun H locs hP hD hS => ?_)
    have hP : va_P (dC, dI) vwCl (wR cI cZ cY h qx qy qh qt qs rw 1 n xs ys hs t tb sg fl) H := hP
    have hD : va_D A (wR cI cZ cY h qx qy qh qt qs rw 1 n xs ys hs t tb sg fl) := hD
    have e_th : (r_b2 (r_isIn a 0 (nI n - 1)) (r_isIn w 0 4) 0 1 : Int32) = 1 := by first | (simp only [r_b2, c_1]; done) | (simp only [r_b2, c_1]; rfl) | (simp [r_b2, c_1]; done)
    have hP : va_P (dC, dI) vwCl (wR cI cZ cY h qx qy qh qt qs rw (r_b2 (r_isIn a 0 (nI n - 1)) (r_isIn w 0 4) 0 1) n xs ys hs t tb sg fl) H := by rw [e_th]; exact hP
    have hD : va_D A (wR cI cZ cY h qx qy qh qt qs rw (r_b2 (r_isIn a 0 (nI n - 1)) (r_isIn w 0 4) 0 1) n xs ys hs t tb sg fl) := by rw [e_th]; exact hD
    exact wr_iret hx hb hr hlocks (by first | (simp only [r_b2, c_1]; done) | (simp only [r_b2, c_1]; rfl) | (simp [r_b2, c_1]; done)) hP hK hD hS dX2_told_36
  · refine lv_iload_n hx hb dX2_told_13 rfl (lv_at hl 2 rfl) ?_
    refine lv_iconst (v := 0) hx hb dX2_told_14 (by decide) ?_
    refine lv_iconst (v := 4) hx hb dX2_told_15 (by decide) ?_
    refine rd_cSi (As := [.int w, .int 0, .int 4]) (rest := []) F (c_X2_isIn l dC dI cI cZ cY w 0 4) (cwS 3 hts gX2_told_X2_isIn rfl rfl rfl hd_X2_isIn ⟨Nat.le_of_ble_eq_true rfl, Nat.le_of_ble_eq_true rfl⟩) va_P0 hK rfl hl.1 rfl (lv_room (Nat.le_of_ble_eq_true rfl)) dX2_told_16 ⟨Nat.zero_le _, Nat.zero_le _⟩ ?_
    refine lv_if_eqB (tgt := 31) hx hb dX2_told_19 (by decide) (fun c_2 => ?_) (fun c_2 => ?_)
    · refine lv_aload_n hx hb dX2_told_31 rfl (lv_at hl 0 rfl) ?_
      refine lv_iconst (v := 1) hx hb dX2_told_32 (by decide) ?_
      refine wx_cVi (As := [.int 1]) (rest := []) F (c_X2_fail l dC dI cI cZ cY h qx qy qh qt qs rw 0 n xs ys hs t tb sg fl 1 H.size) (cwV 1 hts gX2_told_X2_fail rfl rfl rfl hd_X2_fail ⟨Nat.le_of_ble_eq_true rfl, Nat.le_of_ble_eq_true rfl⟩) hP hK hD hS hA (va_recv hK hP (ci := 2) (q0 := 0) rfl rfl) rfl hl.1 rfl (lv_room (Nat.le_of_ble_eq_true rfl)) dX2_told_33 ⟨Nat.zero_le _, Nat.zero_le _⟩ (fun H locs hP hD hS => ?_)
      have hP : va_P (dC, dI) vwCl (wR cI cZ cY h qx qy qh qt qs rw 1 n xs ys hs t tb sg fl) H := hP
      have hD : va_D A (wR cI cZ cY h qx qy qh qt qs rw 1 n xs ys hs t tb sg fl) := hD
      have e_th : (r_b2 (r_isIn a 0 (nI n - 1)) (r_isIn w 0 4) 0 1 : Int32) = 1 := by first | (simp only [r_b2, c_1, c_2]; done) | (simp only [r_b2, c_1, c_2]; rfl) | (simp [r_b2, c_1, c_2]; done)
      have hP : va_P (dC, dI) vwCl (wR cI cZ cY h qx qy qh qt qs rw (r_b2 (r_isIn a 0 (nI n - 1)) (r_isIn w 0 4) 0 1) n xs ys hs t tb sg fl) H := by rw [e_th]; exact hP
      have hD : va_D A (wR cI cZ cY h qx qy qh qt qs rw (r_b2 (r_isIn a 0 (nI n - 1)) (r_isIn w 0 4) 0 1) n xs ys hs t tb sg fl) := by rw [e_th]; exact hD
      exact wr_iret hx hb hr hlocks (by first | (simp only [r_b2, c_1, c_2]; done) | (simp only [r_b2, c_1, c_2]; rfl) | (simp [r_b2, c_1, c_2]; done)) hP hK hD hS dX2_told_36
    · refine lv_aload_n hx hb dX2_told_22 rfl (lv_at hl 0 rfl) ?_
      refine lv_iload_n hx hb dX2_told_23 rfl (lv_at hl 1 rfl) ?_
      refine lv_iload_n hx hb dX2_told_24 rfl (lv_at hl 2 rfl) ?_
      refine rd_cVi (As := [.int a, .int w]) (rest := []) F (c_X2_cairnTold l dC dI cI cZ cY h qx qy qh qt qs rw 0 n xs ys hs t tb sg fl a w ht hn (in_isIn hn hn1 c_1)) (cwV 2 hts gX2_told_X2_cairnTold rfl rfl rfl hd_X2_cairnTold ⟨Nat.le_of_ble_eq_true rfl, Nat.le_of_ble_eq_true rfl⟩) hP hK (va_recv hK hP (ci := 2) (q0 := 0) rfl rfl) rfl hl.1 rfl (lv_room (Nat.le_of_ble_eq_true rfl)) dX2_told_25 ⟨Nat.zero_le _, Nat.zero_le _⟩ ?_
      refine lv_goto (tgt := 36) hx hb dX2_told_28 (by decide) ?_
      have e_th : (r_b2 (r_isIn a 0 (nI n - 1)) (r_isIn w 0 4) 0 1 : Int32) = 0 := by first | (simp only [r_b2, c_1, c_2]; done) | (simp only [r_b2, c_1, c_2]; rfl) | (simp [r_b2, c_1, c_2]; done)
      have hP : va_P (dC, dI) vwCl (wR cI cZ cY h qx qy qh qt qs rw (r_b2 (r_isIn a 0 (nI n - 1)) (r_isIn w 0 4) 0 1) n xs ys hs t tb sg fl) H := by rw [e_th]; exact hP
      have hD : va_D A (wR cI cZ cY h qx qy qh qt qs rw (r_b2 (r_isIn a 0 (nI n - 1)) (r_isIn w 0 4) 0 1) n xs ys hs t tb sg fl) := by rw [e_th]; exact hD
      exact wr_iret hx hb hr hlocks (by first | (simp only [r_b2, c_1, c_2]; done) | (simp only [r_b2, c_1, c_2]; rfl) | (simp [r_b2, c_1, c_2]; done)) hP hK hD hS dX2_told_36
theorem hd_X2_triangle : yX2_triangle.cls = RX2 ∧ yX2_triangle.cls ≠ "java/lang/invoke/MethodHandle" ∧ yX2_triangle.cls ≠ "java/lang/invoke/VarHandle" ∧ (parseMethodDescriptor yX2_triangle.desc).map (fun d => d.parameters.length) = some 2 := by decide +kernel
theorem in_X2_triangle_X2 : ∀ w ∈ wsX20, w ∈ wsX2_triangle := by decide +kernel
theorem fl_X2_triangle_35 : (Cond.fieldLink RX2 35 "MoorTrianglesModel" "thrown" "I") ∈ wsX2_triangle := by decide +kernel
theorem fl_X2_triangle_55 : (Cond.fieldLink RX2 55 "MoorTrianglesModel" "triangles" "I") ∈ wsX2_triangle := by decide +kernel
set_option maxHeartbeats 4000000 in
set_option maxRecDepth 100000 in
theorem c_X2_triangle (l : Launch) (dC : Nat → ClassId) (dI : Nat → Nat → Nat) (cI cZ cY : ClassId) (h qx qy qh qt qs : Nat) (rw : Nat → Nat) (th : Int32) (n : Nat) (xs ys hs : Nat → Int32) (t : Nat) (tb : Nat → Int32) (sg : Nat → Nat → Int32) (fl : Int32) (k : Int32) (w : Int32) (sz : Nat) (ht : t ≤ 36) (ht1 : 1 ≤ t) (hok : r_okT t tb) : Met l yX2_triangle wsX2_triangle ({ frames := 3, cells := 0, slots := 0, locals := 67 }) (va_Pc [.ref h, .int k, .int w] (wrP (dC, dI) (gTY cI cZ cY) (wR cI cZ cY h qx qy qh qt qs rw th n xs ys hs t tb sg fl) sz)) (wrQi (dC, dI) (gTY cI cZ cY) (r_b2 (r_isIn k 0 (nI t - 1)) (r_isIn w 0 3) (r_triangleTold xs ys tb k w) 0) (wR cI cZ cY h qx qy qh qt qs rw (r_b2 (r_isIn k 0 (nI t - 1)) (r_isIn w 0 3) 0 1) n xs ys hs t tb sg fl) (va_A (wR cI cZ cY h qx qy qh qt qs rw th n xs ys hs t tb sg fl) sz)) 0 0 (va_A (wR cI cZ cY h qx qy qh qt qs rw th n xs ys hs t tb sg fl) sz) := by
  refine wr_start (cc := cX2_triangle) (maxL := 3) (ret := (some .int)) (Q0 := wrQi (dC, dI) (gTY cI cZ cY) (r_b2 (r_isIn k 0 (nI t - 1)) (r_isIn w 0 3) (r_triangleTold xs ys tb k w) 0) (wR cI cZ cY h qx qy qh qt qs rw (r_b2 (r_isIn k 0 (nI t - 1)) (r_isIn w 0 3) 0 1) n xs ys hs t tb sg fl)) RX2 (by decide) rfl rfl (Nat.le_of_ble_eq_true rfl) ?_
  intro p e s m below meth c ⟨hx, hb, hr, hml, hown, hts, hlocks, hin⟩ hP hK A hD hA hS ls hl
  have F : CallFix p m c cX2_triangle 3 s ([.ref h, .int k, .int w] : List Value).toArray wsX2_triangle RX2 := ⟨hx, hb, hml, hown, hts⟩
  have hl : lv_has ls 3 [(0, .ref h), (1, .int k), (2, .int w)] := hl
  refine lv_aload_n hx hb dX2_triangle_0 rfl (lv_at hl 0 rfl) ?_
  refine lv_iconst (v := 0) hx hb dX2_triangle_1 (by decide) ?_
  refine va_put (D := (dC, dI)) (ci := 2) (v := .int 0) (ty := .int) (C := RX2) (T := TX2) (N := 9) hx hb hts in_X2_triangle_X2 tyX2 tyX2_ok nmX2 hown hK hP hD hS 0 rfl rfl 0 (by decide) (hts (.fieldLink RX2 35 "MoorTrianglesModel" "thrown" "I") fl_X2_triangle_35) (fun _ h9 => h9) rfl (by decide +kernel) rfl rfl (Nat.le_of_ble_eq_true rfl) dX2_triangle_2 (fun H locs hP hD hS => ?_)
  have hP : va_P (dC, dI) vwCl (wR cI cZ cY h qx qy qh qt qs rw 0 n xs ys hs t tb sg fl) H := hP
  have hD : va_D A (wR cI cZ cY h qx qy qh qt qs rw 0 n xs ys hs t tb sg fl) := hD
  refine lv_iload_n hx hb dX2_triangle_5 rfl (lv_at hl 1 rfl) ?_
  refine lv_iconst (v := 0) hx hb dX2_triangle_6 (by decide) ?_
  refine lv_aload_n hx hb dX2_triangle_7 rfl (lv_at hl 0 rfl) ?_
  refine va_get (D := (dC, dI)) (ci := 2) (v := .int (nI t)) (C := RX2) (T := TX2) (N := 9) hx hb hts in_X2_triangle_X2 hown hK hP 0 rfl rfl 5 (by decide) (hts (.fieldLink RX2 55 "MoorTrianglesModel" "triangles" "I") fl_X2_triangle_55) (fun _ h9 => h9) rfl dX2_triangle_8 ?_
  refine lv_iconst (v := 1) hx hb dX2_triangle_11 (by decide) ?_
  refine lv_isub hx hb dX2_triangle_12 ?_
  refine rd_cSi (As := [.int k, .int 0, .int ((nI t) - 1)]) (rest := []) F (c_X2_isIn l dC dI cI cZ cY k 0 ((nI t) - 1)) (cwS 3 hts gX2_triangle_X2_isIn rfl rfl rfl hd_X2_isIn ⟨Nat.le_of_ble_eq_true rfl, Nat.le_of_ble_eq_true rfl⟩) va_P0 hK rfl hl.1 rfl (lv_room (Nat.le_of_ble_eq_true rfl)) dX2_triangle_13 ⟨Nat.zero_le _, Nat.zero_le _⟩ ?_
  refine lv_if_eqB (tgt := 37) hx hb dX2_triangle_16 (by decide) (fun c_1 => ?_) (fun c_1 => ?_)
  · refine lv_aload_n hx hb dX2_triangle_37 rfl (lv_at hl 0 rfl) ?_
    refine lv_iconst (v := 1) hx hb dX2_triangle_38 (by decide) ?_
    refine wx_cVi (As := [.int 1]) (rest := []) F (c_X2_fail l dC dI cI cZ cY h qx qy qh qt qs rw 0 n xs ys hs t tb sg fl 1 H.size) (cwV 1 hts gX2_triangle_X2_fail rfl rfl rfl hd_X2_fail ⟨Nat.le_of_ble_eq_true rfl, Nat.le_of_ble_eq_true rfl⟩) hP hK hD hS hA (va_recv hK hP (ci := 2) (q0 := 0) rfl rfl) rfl hl.1 rfl (lv_room (Nat.le_of_ble_eq_true rfl)) dX2_triangle_39 ⟨Nat.zero_le _, Nat.zero_le _⟩ (fun H locs hP hD hS => ?_)
    have hP : va_P (dC, dI) vwCl (wR cI cZ cY h qx qy qh qt qs rw 1 n xs ys hs t tb sg fl) H := hP
    have hD : va_D A (wR cI cZ cY h qx qy qh qt qs rw 1 n xs ys hs t tb sg fl) := hD
    have e_th : (r_b2 (r_isIn k 0 (nI t - 1)) (r_isIn w 0 3) 0 1 : Int32) = 1 := by first | (simp only [r_b2, c_1]; done) | (simp only [r_b2, c_1]; rfl) | (simp [r_b2, c_1]; done)
    have hP : va_P (dC, dI) vwCl (wR cI cZ cY h qx qy qh qt qs rw (r_b2 (r_isIn k 0 (nI t - 1)) (r_isIn w 0 3) 0 1) n xs ys hs t tb sg fl) H := by rw [e_th]; exact hP
    have hD : va_D A (wR cI cZ cY h qx qy qh qt qs rw (r_b2 (r_isIn k 0 (nI t - 1)) (r_isIn w 0 3) 0 1) n xs ys hs t tb sg fl) := by rw [e_th]; exact hD
    exact wr_iret hx hb hr hlocks (by first | (simp only [r_b2, c_1]; done) | (simp only [r_b2, c_1]; rfl) | (simp [r_b2, c_1]; done)) hP hK hD hS dX2_triangle_42
  · refine lv_iload_n hx hb dX2_triangle_19 rfl (lv_at hl 2 rfl) ?_
    refine lv_iconst (v := 0) hx hb dX2_triangle_20 (by decide) ?_
    refine lv_iconst (v := 3) hx hb dX2_triangle_21 (by decide) ?_
    refine rd_cSi (As := [.int w, .int 0, .int 3]) (rest := []) F (c_X2_isIn l dC dI cI cZ cY w 0 3) (cwS 3 hts gX2_triangle_X2_isIn rfl rfl rfl hd_X2_isIn ⟨Nat.le_of_ble_eq_true rfl, Nat.le_of_ble_eq_true rfl⟩) va_P0 hK rfl hl.1 rfl (lv_room (Nat.le_of_ble_eq_true rfl)) dX2_triangle_22 ⟨Nat.zero_le _, Nat.zero_le _⟩ ?_
    refine lv_if_eqB (tgt := 37) hx hb dX2_triangle_25 (by decide) (fun c_2 => ?_) (fun c_2 => ?_)
    · refine lv_aload_n hx hb dX2_triangle_37 rfl (lv_at hl 0 rfl) ?_
      refine lv_iconst (v := 1) hx hb dX2_triangle_38 (by decide) ?_
      refine wx_cVi (As := [.int 1]) (rest := []) F (c_X2_fail l dC dI cI cZ cY h qx qy qh qt qs rw 0 n xs ys hs t tb sg fl 1 H.size) (cwV 1 hts gX2_triangle_X2_fail rfl rfl rfl hd_X2_fail ⟨Nat.le_of_ble_eq_true rfl, Nat.le_of_ble_eq_true rfl⟩) hP hK hD hS hA (va_recv hK hP (ci := 2) (q0 := 0) rfl rfl) rfl hl.1 rfl (lv_room (Nat.le_of_ble_eq_true rfl)) dX2_triangle_39 ⟨Nat.zero_le _, Nat.zero_le _⟩ (fun H locs hP hD hS => ?_)
      have hP : va_P (dC, dI) vwCl (wR cI cZ cY h qx qy qh qt qs rw 1 n xs ys hs t tb sg fl) H := hP
      have hD : va_D A (wR cI cZ cY h qx qy qh qt qs rw 1 n xs ys hs t tb sg fl) := hD
      have e_th : (r_b2 (r_isIn k 0 (nI t - 1)) (r_isIn w 0 3) 0 1 : Int32) = 1 := by first | (simp only [r_b2, c_1, c_2]; done) | (simp only [r_b2, c_1, c_2]; rfl) | (simp [r_b2, c_1, c_2]; done)
      have hP : va_P (dC, dI) vwCl (wR cI cZ cY h qx qy qh qt qs rw (r_b2 (r_isIn k 0 (nI t - 1)) (r_isIn w 0 3) 0 1) n xs ys hs t tb sg fl) H := by rw [e_th]; exact hP
      have hD : va_D A (wR cI cZ cY h qx qy qh qt qs rw (r_b2 (r_isIn k 0 (nI t - 1)) (r_isIn w 0 3) 0 1) n xs ys hs t tb sg fl) := by rw [e_th]; exact hD
      exact wr_iret hx hb hr hlocks (by first | (simp only [r_b2, c_1, c_2]; done) | (simp only [r_b2, c_1, c_2]; rfl) | (simp [r_b2, c_1, c_2]; done)) hP hK hD hS dX2_triangle_42
    · refine lv_aload_n hx hb dX2_triangle_28 rfl (lv_at hl 0 rfl) ?_
      refine lv_iload_n hx hb dX2_triangle_29 rfl (lv_at hl 1 rfl) ?_
      refine lv_iload_n hx hb dX2_triangle_30 rfl (lv_at hl 2 rfl) ?_
      refine rd_cVi (As := [.int k, .int w]) (rest := []) F (c_X2_triangleTold l dC dI cI cZ cY h qx qy qh qt qs rw 0 n xs ys hs t tb sg fl k w (by obtain ⟨j, hj, rfl⟩ := in_isInE ht (by decide) ht1 c_1; exact vp_in_nI (by omega) (by decide)) (by obtain ⟨j, hj, rfl⟩ := in_isInE ht (by decide) ht1 c_1; exact (hok j hj).1) (by obtain ⟨j, hj, rfl⟩ := in_isInE ht (by decide) ht1 c_1; exact (hok j hj).2.1) (by obtain ⟨j, hj, rfl⟩ := in_isInE ht (by decide) ht1 c_1; exact (hok j hj).2.2)) (cwV 2 hts gX2_triangle_X2_triangleTold rfl rfl rfl hd_X2_triangleTold ⟨Nat.le_of_ble_eq_true rfl, Nat.le_of_ble_eq_true rfl⟩) hP hK (va_recv hK hP (ci := 2) (q0 := 0) rfl rfl) rfl hl.1 rfl (lv_room (Nat.le_of_ble_eq_true rfl)) dX2_triangle_31 ⟨Nat.zero_le _, Nat.zero_le _⟩ ?_
      refine lv_goto (tgt := 42) hx hb dX2_triangle_34 (by decide) ?_
      have e_th : (r_b2 (r_isIn k 0 (nI t - 1)) (r_isIn w 0 3) 0 1 : Int32) = 0 := by first | (simp only [r_b2, c_1, c_2]; done) | (simp only [r_b2, c_1, c_2]; rfl) | (simp [r_b2, c_1, c_2]; done)
      have hP : va_P (dC, dI) vwCl (wR cI cZ cY h qx qy qh qt qs rw (r_b2 (r_isIn k 0 (nI t - 1)) (r_isIn w 0 3) 0 1) n xs ys hs t tb sg fl) H := by rw [e_th]; exact hP
      have hD : va_D A (wR cI cZ cY h qx qy qh qt qs rw (r_b2 (r_isIn k 0 (nI t - 1)) (r_isIn w 0 3) 0 1) n xs ys hs t tb sg fl) := by rw [e_th]; exact hD
      exact wr_iret hx hb hr hlocks (by first | (simp only [r_b2, c_1, c_2]; done) | (simp only [r_b2, c_1, c_2]; rfl) | (simp [r_b2, c_1, c_2]; done)) hP hK hD hS dX2_triangle_42
theorem hd_X2_edge : yX2_edge.cls = RX2 ∧ yX2_edge.cls ≠ "java/lang/invoke/MethodHandle" ∧ yX2_edge.cls ≠ "java/lang/invoke/VarHandle" ∧ (parseMethodDescriptor yX2_edge.desc).map (fun d => d.parameters.length) = some 3 := by decide +kernel
theorem in_X2_edge_X2 : ∀ w ∈ wsX20, w ∈ wsX2_edge := by decide +kernel
theorem fl_X2_edge_35 : (Cond.fieldLink RX2 35 "MoorTrianglesModel" "thrown" "I") ∈ wsX2_edge := by decide +kernel
set_option maxHeartbeats 4000000 in
set_option maxRecDepth 100000 in
theorem c_X2_edge (l : Launch) (dC : Nat → ClassId) (dI : Nat → Nat → Nat) (cI cZ cY : ClassId) (h qx qy qh qt qs : Nat) (rw : Nat → Nat) (th : Int32) (n : Nat) (xs ys hs : Nat → Int32) (t : Nat) (tb : Nat → Int32) (sg : Nat → Nat → Int32) (fl : Int32) (a : Int32) (b : Int32) (w : Int32) (sz : Nat) (ht : t ≤ 36) (hn : n ≤ 17) (hn1 : 1 ≤ n) (hFF : ∀ a b, a < n → b < n → r_okF t tb (nI a) (nI b)) : Met l yX2_edge wsX2_edge ({ frames := 6, cells := 0, slots := 0, locals := 143 }) (va_Pc [.ref h, .int a, .int b, .int w] (wrP (dC, dI) (gTY cI cZ cY) (wR cI cZ cY h qx qy qh qt qs rw th n xs ys hs t tb sg fl) sz)) (wrQi (dC, dI) (gTY cI cZ cY) (r_b3 (r_isIn a 0 (nI n - 1)) (r_isIn b 0 (nI n - 1)) (r_isIn w 0 4) (bI (r_eT t xs ys tb sg a b w)) 0) (wR cI cZ cY h qx qy qh qt qs rw (r_b3 (r_isIn a 0 (nI n - 1)) (r_isIn b 0 (nI n - 1)) (r_isIn w 0 4) 0 1) n xs ys hs t tb sg fl) (va_A (wR cI cZ cY h qx qy qh qt qs rw th n xs ys hs t tb sg fl) sz)) 0 0 (va_A (wR cI cZ cY h qx qy qh qt qs rw th n xs ys hs t tb sg fl) sz) := by
  refine wr_start (cc := cX2_edge) (maxL := 4) (ret := (some .int)) (Q0 := wrQi (dC, dI) (gTY cI cZ cY) (r_b3 (r_isIn a 0 (nI n - 1)) (r_isIn b 0 (nI n - 1)) (r_isIn w 0 4) (bI (r_eT t xs ys tb sg a b w)) 0) (wR cI cZ cY h qx qy qh qt qs rw (r_b3 (r_isIn a 0 (nI n - 1)) (r_isIn b 0 (nI n - 1)) (r_isIn w 0 4) 0 1) n xs ys hs t tb sg fl)) RX2 (by decide) rfl rfl (Nat.le_of_ble_eq_true rfl) ?_
  intro p e s m below meth c ⟨hx, hb, hr, hml, hown, hts, hlocks, hin⟩ hP hK A hD hA hS ls hl
  have F : CallFix p m c cX2_edge 4 s ([.ref h, .int a, .int b, .int w] : List Value).toArray wsX2_edge RX2 := ⟨hx, hb, hml, hown, hts⟩
  have hl : lv_has ls 4 [(0, .ref h), (1, .int a), (2, .int b), (3, .int w)] := hl
  refine lv_aload_n hx hb dX2_edge_0 rfl (lv_at hl 0 rfl) ?_
  refine lv_iconst (v := 0) hx hb dX2_edge_1 (by decide) ?_
  refine va_put (D := (dC, dI)) (ci := 2) (v := .int 0) (ty := .int) (C := RX2) (T := TX2) (N := 9) hx hb hts in_X2_edge_X2 tyX2 tyX2_ok nmX2 hown hK hP hD hS 0 rfl rfl 0 (by decide) (hts (.fieldLink RX2 35 "MoorTrianglesModel" "thrown" "I") fl_X2_edge_35) (fun _ h9 => h9) rfl (by decide +kernel) rfl rfl (Nat.le_of_ble_eq_true rfl) dX2_edge_2 (fun H locs hP hD hS => ?_)
  have hP : va_P (dC, dI) vwCl (wR cI cZ cY h qx qy qh qt qs rw 0 n xs ys hs t tb sg fl) H := hP
  have hD : va_D A (wR cI cZ cY h qx qy qh qt qs rw 0 n xs ys hs t tb sg fl) := hD
  refine lv_aload_n hx hb dX2_edge_5 rfl (lv_at hl 0 rfl) ?_
  refine lv_iload_n hx hb dX2_edge_6 rfl (lv_at hl 1 rfl) ?_
  refine rd_cVi (As := [.int a]) (rest := []) F (c_X2_isCairn l dC dI cI cZ cY h qx qy qh qt qs rw 0 n xs ys hs t tb sg fl a) (cwV 1 hts gX2_edge_X2_isCairn rfl rfl rfl hd_X2_isCairn ⟨Nat.le_of_ble_eq_true rfl, Nat.le_of_ble_eq_true rfl⟩) hP hK (va_recv hK hP (ci := 2) (q0 := 0) rfl rfl) rfl hl.1 rfl (lv_room (Nat.le_of_ble_eq_true rfl)) dX2_edge_7 ⟨Nat.zero_le _, Nat.zero_le _⟩ ?_
  refine lv_if_eqB (tgt := 40) hx hb dX2_edge_10 (by decide) (fun c_1 => ?_) (fun c_1 => ?_)
  · refine lv_aload_n hx hb dX2_edge_40 rfl (lv_at hl 0 rfl) ?_
    refine lv_iconst (v := 1) hx hb dX2_edge_41 (by decide) ?_
    refine wx_cVi (As := [.int 1]) (rest := []) F (c_X2_fail l dC dI cI cZ cY h qx qy qh qt qs rw 0 n xs ys hs t tb sg fl 1 H.size) (cwV 1 hts gX2_edge_X2_fail rfl rfl rfl hd_X2_fail ⟨Nat.le_of_ble_eq_true rfl, Nat.le_of_ble_eq_true rfl⟩) hP hK hD hS hA (va_recv hK hP (ci := 2) (q0 := 0) rfl rfl) rfl hl.1 rfl (lv_room (Nat.le_of_ble_eq_true rfl)) dX2_edge_42 ⟨Nat.zero_le _, Nat.zero_le _⟩ (fun H locs hP hD hS => ?_)
    have hP : va_P (dC, dI) vwCl (wR cI cZ cY h qx qy qh qt qs rw 1 n xs ys hs t tb sg fl) H := hP
    have hD : va_D A (wR cI cZ cY h qx qy qh qt qs rw 1 n xs ys hs t tb sg fl) := hD
    have e_th : (r_b3 (r_isIn a 0 (nI n - 1)) (r_isIn b 0 (nI n - 1)) (r_isIn w 0 4) 0 1 : Int32) = 1 := by first | (simp only [r_b3, c_1]; done) | (simp only [r_b3, c_1]; rfl) | (simp [r_b3, c_1]; done)
    have hP : va_P (dC, dI) vwCl (wR cI cZ cY h qx qy qh qt qs rw (r_b3 (r_isIn a 0 (nI n - 1)) (r_isIn b 0 (nI n - 1)) (r_isIn w 0 4) 0 1) n xs ys hs t tb sg fl) H := by rw [e_th]; exact hP
    have hD : va_D A (wR cI cZ cY h qx qy qh qt qs rw (r_b3 (r_isIn a 0 (nI n - 1)) (r_isIn b 0 (nI n - 1)) (r_isIn w 0 4) 0 1) n xs ys hs t tb sg fl) := by rw [e_th]; exact hD
    exact wr_iret hx hb hr hlocks (by first | (simp only [r_b3, c_1]; done) | (simp only [r_b3, c_1]; rfl) | (simp [r_b3, c_1]; done)) hP hK hD hS dX2_edge_45
  · refine lv_aload_n hx hb dX2_edge_13 rfl (lv_at hl 0 rfl) ?_
    refine lv_iload_n hx hb dX2_edge_14 rfl (lv_at hl 2 rfl) ?_
    refine rd_cVi (As := [.int b]) (rest := []) F (c_X2_isCairn l dC dI cI cZ cY h qx qy qh qt qs rw 0 n xs ys hs t tb sg fl b) (cwV 1 hts gX2_edge_X2_isCairn rfl rfl rfl hd_X2_isCairn ⟨Nat.le_of_ble_eq_true rfl, Nat.le_of_ble_eq_true rfl⟩) hP hK (va_recv hK hP (ci := 2) (q0 := 0) rfl rfl) rfl hl.1 rfl (lv_room (Nat.le_of_ble_eq_true rfl)) dX2_edge_15 ⟨Nat.zero_le _, Nat.zero_le _⟩ ?_
    refine lv_if_eqB (tgt := 40) hx hb dX2_edge_18 (by decide) (fun c_2 => ?_) (fun c_2 => ?_)
    · refine lv_aload_n hx hb dX2_edge_40 rfl (lv_at hl 0 rfl) ?_
      refine lv_iconst (v := 1) hx hb dX2_edge_41 (by decide) ?_
      refine wx_cVi (As := [.int 1]) (rest := []) F (c_X2_fail l dC dI cI cZ cY h qx qy qh qt qs rw 0 n xs ys hs t tb sg fl 1 H.size) (cwV 1 hts gX2_edge_X2_fail rfl rfl rfl hd_X2_fail ⟨Nat.le_of_ble_eq_true rfl, Nat.le_of_ble_eq_true rfl⟩) hP hK hD hS hA (va_recv hK hP (ci := 2) (q0 := 0) rfl rfl) rfl hl.1 rfl (lv_room (Nat.le_of_ble_eq_true rfl)) dX2_edge_42 ⟨Nat.zero_le _, Nat.zero_le _⟩ (fun H locs hP hD hS => ?_)
      have hP : va_P (dC, dI) vwCl (wR cI cZ cY h qx qy qh qt qs rw 1 n xs ys hs t tb sg fl) H := hP
      have hD : va_D A (wR cI cZ cY h qx qy qh qt qs rw 1 n xs ys hs t tb sg fl) := hD
      have e_th : (r_b3 (r_isIn a 0 (nI n - 1)) (r_isIn b 0 (nI n - 1)) (r_isIn w 0 4) 0 1 : Int32) = 1 := by first | (simp only [r_b3, c_1, c_2]; done) | (simp only [r_b3, c_1, c_2]; rfl) | (simp [r_b3, c_1, c_2]; done)
      have hP : va_P (dC, dI) vwCl (wR cI cZ cY h qx qy qh qt qs rw (r_b3 (r_isIn a 0 (nI n - 1)) (r_isIn b 0 (nI n - 1)) (r_isIn w 0 4) 0 1) n xs ys hs t tb sg fl) H := by rw [e_th]; exact hP
      have hD : va_D A (wR cI cZ cY h qx qy qh qt qs rw (r_b3 (r_isIn a 0 (nI n - 1)) (r_isIn b 0 (nI n - 1)) (r_isIn w 0 4) 0 1) n xs ys hs t tb sg fl) := by rw [e_th]; exact hD
      exact wr_iret hx hb hr hlocks (by first | (simp only [r_b3, c_1, c_2]; done) | (simp only [r_b3, c_1, c_2]; rfl) | (simp [r_b3, c_1, c_2]; done)) hP hK hD hS dX2_edge_45
    · refine lv_iload_n hx hb dX2_edge_21 rfl (lv_at hl 3 rfl) ?_
      refine lv_iconst (v := 0) hx hb dX2_edge_22 (by decide) ?_
      refine lv_iconst (v := 4) hx hb dX2_edge_23 (by decide) ?_
      refine rd_cSi (As := [.int w, .int 0, .int 4]) (rest := []) F (c_X2_isIn l dC dI cI cZ cY w 0 4) (cwS 3 hts gX2_edge_X2_isIn rfl rfl rfl hd_X2_isIn ⟨Nat.le_of_ble_eq_true rfl, Nat.le_of_ble_eq_true rfl⟩) va_P0 hK rfl hl.1 rfl (lv_room (Nat.le_of_ble_eq_true rfl)) dX2_edge_24 ⟨Nat.zero_le _, Nat.zero_le _⟩ ?_
      refine lv_if_eqB (tgt := 40) hx hb dX2_edge_27 (by decide) (fun c_3 => ?_) (fun c_3 => ?_)
      · refine lv_aload_n hx hb dX2_edge_40 rfl (lv_at hl 0 rfl) ?_
        refine lv_iconst (v := 1) hx hb dX2_edge_41 (by decide) ?_
        refine wx_cVi (As := [.int 1]) (rest := []) F (c_X2_fail l dC dI cI cZ cY h qx qy qh qt qs rw 0 n xs ys hs t tb sg fl 1 H.size) (cwV 1 hts gX2_edge_X2_fail rfl rfl rfl hd_X2_fail ⟨Nat.le_of_ble_eq_true rfl, Nat.le_of_ble_eq_true rfl⟩) hP hK hD hS hA (va_recv hK hP (ci := 2) (q0 := 0) rfl rfl) rfl hl.1 rfl (lv_room (Nat.le_of_ble_eq_true rfl)) dX2_edge_42 ⟨Nat.zero_le _, Nat.zero_le _⟩ (fun H locs hP hD hS => ?_)
        have hP : va_P (dC, dI) vwCl (wR cI cZ cY h qx qy qh qt qs rw 1 n xs ys hs t tb sg fl) H := hP
        have hD : va_D A (wR cI cZ cY h qx qy qh qt qs rw 1 n xs ys hs t tb sg fl) := hD
        have e_th : (r_b3 (r_isIn a 0 (nI n - 1)) (r_isIn b 0 (nI n - 1)) (r_isIn w 0 4) 0 1 : Int32) = 1 := by first | (simp only [r_b3, c_1, c_2, c_3]; done) | (simp only [r_b3, c_1, c_2, c_3]; rfl) | (simp [r_b3, c_1, c_2, c_3]; done)
        have hP : va_P (dC, dI) vwCl (wR cI cZ cY h qx qy qh qt qs rw (r_b3 (r_isIn a 0 (nI n - 1)) (r_isIn b 0 (nI n - 1)) (r_isIn w 0 4) 0 1) n xs ys hs t tb sg fl) H := by rw [e_th]; exact hP
        have hD : va_D A (wR cI cZ cY h qx qy qh qt qs rw (r_b3 (r_isIn a 0 (nI n - 1)) (r_isIn b 0 (nI n - 1)) (r_isIn w 0 4) 0 1) n xs ys hs t tb sg fl) := by rw [e_th]; exact hD
        exact wr_iret hx hb hr hlocks (by first | (simp only [r_b3, c_1, c_2, c_3]; done) | (simp only [r_b3, c_1, c_2, c_3]; rfl) | (simp [r_b3, c_1, c_2, c_3]; done)) hP hK hD hS dX2_edge_45
      · refine lv_aload_n hx hb dX2_edge_30 rfl (lv_at hl 0 rfl) ?_
        refine lv_iload_n hx hb dX2_edge_31 rfl (lv_at hl 1 rfl) ?_
        refine lv_iload_n hx hb dX2_edge_32 rfl (lv_at hl 2 rfl) ?_
        refine lv_iload_n hx hb dX2_edge_33 rfl (lv_at hl 3 rfl) ?_
        refine rd_cVi (As := [.int a, .int b, .int w]) (rest := []) F (c_X2_edgeTold l dC dI cI cZ cY h qx qy qh qt qs rw 0 n xs ys hs t tb sg fl a b w ht (in_isIn hn hn1 c_1) (in_isIn hn hn1 c_2) (okF_of hn hn1 hFF c_1 c_2)) (cwV 3 hts gX2_edge_X2_edgeTold rfl rfl rfl hd_X2_edgeTold ⟨Nat.le_of_ble_eq_true rfl, Nat.le_of_ble_eq_true rfl⟩) hP hK (va_recv hK hP (ci := 2) (q0 := 0) rfl rfl) rfl hl.1 rfl (lv_room (Nat.le_of_ble_eq_true rfl)) dX2_edge_34 ⟨Nat.zero_le _, Nat.zero_le _⟩ ?_
        refine lv_goto (tgt := 45) hx hb dX2_edge_37 (by decide) ?_
        have e_th : (r_b3 (r_isIn a 0 (nI n - 1)) (r_isIn b 0 (nI n - 1)) (r_isIn w 0 4) 0 1 : Int32) = 0 := by first | (simp only [r_b3, c_1, c_2, c_3]; done) | (simp only [r_b3, c_1, c_2, c_3]; rfl) | (simp [r_b3, c_1, c_2, c_3]; done)
        have hP : va_P (dC, dI) vwCl (wR cI cZ cY h qx qy qh qt qs rw (r_b3 (r_isIn a 0 (nI n - 1)) (r_isIn b 0 (nI n - 1)) (r_isIn w 0 4) 0 1) n xs ys hs t tb sg fl) H := by rw [e_th]; exact hP
        have hD : va_D A (wR cI cZ cY h qx qy qh qt qs rw (r_b3 (r_isIn a 0 (nI n - 1)) (r_isIn b 0 (nI n - 1)) (r_isIn w 0 4) 0 1) n xs ys hs t tb sg fl) := by rw [e_th]; exact hD
        exact wr_iret hx hb hr hlocks (by first | (simp only [r_b3, c_1, c_2, c_3]; done) | (simp only [r_b3, c_1, c_2, c_3]; rfl) | (simp [r_b3, c_1, c_2, c_3]; done)) hP hK hD hS dX2_edge_45
theorem hd_X2_count : yX2_count.cls = RX2 ∧ yX2_count.cls ≠ "java/lang/invoke/MethodHandle" ∧ yX2_count.cls ≠ "java/lang/invoke/VarHandle" ∧ (parseMethodDescriptor yX2_count.desc).map (fun d => d.parameters.length) = some 1 := by decide +kernel
theorem in_X2_count_X2 : ∀ w ∈ wsX20, w ∈ wsX2_count := by decide +kernel
theorem fl_X2_count_35 : (Cond.fieldLink RX2 35 "MoorTrianglesModel" "thrown" "I") ∈ wsX2_count := by decide +kernel
set_option maxHeartbeats 4000000 in
set_option maxRecDepth 100000 in
theorem c_X2_count (l : Launch) (dC : Nat → ClassId) (dI : Nat → Nat → Nat) (cI cZ cY : ClassId) (h qx qy qh qt qs : Nat) (rw : Nat → Nat) (th : Int32) (n : Nat) (xs ys hs : Nat → Int32) (t : Nat) (tb : Nat → Int32) (sg : Nat → Nat → Int32) (fl : Int32) (w : Int32) (sz : Nat) (ht : t ≤ 36) (hn : n ≤ 17) (hFF : ∀ a b, a < n → b < n → r_okF t tb (nI a) (nI b)) : Met l yX2_count wsX2_count ({ frames := 8, cells := 0, slots := 0, locals := 188 }) (va_Pc [.ref h, .int w] (wrP (dC, dI) (gTY cI cZ cY) (wR cI cZ cY h qx qy qh qt qs rw th n xs ys hs t tb sg fl) sz)) (wrQi (dC, dI) (gTY cI cZ cY) (r_b1 (r_isIn w 0 6) (r_counted n t xs ys tb sg fl w) 0) (wR cI cZ cY h qx qy qh qt qs rw (r_b1 (r_isIn w 0 6) 0 1) n xs ys hs t tb sg fl) (va_A (wR cI cZ cY h qx qy qh qt qs rw th n xs ys hs t tb sg fl) sz)) 0 0 (va_A (wR cI cZ cY h qx qy qh qt qs rw th n xs ys hs t tb sg fl) sz) := by
  refine wr_start (cc := cX2_count) (maxL := 2) (ret := (some .int)) (Q0 := wrQi (dC, dI) (gTY cI cZ cY) (r_b1 (r_isIn w 0 6) (r_counted n t xs ys tb sg fl w) 0) (wR cI cZ cY h qx qy qh qt qs rw (r_b1 (r_isIn w 0 6) 0 1) n xs ys hs t tb sg fl)) RX2 (by decide) rfl rfl (Nat.le_of_ble_eq_true rfl) ?_
  intro p e s m below meth c ⟨hx, hb, hr, hml, hown, hts, hlocks, hin⟩ hP hK A hD hA hS ls hl
  have F : CallFix p m c cX2_count 2 s ([.ref h, .int w] : List Value).toArray wsX2_count RX2 := ⟨hx, hb, hml, hown, hts⟩
  have hl : lv_has ls 2 [(0, .ref h), (1, .int w)] := hl
  refine lv_aload_n hx hb dX2_count_0 rfl (lv_at hl 0 rfl) ?_
  refine lv_iconst (v := 0) hx hb dX2_count_1 (by decide) ?_
  refine va_put (D := (dC, dI)) (ci := 2) (v := .int 0) (ty := .int) (C := RX2) (T := TX2) (N := 9) hx hb hts in_X2_count_X2 tyX2 tyX2_ok nmX2 hown hK hP hD hS 0 rfl rfl 0 (by decide) (hts (.fieldLink RX2 35 "MoorTrianglesModel" "thrown" "I") fl_X2_count_35) (fun _ h9 => h9) rfl (by decide +kernel) rfl rfl (Nat.le_of_ble_eq_true rfl) dX2_count_2 (fun H locs hP hD hS => ?_)
  have hP : va_P (dC, dI) vwCl (wR cI cZ cY h qx qy qh qt qs rw 0 n xs ys hs t tb sg fl) H := hP
  have hD : va_D A (wR cI cZ cY h qx qy qh qt qs rw 0 n xs ys hs t tb sg fl) := hD
  refine lv_iload_n hx hb dX2_count_5 rfl (lv_at hl 1 rfl) ?_
  refine lv_iconst (v := 0) hx hb dX2_count_6 (by decide) ?_
  refine lv_bipush (v := 6) hx hb dX2_count_7 (by decide) ?_
  refine rd_cSi (As := [.int w, .int 0, .int 6]) (rest := []) F (c_X2_isIn l dC dI cI cZ cY w 0 6) (cwS 3 hts gX2_count_X2_isIn rfl rfl rfl hd_X2_isIn ⟨Nat.le_of_ble_eq_true rfl, Nat.le_of_ble_eq_true rfl⟩) va_P0 hK rfl hl.1 rfl (lv_room (Nat.le_of_ble_eq_true rfl)) dX2_count_9 ⟨Nat.zero_le _, Nat.zero_le _⟩ ?_
  refine lv_if_eqB (tgt := 23) hx hb dX2_count_12 (by decide) (fun c_1 => ?_) (fun c_1 => ?_)
  · refine lv_aload_n hx hb dX2_count_23 rfl (lv_at hl 0 rfl) ?_
    refine lv_iconst (v := 1) hx hb dX2_count_24 (by decide) ?_
    refine wx_cVi (As := [.int 1]) (rest := []) F (c_X2_fail l dC dI cI cZ cY h qx qy qh qt qs rw 0 n xs ys hs t tb sg fl 1 H.size) (cwV 1 hts gX2_count_X2_fail rfl rfl rfl hd_X2_fail ⟨Nat.le_of_ble_eq_true rfl, Nat.le_of_ble_eq_true rfl⟩) hP hK hD hS hA (va_recv hK hP (ci := 2) (q0 := 0) rfl rfl) rfl hl.1 rfl (lv_room (Nat.le_of_ble_eq_true rfl)) dX2_count_25 ⟨Nat.zero_le _, Nat.zero_le _⟩ (fun H locs hP hD hS => ?_)
    have hP : va_P (dC, dI) vwCl (wR cI cZ cY h qx qy qh qt qs rw 1 n xs ys hs t tb sg fl) H := hP
    have hD : va_D A (wR cI cZ cY h qx qy qh qt qs rw 1 n xs ys hs t tb sg fl) := hD
    have e_th : (r_b1 (r_isIn w 0 6) 0 1 : Int32) = 1 := by first | (simp only [r_b1, c_1]; done) | (simp only [r_b1, c_1]; rfl) | (simp [r_b1, c_1]; done)
    have hP : va_P (dC, dI) vwCl (wR cI cZ cY h qx qy qh qt qs rw (r_b1 (r_isIn w 0 6) 0 1) n xs ys hs t tb sg fl) H := by rw [e_th]; exact hP
    have hD : va_D A (wR cI cZ cY h qx qy qh qt qs rw (r_b1 (r_isIn w 0 6) 0 1) n xs ys hs t tb sg fl) := by rw [e_th]; exact hD
    exact wr_iret hx hb hr hlocks (by first | (simp only [r_b1, c_1]; done) | (simp only [r_b1, c_1]; rfl) | (simp [r_b1, c_1]; done)) hP hK hD hS dX2_count_28
  · refine lv_aload_n hx hb dX2_count_15 rfl (lv_at hl 0 rfl) ?_
    refine lv_iload_n hx hb dX2_count_16 rfl (lv_at hl 1 rfl) ?_
    refine rd_cVi (As := [.int w]) (rest := []) F (c_X2_counted l dC dI cI cZ cY h qx qy qh qt qs rw 0 n xs ys hs t tb sg fl w ht hn hFF) (cwV 1 hts gX2_count_X2_counted rfl rfl rfl hd_X2_counted ⟨Nat.le_of_ble_eq_true rfl, Nat.le_of_ble_eq_true rfl⟩) hP hK (va_recv hK hP (ci := 2) (q0 := 0) rfl rfl) rfl hl.1 rfl (lv_room (Nat.le_of_ble_eq_true rfl)) dX2_count_17 ⟨Nat.zero_le _, Nat.zero_le _⟩ ?_
    refine lv_goto (tgt := 28) hx hb dX2_count_20 (by decide) ?_
    have e_th : (r_b1 (r_isIn w 0 6) 0 1 : Int32) = 0 := by first | (simp only [r_b1, c_1]; done) | (simp only [r_b1, c_1]; rfl) | (simp [r_b1, c_1]; done)
    have hP : va_P (dC, dI) vwCl (wR cI cZ cY h qx qy qh qt qs rw (r_b1 (r_isIn w 0 6) 0 1) n xs ys hs t tb sg fl) H := by rw [e_th]; exact hP
    have hD : va_D A (wR cI cZ cY h qx qy qh qt qs rw (r_b1 (r_isIn w 0 6) 0 1) n xs ys hs t tb sg fl) := by rw [e_th]; exact hD
    exact wr_iret hx hb hr hlocks (by first | (simp only [r_b1, c_1]; done) | (simp only [r_b1, c_1]; rfl) | (simp [r_b1, c_1]; done)) hP hK hD hS dX2_count_28
theorem hd_X2_at : yX2_at.cls = RX2 ∧ yX2_at.cls ≠ "java/lang/invoke/MethodHandle" ∧ yX2_at.cls ≠ "java/lang/invoke/VarHandle" ∧ (parseMethodDescriptor yX2_at.desc).map (fun d => d.parameters.length) = some 2 := by decide +kernel
theorem in_X2_at_X2 : ∀ w ∈ wsX20, w ∈ wsX2_at := by decide +kernel
theorem fl_X2_at_35 : (Cond.fieldLink RX2 35 "MoorTrianglesModel" "thrown" "I") ∈ wsX2_at := by decide +kernel
set_option maxHeartbeats 4000000 in
set_option maxRecDepth 100000 in
theorem c_X2_at (l : Launch) (dC : Nat → ClassId) (dI : Nat → Nat → Nat) (cI cZ cY : ClassId) (h qx qy qh qt qs : Nat) (rw : Nat → Nat) (th : Int32) (n : Nat) (xs ys hs : Nat → Int32) (t : Nat) (tb : Nat → Int32) (sg : Nat → Nat → Int32) (fl : Int32) (x : Int32) (y : Int32) (sz : Nat) (ht : t ≤ 36) (hok : r_okT t tb) (hcov : r_isPlace x y = true → ∃ k, k < t ∧ r_pCov xs ys tb x y k = true) : Met l yX2_at wsX2_at ({ frames := 4, cells := 0, slots := 0, locals := 94 }) (va_Pc [.ref h, .int x, .int y] (wrP (dC, dI) (gTY cI cZ cY) (wR cI cZ cY h qx qy qh qt qs rw th n xs ys hs t tb sg fl) sz)) (wrQi (dC, dI) (gTY cI cZ cY) (r_b1 (r_isPlace x y) (nI (r_liesN t xs ys tb x y)) 0) (wR cI cZ cY h qx qy qh qt qs rw (r_b1 (r_isPlace x y) 0 1) n xs ys hs t tb sg fl) (va_A (wR cI cZ cY h qx qy qh qt qs rw th n xs ys hs t tb sg fl) sz)) 0 0 (va_A (wR cI cZ cY h qx qy qh qt qs rw th n xs ys hs t tb sg fl) sz) := by
  refine wr_start (cc := cX2_at) (maxL := 3) (ret := (some .int)) (Q0 := wrQi (dC, dI) (gTY cI cZ cY) (r_b1 (r_isPlace x y) (nI (r_liesN t xs ys tb x y)) 0) (wR cI cZ cY h qx qy qh qt qs rw (r_b1 (r_isPlace x y) 0 1) n xs ys hs t tb sg fl)) RX2 (by decide) rfl rfl (Nat.le_of_ble_eq_true rfl) ?_
  intro p e s m below meth c ⟨hx, hb, hr, hml, hown, hts, hlocks, hin⟩ hP hK A hD hA hS ls hl
  have F : CallFix p m c cX2_at 3 s ([.ref h, .int x, .int y] : List Value).toArray wsX2_at RX2 := ⟨hx, hb, hml, hown, hts⟩
  have hl : lv_has ls 3 [(0, .ref h), (1, .int x), (2, .int y)] := hl
  refine lv_aload_n hx hb dX2_at_0 rfl (lv_at hl 0 rfl) ?_
  refine lv_iconst (v := 0) hx hb dX2_at_1 (by decide) ?_
  refine va_put (D := (dC, dI)) (ci := 2) (v := .int 0) (ty := .int) (C := RX2) (T := TX2) (N := 9) hx hb hts in_X2_at_X2 tyX2 tyX2_ok nmX2 hown hK hP hD hS 0 rfl rfl 0 (by decide) (hts (.fieldLink RX2 35 "MoorTrianglesModel" "thrown" "I") fl_X2_at_35) (fun _ h9 => h9) rfl (by decide +kernel) rfl rfl (Nat.le_of_ble_eq_true rfl) dX2_at_2 (fun H locs hP hD hS => ?_)
  have hP : va_P (dC, dI) vwCl (wR cI cZ cY h qx qy qh qt qs rw 0 n xs ys hs t tb sg fl) H := hP
  have hD : va_D A (wR cI cZ cY h qx qy qh qt qs rw 0 n xs ys hs t tb sg fl) := hD
  refine lv_iload_n hx hb dX2_at_5 rfl (lv_at hl 1 rfl) ?_
  refine lv_iload_n hx hb dX2_at_6 rfl (lv_at hl 2 rfl) ?_
  refine rd_cSi (As := [.int x, .int y]) (rest := []) F (c_X2_isPlace l dC dI cI cZ cY x y) (cwS 2 hts gX2_at_X2_isPlace rfl rfl rfl hd_X2_isPlace ⟨Nat.le_of_ble_eq_true rfl, Nat.le_of_ble_eq_true rfl⟩) va_P0 hK rfl hl.1 rfl (lv_room (Nat.le_of_ble_eq_true rfl)) dX2_at_7 ⟨Nat.zero_le _, Nat.zero_le _⟩ ?_
  refine lv_if_eqB (tgt := 22) hx hb dX2_at_10 (by decide) (fun c_1 => ?_) (fun c_1 => ?_)
  · refine lv_aload_n hx hb dX2_at_22 rfl (lv_at hl 0 rfl) ?_
    refine lv_iconst (v := 1) hx hb dX2_at_23 (by decide) ?_
    refine wx_cVi (As := [.int 1]) (rest := []) F (c_X2_fail l dC dI cI cZ cY h qx qy qh qt qs rw 0 n xs ys hs t tb sg fl 1 H.size) (cwV 1 hts gX2_at_X2_fail rfl rfl rfl hd_X2_fail ⟨Nat.le_of_ble_eq_true rfl, Nat.le_of_ble_eq_true rfl⟩) hP hK hD hS hA (va_recv hK hP (ci := 2) (q0 := 0) rfl rfl) rfl hl.1 rfl (lv_room (Nat.le_of_ble_eq_true rfl)) dX2_at_24 ⟨Nat.zero_le _, Nat.zero_le _⟩ (fun H locs hP hD hS => ?_)
    have hP : va_P (dC, dI) vwCl (wR cI cZ cY h qx qy qh qt qs rw 1 n xs ys hs t tb sg fl) H := hP
    have hD : va_D A (wR cI cZ cY h qx qy qh qt qs rw 1 n xs ys hs t tb sg fl) := hD
    have e_th : (r_b1 (r_isPlace x y) 0 1 : Int32) = 1 := by first | (simp only [r_b1, c_1]; done) | (simp only [r_b1, c_1]; rfl) | (simp [r_b1, c_1]; done)
    have hP : va_P (dC, dI) vwCl (wR cI cZ cY h qx qy qh qt qs rw (r_b1 (r_isPlace x y) 0 1) n xs ys hs t tb sg fl) H := by rw [e_th]; exact hP
    have hD : va_D A (wR cI cZ cY h qx qy qh qt qs rw (r_b1 (r_isPlace x y) 0 1) n xs ys hs t tb sg fl) := by rw [e_th]; exact hD
    exact wr_iret hx hb hr hlocks (by first | (simp only [r_b1, c_1]; done) | (simp only [r_b1, c_1]; rfl) | (simp [r_b1, c_1]; done)) hP hK hD hS dX2_at_27
  · refine lv_aload_n hx hb dX2_at_13 rfl (lv_at hl 0 rfl) ?_
    refine lv_iload_n hx hb dX2_at_14 rfl (lv_at hl 1 rfl) ?_
    refine lv_iload_n hx hb dX2_at_15 rfl (lv_at hl 2 rfl) ?_
    refine rd_cVi (As := [.int x, .int y]) (rest := []) F (c_X2_lies l dC dI cI cZ cY h qx qy qh qt qs rw 0 n xs ys hs t tb sg fl x y ht hok (r_liesN t xs ys tb x y) (r_lies_spec (hcov c_1)).1 (r_lies_spec (hcov c_1)).2.1 (r_lies_spec (hcov c_1)).2.2) (cwV 2 hts gX2_at_X2_lies rfl rfl rfl hd_X2_lies ⟨Nat.le_of_ble_eq_true rfl, Nat.le_of_ble_eq_true rfl⟩) hP hK (va_recv hK hP (ci := 2) (q0 := 0) rfl rfl) rfl hl.1 rfl (lv_room (Nat.le_of_ble_eq_true rfl)) dX2_at_16 ⟨Nat.zero_le _, Nat.zero_le _⟩ ?_
    refine lv_goto (tgt := 27) hx hb dX2_at_19 (by decide) ?_
    have e_th : (r_b1 (r_isPlace x y) 0 1 : Int32) = 0 := by first | (simp only [r_b1, c_1]; done) | (simp only [r_b1, c_1]; rfl) | (simp [r_b1, c_1]; done)
    have hP : va_P (dC, dI) vwCl (wR cI cZ cY h qx qy qh qt qs rw (r_b1 (r_isPlace x y) 0 1) n xs ys hs t tb sg fl) H := by rw [e_th]; exact hP
    have hD : va_D A (wR cI cZ cY h qx qy qh qt qs rw (r_b1 (r_isPlace x y) 0 1) n xs ys hs t tb sg fl) := by rw [e_th]; exact hD
    exact wr_iret hx hb hr hlocks (by first | (simp only [r_b1, c_1]; done) | (simp only [r_b1, c_1]; rfl) | (simp [r_b1, c_1]; done)) hP hK hD hS dX2_at_27
theorem hd_X2_height : yX2_height.cls = RX2 ∧ yX2_height.cls ≠ "java/lang/invoke/MethodHandle" ∧ yX2_height.cls ≠ "java/lang/invoke/VarHandle" ∧ (parseMethodDescriptor yX2_height.desc).map (fun d => d.parameters.length) = some 2 := by decide +kernel
theorem in_X2_height_X2 : ∀ w ∈ wsX20, w ∈ wsX2_height := by decide +kernel
theorem fl_X2_height_35 : (Cond.fieldLink RX2 35 "MoorTrianglesModel" "thrown" "I") ∈ wsX2_height := by decide +kernel
theorem fl_X2_height_20 : (Cond.fieldLink RX2 20 "MoorTrianglesModel" "heights" "[I") ∈ wsX2_height := by decide +kernel
theorem ma0_X2_height_abs : (Cond.methodLink RX2 71 Lib.Math.abs.name) ∈ wsX2_height := by decide +kernel
theorem ma1_X2_height_abs : (Cond.static Lib.Math.abs.name) ∈ wsX2_height := by decide +kernel
theorem ma2_X2_height_abs : (Cond.initialized "java/lang/Math") ∈ wsX2_height := by decide +kernel
theorem ma3_X2_height_abs : (Cond.code Lib.Math.abs.name Lib.Math.abs.code 1 (some .int)) ∈ wsX2_height := by decide +kernel
set_option maxHeartbeats 4000000 in
set_option maxRecDepth 100000 in
theorem c_X2_height (l : Launch) (dC : Nat → ClassId) (dI : Nat → Nat → Nat) (cI cZ cY : ClassId) (h qx qy qh qt qs : Nat) (rw : Nat → Nat) (th : Int32) (n : Nat) (xs ys hs : Nat → Int32) (t : Nat) (tb : Nat → Int32) (sg : Nat → Nat → Int32) (fl : Int32) (x : Int32) (y : Int32) (sz : Nat) (ht : t ≤ 36) (hok : r_okT t tb) (hcov : r_isPlace x y = true → ∃ k, k < t ∧ r_pCov xs ys tb x y k = true) (hz : r_isPlace x y = true → ¬ r_areaOf xs ys tb (nI (r_liesN t xs ys tb x y)) = 0) : Met l yX2_height wsX2_height ({ frames := 4, cells := 0, slots := 0, locals := 94 }) (va_Pc [.ref h, .int x, .int y] (wrP (dC, dI) (gTY cI cZ cY) (wR cI cZ cY h qx qy qh qt qs rw th n xs ys hs t tb sg fl) sz)) (wrQi (dC, dI) (gTY cI cZ cY) (r_b1 (r_isPlace x y) (r_hs xs ys hs tb (nI (r_liesN t xs ys tb x y)) x y / r_areaOf xs ys tb (nI (r_liesN t xs ys tb x y))) 0) (wR cI cZ cY h qx qy qh qt qs rw (r_b1 (r_isPlace x y) 0 1) n xs ys hs t tb sg fl) (va_A (wR cI cZ cY h qx qy qh qt qs rw th n xs ys hs t tb sg fl) sz)) 0 0 (va_A (wR cI cZ cY h qx qy qh qt qs rw th n xs ys hs t tb sg fl) sz) := by
  refine wr_start (cc := cX2_height) (maxL := 6) (ret := (some .int)) (Q0 := wrQi (dC, dI) (gTY cI cZ cY) (r_b1 (r_isPlace x y) (r_hs xs ys hs tb (nI (r_liesN t xs ys tb x y)) x y / r_areaOf xs ys tb (nI (r_liesN t xs ys tb x y))) 0) (wR cI cZ cY h qx qy qh qt qs rw (r_b1 (r_isPlace x y) 0 1) n xs ys hs t tb sg fl)) RX2 (by decide) rfl rfl (Nat.le_of_ble_eq_true rfl) ?_
  intro p e s m below meth c ⟨hx, hb, hr, hml, hown, hts, hlocks, hin⟩ hP hK A hD hA hS ls hl
  have F : CallFix p m c cX2_height 6 s ([.ref h, .int x, .int y] : List Value).toArray wsX2_height RX2 := ⟨hx, hb, hml, hown, hts⟩
  have hl : lv_has ls 6 [(0, .ref h), (1, .int x), (2, .int y)] := hl
  refine lv_aload_n hx hb dX2_height_0 rfl (lv_at hl 0 rfl) ?_
  refine lv_iconst (v := 0) hx hb dX2_height_1 (by decide) ?_
  refine va_put (D := (dC, dI)) (ci := 2) (v := .int 0) (ty := .int) (C := RX2) (T := TX2) (N := 9) hx hb hts in_X2_height_X2 tyX2 tyX2_ok nmX2 hown hK hP hD hS 0 rfl rfl 0 (by decide) (hts (.fieldLink RX2 35 "MoorTrianglesModel" "thrown" "I") fl_X2_height_35) (fun _ h9 => h9) rfl (by decide +kernel) rfl rfl (Nat.le_of_ble_eq_true rfl) dX2_height_2 (fun H locs hP hD hS => ?_)
  have hP : va_P (dC, dI) vwCl (wR cI cZ cY h qx qy qh qt qs rw 0 n xs ys hs t tb sg fl) H := hP
  have hD : va_D A (wR cI cZ cY h qx qy qh qt qs rw 0 n xs ys hs t tb sg fl) := hD
  refine lv_iload_n hx hb dX2_height_5 rfl (lv_at hl 1 rfl) ?_
  refine lv_iload_n hx hb dX2_height_6 rfl (lv_at hl 2 rfl) ?_
  refine rd_cSi (As := [.int x, .int y]) (rest := []) F (c_X2_isPlace l dC dI cI cZ cY x y) (cwS 2 hts gX2_height_X2_isPlace rfl rfl rfl hd_X2_isPlace ⟨Nat.le_of_ble_eq_true rfl, Nat.le_of_ble_eq_true rfl⟩) va_P0 hK rfl hl.1 rfl (lv_room (Nat.le_of_ble_eq_true rfl)) dX2_height_7 ⟨Nat.zero_le _, Nat.zero_le _⟩ ?_
  refine lv_if_neB (tgt := 19) hx hb dX2_height_10 (by decide) (fun c_1 => ?_) (fun c_1 => ?_)
  · have hlt : r_liesN t xs ys tb x y < t := (r_lies_spec (hcov c_1)).1
    have hlk : r_liesN t xs ys tb x y < 36 := by omega
    have hcs := hok (r_liesN t xs ys tb x y) hlt
    refine lv_aload_n hx hb dX2_height_19 rfl (lv_at hl 0 rfl) ?_
    refine lv_iload_n hx hb dX2_height_20 rfl (lv_at hl 1 rfl) ?_
    refine lv_iload_n hx hb dX2_height_21 rfl (lv_at hl 2 rfl) ?_
    refine rd_cVi (As := [.int x, .int y]) (rest := []) F (c_X2_lies l dC dI cI cZ cY h qx qy qh qt qs rw 0 n xs ys hs t tb sg fl x y ht hok (r_liesN t xs ys tb x y) hlt (r_lies_spec (hcov c_1)).2.1 (r_lies_spec (hcov c_1)).2.2) (cwV 2 hts gX2_height_X2_lies rfl rfl rfl hd_X2_lies ⟨Nat.le_of_ble_eq_true rfl, Nat.le_of_ble_eq_true rfl⟩) hP hK (va_recv hK hP (ci := 2) (q0 := 0) rfl rfl) rfl hl.1 rfl (lv_room (Nat.le_of_ble_eq_true rfl)) dX2_height_22 ⟨Nat.zero_le _, Nat.zero_le _⟩ ?_
    refine lv_istore_n (lv' := [(3, .int (nI (r_liesN t xs ys tb x y))), (0, .ref h), (1, .int x), (2, .int y)]) hx hb dX2_height_25 rfl hl (by decide) rfl (fun ls hl => ?_)
    refine lv_iconst (v := 0) hx hb dX2_height_26 (by decide) ?_
    refine lv_istore (lv' := [(4, .int 0), (3, .int (nI (r_liesN t xs ys tb x y))), (0, .ref h), (1, .int x), (2, .int y)]) hx hb dX2_height_27 hl (by decide) rfl (fun ls hl => ?_)
    refine lv_iconst (v := 0) hx hb dX2_height_29 (by decide) ?_
    refine lv_istore (lv' := [(5, .int 0), (4, .int 0), (3, .int (nI (r_liesN t xs ys tb x y))), (0, .ref h), (1, .int x), (2, .int y)]) hx hb dX2_height_30 hl (by decide) rfl (fun ls hl => ?_)
    refine lv_iload hx hb dX2_height_32 (lv_at hl 0 rfl) ?_
    refine lv_iconst (v := 3) hx hb dX2_height_34 (by decide) ?_
    refine lv_icmp_ge (tgt := 93) hx hb dX2_height_35 (by decide) (fun c_2 => ?_) (fun c_2 => ?_)
    · exact absurd c_2 (by decide)
    · refine lv_iload hx hb dX2_height_38 (lv_at hl 1 rfl) ?_
      refine lv_aload_n hx hb dX2_height_40 rfl (lv_at hl 3 rfl) ?_
      refine va_get (D := (dC, dI)) (ci := 2) (v := .ref qh) (C := RX2) (T := TX2) (N := 9) hx hb hts in_X2_height_X2 hown hK hP 0 rfl rfl 4 (by decide) (hts (.fieldLink RX2 20 "MoorTrianglesModel" "heights" "[I") fl_X2_height_20) (fun _ h9 => h9) rfl dX2_height_41 ?_
      refine lv_aload_n hx hb dX2_height_44 rfl (lv_at hl 3 rfl) ?_
      refine lv_iload_n hx hb dX2_height_45 rfl (lv_at hl 2 rfl) ?_
      refine lv_iload hx hb dX2_height_46 (lv_at hl 0 rfl) ?_
      refine rd_cVi (As := [.int (nI (r_liesN t xs ys tb x y)), .int 0]) (rest := [.ref qh, .int 0]) F (c_X2_corner l dC dI cI cZ cY h qx qy qh qt qs rw 0 n xs ys hs t tb sg fl (nI (r_liesN t xs ys tb x y)) 0 (vp_in_nI hlk (by decide))) (cwV 2 hts gX2_height_X2_corner rfl rfl rfl hd_X2_corner ⟨Nat.le_of_ble_eq_true rfl, Nat.le_of_ble_eq_true rfl⟩) hP hK (va_recv hK hP (ci := 2) (q0 := 0) rfl rfl) rfl hl.1 rfl (lv_room (Nat.le_of_ble_eq_true rfl)) dX2_height_48 ⟨Nat.zero_le _, Nat.zero_le _⟩ ?_
      refine va_iald (D := (dC, dI)) hx hb hK hP 3 0 rfl rfl hcs.1 dX2_height_51 ?_
      refine lv_aload_n hx hb dX2_height_52 rfl (lv_at hl 3 rfl) ?_
      refine lv_aload_n hx hb dX2_height_53 rfl (lv_at hl 3 rfl) ?_
      refine lv_iload_n hx hb dX2_height_54 rfl (lv_at hl 2 rfl) ?_
      refine lv_iload hx hb dX2_height_55 (lv_at hl 0 rfl) ?_
      refine lv_iconst (v := 1) hx hb dX2_height_57 (by decide) ?_
      refine lv_iadd hx hb dX2_height_58 ?_
      refine lv_cvi (y := 1) (by decide) ?_
      refine lv_iconst (v := 3) hx hb dX2_height_59 (by decide) ?_
      refine lv_irem hx hb dX2_height_60 (by decide) ?_
      refine lv_cvi (y := 1) (by decide) ?_
      refine rd_cVi (As := [.int (nI (r_liesN t xs ys tb x y)), .int 1]) (rest := [.ref h, .int (hs (r_corner tb (nI (r_liesN t xs ys tb x y)) 0).toNatClampNeg), .int 0]) F (c_X2_corner l dC dI cI cZ cY h qx qy qh qt qs rw 0 n xs ys hs t tb sg fl (nI (r_liesN t xs ys tb x y)) 1 (vp_in_nI hlk (by decide))) (cwV 2 hts gX2_height_X2_corner rfl rfl rfl hd_X2_corner ⟨Nat.le_of_ble_eq_true rfl, Nat.le_of_ble_eq_true rfl⟩) hP hK (va_recv hK hP (ci := 2) (q0 := 0) rfl rfl) rfl hl.1 rfl (lv_room (Nat.le_of_ble_eq_true rfl)) dX2_height_61 ⟨Nat.zero_le _, Nat.zero_le _⟩ ?_
      refine lv_aload_n hx hb dX2_height_64 rfl (lv_at hl 3 rfl) ?_
      refine lv_iload_n hx hb dX2_height_65 rfl (lv_at hl 2 rfl) ?_
      refine lv_iload hx hb dX2_height_66 (lv_at hl 0 rfl) ?_
      refine lv_iconst (v := 2) hx hb dX2_height_68 (by decide) ?_
      refine lv_iadd hx hb dX2_height_69 ?_
      refine lv_cvi (y := 2) (by decide) ?_
      refine lv_iconst (v := 3) hx hb dX2_height_70 (by decide) ?_
      refine lv_irem hx hb dX2_height_71 (by decide) ?_
      refine lv_cvi (y := 2) (by decide) ?_
      refine rd_cVi (As := [.int (nI (r_liesN t xs ys tb x y)), .int 2]) (rest := [.int (r_corner tb (nI (r_liesN t xs ys tb x y)) 1), .ref h, .int (hs (r_corner tb (nI (r_liesN t xs ys tb x y)) 0).toNatClampNeg), .int 0]) F (c_X2_corner l dC dI cI cZ cY h qx qy qh qt qs rw 0 n xs ys hs t tb sg fl (nI (r_liesN t xs ys tb x y)) 2 (vp_in_nI hlk (by decide))) (cwV 2 hts gX2_height_X2_corner rfl rfl rfl hd_X2_corner ⟨Nat.le_of_ble_eq_true rfl, Nat.le_of_ble_eq_true rfl⟩) hP hK (va_recv hK hP (ci := 2) (q0 := 0) rfl rfl) rfl hl.1 rfl (lv_room (Nat.le_of_ble_eq_true rfl)) dX2_height_72 ⟨Nat.zero_le _, Nat.zero_le _⟩ ?_
      refine lv_iload_n hx hb dX2_height_75 rfl (lv_at hl 4 rfl) ?_
      refine lv_iload_n hx hb dX2_height_76 rfl (lv_at hl 5 rfl) ?_
      refine rd_cVi (As := [.int (r_corner tb (nI (r_liesN t xs ys tb x y)) 1), .int (r_corner tb (nI (r_liesN t xs ys tb x y)) 2), .int x, .int y]) (rest := [.int (hs (r_corner tb (nI (r_liesN t xs ys tb x y)) 0).toNatClampNeg), .int 0]) F (c_X2_area l dC dI cI cZ cY h qx qy qh qt qs rw 0 n xs ys hs t tb sg fl (r_corner tb (nI (r_liesN t xs ys tb x y)) 1) (r_corner tb (nI (r_liesN t xs ys tb x y)) 2) x y hcs.2.1 hcs.2.2) (cwV 4 hts gX2_height_X2_area rfl rfl rfl hd_X2_area ⟨Nat.le_of_ble_eq_true rfl, Nat.le_of_ble_eq_true rfl⟩) hP hK (va_recv hK hP (ci := 2) (q0 := 0) rfl rfl) rfl hl.1 rfl (lv_room (Nat.le_of_ble_eq_true rfl)) dX2_height_77 ⟨Nat.zero_le _, Nat.zero_le _⟩ ?_
      refine va_mabs hx hb (hml.trans hl.1.symm) hown (hts _ ma0_X2_height_abs) (hts _ ma1_X2_height_abs) (hts _ ma2_X2_height_abs) (hts _ ma3_X2_height_abs) (Nat.le_of_ble_eq_true rfl) (Nat.le_of_ble_eq_true rfl) (Nat.zero_le _) (Nat.zero_le _) dX2_height_80 ?_
      show W _ _ _ _ _ _ _ _ _ _ _ _ _ _ _ (F0 _ _ _ (.int (abs32 (r_area xs ys (r_corner tb (nI (r_liesN t xs ys tb x y)) 1) (r_corner tb (nI (r_liesN t xs ys tb x y)) 2) x y)) :: _))
      refine lv_imul hx hb dX2_height_83 ?_
      refine lv_iadd hx hb dX2_height_84 ?_
      refine lv_istore (lv' := [(4, .int (0 + ((hs (r_corner tb (nI (r_liesN t xs ys tb x y)) 0).toNatClampNeg) * (abs32 (r_area xs ys (r_corner tb (nI (r_liesN t xs ys tb x y)) 1) (r_corner tb (nI (r_liesN t xs ys tb x y)) 2) x y))))), (5, .int 0), (3, .int (nI (r_liesN t xs ys tb x y))), (0, .ref h), (1, .int x), (2, .int y)]) hx hb dX2_height_85 hl (by decide) rfl (fun ls hl => ?_)
      refine lv_iinc (v := 1) (lv' := [(5, .int 1), (4, .int (0 + ((hs (r_corner tb (nI (r_liesN t xs ys tb x y)) 0).toNatClampNeg) * (abs32 (r_area xs ys (r_corner tb (nI (r_liesN t xs ys tb x y)) 1) (r_corner tb (nI (r_liesN t xs ys tb x y)) 2) x y))))), (3, .int (nI (r_liesN t xs ys tb x y))), (0, .ref h), (1, .int x), (2, .int y)]) hx hb dX2_height_87 hl (k := 1) rfl (by decide) (by decide) rfl (fun ls hl => ?_)
      refine lv_goto (tgt := 32) hx hb dX2_height_90 (by decide) ?_
      refine lv_iload hx hb dX2_height_32 (lv_at hl 0 rfl) ?_
      refine lv_iconst (v := 3) hx hb dX2_height_34 (by decide) ?_
      refine lv_icmp_ge (tgt := 93) hx hb dX2_height_35 (by decide) (fun c_3 => ?_) (fun c_3 => ?_)
      · exact absurd c_3 (by decide)
      · refine lv_iload hx hb dX2_height_38 (lv_at hl 1 rfl) ?_
        refine lv_aload_n hx hb dX2_height_40 rfl (lv_at hl 3 rfl) ?_
        refine va_get (D := (dC, dI)) (ci := 2) (v := .ref qh) (C := RX2) (T := TX2) (N := 9) hx hb hts in_X2_height_X2 hown hK hP 0 rfl rfl 4 (by decide) (hts (.fieldLink RX2 20 "MoorTrianglesModel" "heights" "[I") fl_X2_height_20) (fun _ h9 => h9) rfl dX2_height_41 ?_
        refine lv_aload_n hx hb dX2_height_44 rfl (lv_at hl 3 rfl) ?_
        refine lv_iload_n hx hb dX2_height_45 rfl (lv_at hl 2 rfl) ?_
        refine lv_iload hx hb dX2_height_46 (lv_at hl 0 rfl) ?_
        refine rd_cVi (As := [.int (nI (r_liesN t xs ys tb x y)), .int 1]) (rest := [.ref qh, .int (0 + ((hs (r_corner tb (nI (r_liesN t xs ys tb x y)) 0).toNatClampNeg) * (abs32 (r_area xs ys (r_corner tb (nI (r_liesN t xs ys tb x y)) 1) (r_corner tb (nI (r_liesN t xs ys tb x y)) 2) x y))))]) F (c_X2_corner l dC dI cI cZ cY h qx qy qh qt qs rw 0 n xs ys hs t tb sg fl (nI (r_liesN t xs ys tb x y)) 1 (vp_in_nI hlk (by decide))) (cwV 2 hts gX2_height_X2_corner rfl rfl rfl hd_X2_corner ⟨Nat.le_of_ble_eq_true rfl, Nat.le_of_ble_eq_true rfl⟩) hP hK (va_recv hK hP (ci := 2) (q0 := 0) rfl rfl) rfl hl.1 rfl (lv_room (Nat.le_of_ble_eq_true rfl)) dX2_height_48 ⟨Nat.zero_le _, Nat.zero_le _⟩ ?_
        refine va_iald (D := (dC, dI)) hx hb hK hP 3 0 rfl rfl hcs.2.1 dX2_height_51 ?_
        refine lv_aload_n hx hb dX2_height_52 rfl (lv_at hl 3 rfl) ?_
        refine lv_aload_n hx hb dX2_height_53 rfl (lv_at hl 3 rfl) ?_
        refine lv_iload_n hx hb dX2_height_54 rfl (lv_at hl 2 rfl) ?_
        refine lv_iload hx hb dX2_height_55 (lv_at hl 0 rfl) ?_
        refine lv_iconst (v := 1) hx hb dX2_height_57 (by decide) ?_
        refine lv_iadd hx hb dX2_height_58 ?_
        refine lv_cvi (y := 2) (by decide) ?_
        refine lv_iconst (v := 3) hx hb dX2_height_59 (by decide) ?_
        refine lv_irem hx hb dX2_height_60 (by decide) ?_
        refine lv_cvi (y := 2) (by decide) ?_
        refine rd_cVi (As := [.int (nI (r_liesN t xs ys tb x y)), .int 2]) (rest := [.ref h, .int (hs (r_corner tb (nI (r_liesN t xs ys tb x y)) 1).toNatClampNeg), .int (0 + ((hs (r_corner tb (nI (r_liesN t xs ys tb x y)) 0).toNatClampNeg) * (abs32 (r_area xs ys (r_corner tb (nI (r_liesN t xs ys tb x y)) 1) (r_corner tb (nI (r_liesN t xs ys tb x y)) 2) x y))))]) F (c_X2_corner l dC dI cI cZ cY h qx qy qh qt qs rw 0 n xs ys hs t tb sg fl (nI (r_liesN t xs ys tb x y)) 2 (vp_in_nI hlk (by decide))) (cwV 2 hts gX2_height_X2_corner rfl rfl rfl hd_X2_corner ⟨Nat.le_of_ble_eq_true rfl, Nat.le_of_ble_eq_true rfl⟩) hP hK (va_recv hK hP (ci := 2) (q0 := 0) rfl rfl) rfl hl.1 rfl (lv_room (Nat.le_of_ble_eq_true rfl)) dX2_height_61 ⟨Nat.zero_le _, Nat.zero_le _⟩ ?_
        refine lv_aload_n hx hb dX2_height_64 rfl (lv_at hl 3 rfl) ?_
        refine lv_iload_n hx hb dX2_height_65 rfl (lv_at hl 2 rfl) ?_
        refine lv_iload hx hb dX2_height_66 (lv_at hl 0 rfl) ?_
        refine lv_iconst (v := 2) hx hb dX2_height_68 (by decide) ?_
        refine lv_iadd hx hb dX2_height_69 ?_
        refine lv_cvi (y := 3) (by decide) ?_
        refine lv_iconst (v := 3) hx hb dX2_height_70 (by decide) ?_
        refine lv_irem hx hb dX2_height_71 (by decide) ?_
        refine lv_cvi (y := 0) (by decide) ?_
        refine rd_cVi (As := [.int (nI (r_liesN t xs ys tb x y)), .int 0]) (rest := [.int (r_corner tb (nI (r_liesN t xs ys tb x y)) 2), .ref h, .int (hs (r_corner tb (nI (r_liesN t xs ys tb x y)) 1).toNatClampNeg), .int (0 + ((hs (r_corner tb (nI (r_liesN t xs ys tb x y)) 0).toNatClampNeg) * (abs32 (r_area xs ys (r_corner tb (nI (r_liesN t xs ys tb x y)) 1) (r_corner tb (nI (r_liesN t xs ys tb x y)) 2) x y))))]) F (c_X2_corner l dC dI cI cZ cY h qx qy qh qt qs rw 0 n xs ys hs t tb sg fl (nI (r_liesN t xs ys tb x y)) 0 (vp_in_nI hlk (by decide))) (cwV 2 hts gX2_height_X2_corner rfl rfl rfl hd_X2_corner ⟨Nat.le_of_ble_eq_true rfl, Nat.le_of_ble_eq_true rfl⟩) hP hK (va_recv hK hP (ci := 2) (q0 := 0) rfl rfl) rfl hl.1 rfl (lv_room (Nat.le_of_ble_eq_true rfl)) dX2_height_72 ⟨Nat.zero_le _, Nat.zero_le _⟩ ?_
        refine lv_iload_n hx hb dX2_height_75 rfl (lv_at hl 4 rfl) ?_
        refine lv_iload_n hx hb dX2_height_76 rfl (lv_at hl 5 rfl) ?_
        refine rd_cVi (As := [.int (r_corner tb (nI (r_liesN t xs ys tb x y)) 2), .int (r_corner tb (nI (r_liesN t xs ys tb x y)) 0), .int x, .int y]) (rest := [.int (hs (r_corner tb (nI (r_liesN t xs ys tb x y)) 1).toNatClampNeg), .int (0 + ((hs (r_corner tb (nI (r_liesN t xs ys tb x y)) 0).toNatClampNeg) * (abs32 (r_area xs ys (r_corner tb (nI (r_liesN t xs ys tb x y)) 1) (r_corner tb (nI (r_liesN t xs ys tb x y)) 2) x y))))]) F (c_X2_area l dC dI cI cZ cY h qx qy qh qt qs rw 0 n xs ys hs t tb sg fl (r_corner tb (nI (r_liesN t xs ys tb x y)) 2) (r_corner tb (nI (r_liesN t xs ys tb x y)) 0) x y hcs.2.2 hcs.1) (cwV 4 hts gX2_height_X2_area rfl rfl rfl hd_X2_area ⟨Nat.le_of_ble_eq_true rfl, Nat.le_of_ble_eq_true rfl⟩) hP hK (va_recv hK hP (ci := 2) (q0 := 0) rfl rfl) rfl hl.1 rfl (lv_room (Nat.le_of_ble_eq_true rfl)) dX2_height_77 ⟨Nat.zero_le _, Nat.zero_le _⟩ ?_
        refine va_mabs hx hb (hml.trans hl.1.symm) hown (hts _ ma0_X2_height_abs) (hts _ ma1_X2_height_abs) (hts _ ma2_X2_height_abs) (hts _ ma3_X2_height_abs) (Nat.le_of_ble_eq_true rfl) (Nat.le_of_ble_eq_true rfl) (Nat.zero_le _) (Nat.zero_le _) dX2_height_80 ?_
        show W _ _ _ _ _ _ _ _ _ _ _ _ _ _ _ (F0 _ _ _ (.int (abs32 (r_area xs ys (r_corner tb (nI (r_liesN t xs ys tb x y)) 2) (r_corner tb (nI (r_liesN t xs ys tb x y)) 0) x y)) :: _))
        refine lv_imul hx hb dX2_height_83 ?_
        refine lv_iadd hx hb dX2_height_84 ?_
        refine lv_istore (lv' := [(4, .int ((0 + ((hs (r_corner tb (nI (r_liesN t xs ys tb x y)) 0).toNatClampNeg) * (abs32 (r_area xs ys (r_corner tb (nI (r_liesN t xs ys tb x y)) 1) (r_corner tb (nI (r_liesN t xs ys tb x y)) 2) x y)))) + ((hs (r_corner tb (nI (r_liesN t xs ys tb x y)) 1).toNatClampNeg) * (abs32 (r_area xs ys (r_corner tb (nI (r_liesN t xs ys tb x y)) 2) (r_corner tb (nI (r_liesN t xs ys tb x y)) 0) x y))))), (5, .int 1), (3, .int (nI (r_liesN t xs ys tb x y))), (0, .ref h), (1, .int x), (2, .int y)]) hx hb dX2_height_85 hl (by decide) rfl (fun ls hl => ?_)
        refine lv_iinc (v := 2) (lv' := [(5, .int 2), (4, .int ((0 + ((hs (r_corner tb (nI (r_liesN t xs ys tb x y)) 0).toNatClampNeg) * (abs32 (r_area xs ys (r_corner tb (nI (r_liesN t xs ys tb x y)) 1) (r_corner tb (nI (r_liesN t xs ys tb x y)) 2) x y)))) + ((hs (r_corner tb (nI (r_liesN t xs ys tb x y)) 1).toNatClampNeg) * (abs32 (r_area xs ys (r_corner tb (nI (r_liesN t xs ys tb x y)) 2) (r_corner tb (nI (r_liesN t xs ys tb x y)) 0) x y))))), (3, .int (nI (r_liesN t xs ys tb x y))), (0, .ref h), (1, .int x), (2, .int y)]) hx hb dX2_height_87 hl (k := 1) rfl (by decide) (by decide) rfl (fun ls hl => ?_)
        refine lv_goto (tgt := 32) hx hb dX2_height_90 (by decide) ?_
        refine lv_iload hx hb dX2_height_32 (lv_at hl 0 rfl) ?_
        refine lv_iconst (v := 3) hx hb dX2_height_34 (by decide) ?_
        refine lv_icmp_ge (tgt := 93) hx hb dX2_height_35 (by decide) (fun c_4 => ?_) (fun c_4 => ?_)
        · exact absurd c_4 (by decide)
        · refine lv_iload hx hb dX2_height_38 (lv_at hl 1 rfl) ?_
          refine lv_aload_n hx hb dX2_height_40 rfl (lv_at hl 3 rfl) ?_
          refine va_get (D := (dC, dI)) (ci := 2) (v := .ref qh) (C := RX2) (T := TX2) (N := 9) hx hb hts in_X2_height_X2 hown hK hP 0 rfl rfl 4 (by decide) (hts (.fieldLink RX2 20 "MoorTrianglesModel" "heights" "[I") fl_X2_height_20) (fun _ h9 => h9) rfl dX2_height_41 ?_
          refine lv_aload_n hx hb dX2_height_44 rfl (lv_at hl 3 rfl) ?_
          refine lv_iload_n hx hb dX2_height_45 rfl (lv_at hl 2 rfl) ?_
          refine lv_iload hx hb dX2_height_46 (lv_at hl 0 rfl) ?_
          refine rd_cVi (As := [.int (nI (r_liesN t xs ys tb x y)), .int 2]) (rest := [.ref qh, .int ((0 + ((hs (r_corner tb (nI (r_liesN t xs ys tb x y)) 0).toNatClampNeg) * (abs32 (r_area xs ys (r_corner tb (nI (r_liesN t xs ys tb x y)) 1) (r_corner tb (nI (r_liesN t xs ys tb x y)) 2) x y)))) + ((hs (r_corner tb (nI (r_liesN t xs ys tb x y)) 1).toNatClampNeg) * (abs32 (r_area xs ys (r_corner tb (nI (r_liesN t xs ys tb x y)) 2) (r_corner tb (nI (r_liesN t xs ys tb x y)) 0) x y))))]) F (c_X2_corner l dC dI cI cZ cY h qx qy qh qt qs rw 0 n xs ys hs t tb sg fl (nI (r_liesN t xs ys tb x y)) 2 (vp_in_nI hlk (by decide))) (cwV 2 hts gX2_height_X2_corner rfl rfl rfl hd_X2_corner ⟨Nat.le_of_ble_eq_true rfl, Nat.le_of_ble_eq_true rfl⟩) hP hK (va_recv hK hP (ci := 2) (q0 := 0) rfl rfl) rfl hl.1 rfl (lv_room (Nat.le_of_ble_eq_true rfl)) dX2_height_48 ⟨Nat.zero_le _, Nat.zero_le _⟩ ?_
          refine va_iald (D := (dC, dI)) hx hb hK hP 3 0 rfl rfl hcs.2.2 dX2_height_51 ?_
          refine lv_aload_n hx hb dX2_height_52 rfl (lv_at hl 3 rfl) ?_
          refine lv_aload_n hx hb dX2_height_53 rfl (lv_at hl 3 rfl) ?_
          refine lv_iload_n hx hb dX2_height_54 rfl (lv_at hl 2 rfl) ?_
          refine lv_iload hx hb dX2_height_55 (lv_at hl 0 rfl) ?_
          refine lv_iconst (v := 1) hx hb dX2_height_57 (by decide) ?_
          refine lv_iadd hx hb dX2_height_58 ?_
          refine lv_cvi (y := 3) (by decide) ?_
          refine lv_iconst (v := 3) hx hb dX2_height_59 (by decide) ?_
          refine lv_irem hx hb dX2_height_60 (by decide) ?_
          refine lv_cvi (y := 0) (by decide) ?_
          refine rd_cVi (As := [.int (nI (r_liesN t xs ys tb x y)), .int 0]) (rest := [.ref h, .int (hs (r_corner tb (nI (r_liesN t xs ys tb x y)) 2).toNatClampNeg), .int ((0 + ((hs (r_corner tb (nI (r_liesN t xs ys tb x y)) 0).toNatClampNeg) * (abs32 (r_area xs ys (r_corner tb (nI (r_liesN t xs ys tb x y)) 1) (r_corner tb (nI (r_liesN t xs ys tb x y)) 2) x y)))) + ((hs (r_corner tb (nI (r_liesN t xs ys tb x y)) 1).toNatClampNeg) * (abs32 (r_area xs ys (r_corner tb (nI (r_liesN t xs ys tb x y)) 2) (r_corner tb (nI (r_liesN t xs ys tb x y)) 0) x y))))]) F (c_X2_corner l dC dI cI cZ cY h qx qy qh qt qs rw 0 n xs ys hs t tb sg fl (nI (r_liesN t xs ys tb x y)) 0 (vp_in_nI hlk (by decide))) (cwV 2 hts gX2_height_X2_corner rfl rfl rfl hd_X2_corner ⟨Nat.le_of_ble_eq_true rfl, Nat.le_of_ble_eq_true rfl⟩) hP hK (va_recv hK hP (ci := 2) (q0 := 0) rfl rfl) rfl hl.1 rfl (lv_room (Nat.le_of_ble_eq_true rfl)) dX2_height_61 ⟨Nat.zero_le _, Nat.zero_le _⟩ ?_
          refine lv_aload_n hx hb dX2_height_64 rfl (lv_at hl 3 rfl) ?_
          refine lv_iload_n hx hb dX2_height_65 rfl (lv_at hl 2 rfl) ?_
          refine lv_iload hx hb dX2_height_66 (lv_at hl 0 rfl) ?_
          refine lv_iconst (v := 2) hx hb dX2_height_68 (by decide) ?_
          refine lv_iadd hx hb dX2_height_69 ?_
          refine lv_cvi (y := 4) (by decide) ?_
          refine lv_iconst (v := 3) hx hb dX2_height_70 (by decide) ?_
          refine lv_irem hx hb dX2_height_71 (by decide) ?_
          refine lv_cvi (y := 1) (by decide) ?_
          refine rd_cVi (As := [.int (nI (r_liesN t xs ys tb x y)), .int 1]) (rest := [.int (r_corner tb (nI (r_liesN t xs ys tb x y)) 0), .ref h, .int (hs (r_corner tb (nI (r_liesN t xs ys tb x y)) 2).toNatClampNeg), .int ((0 + ((hs (r_corner tb (nI (r_liesN t xs ys tb x y)) 0).toNatClampNeg) * (abs32 (r_area xs ys (r_corner tb (nI (r_liesN t xs ys tb x y)) 1) (r_corner tb (nI (r_liesN t xs ys tb x y)) 2) x y)))) + ((hs (r_corner tb (nI (r_liesN t xs ys tb x y)) 1).toNatClampNeg) * (abs32 (r_area xs ys (r_corner tb (nI (r_liesN t xs ys tb x y)) 2) (r_corner tb (nI (r_liesN t xs ys tb x y)) 0) x y))))]) F (c_X2_corner l dC dI cI cZ cY h qx qy qh qt qs rw 0 n xs ys hs t tb sg fl (nI (r_liesN t xs ys tb x y)) 1 (vp_in_nI hlk (by decide))) (cwV 2 hts gX2_height_X2_corner rfl rfl rfl hd_X2_corner ⟨Nat.le_of_ble_eq_true rfl, Nat.le_of_ble_eq_true rfl⟩) hP hK (va_recv hK hP (ci := 2) (q0 := 0) rfl rfl) rfl hl.1 rfl (lv_room (Nat.le_of_ble_eq_true rfl)) dX2_height_72 ⟨Nat.zero_le _, Nat.zero_le _⟩ ?_
          refine lv_iload_n hx hb dX2_height_75 rfl (lv_at hl 4 rfl) ?_
          refine lv_iload_n hx hb dX2_height_76 rfl (lv_at hl 5 rfl) ?_
          refine rd_cVi (As := [.int (r_corner tb (nI (r_liesN t xs ys tb x y)) 0), .int (r_corner tb (nI (r_liesN t xs ys tb x y)) 1), .int x, .int y]) (rest := [.int (hs (r_corner tb (nI (r_liesN t xs ys tb x y)) 2).toNatClampNeg), .int ((0 + ((hs (r_corner tb (nI (r_liesN t xs ys tb x y)) 0).toNatClampNeg) * (abs32 (r_area xs ys (r_corner tb (nI (r_liesN t xs ys tb x y)) 1) (r_corner tb (nI (r_liesN t xs ys tb x y)) 2) x y)))) + ((hs (r_corner tb (nI (r_liesN t xs ys tb x y)) 1).toNatClampNeg) * (abs32 (r_area xs ys (r_corner tb (nI (r_liesN t xs ys tb x y)) 2) (r_corner tb (nI (r_liesN t xs ys tb x y)) 0) x y))))]) F (c_X2_area l dC dI cI cZ cY h qx qy qh qt qs rw 0 n xs ys hs t tb sg fl (r_corner tb (nI (r_liesN t xs ys tb x y)) 0) (r_corner tb (nI (r_liesN t xs ys tb x y)) 1) x y hcs.1 hcs.2.1) (cwV 4 hts gX2_height_X2_area rfl rfl rfl hd_X2_area ⟨Nat.le_of_ble_eq_true rfl, Nat.le_of_ble_eq_true rfl⟩) hP hK (va_recv hK hP (ci := 2) (q0 := 0) rfl rfl) rfl hl.1 rfl (lv_room (Nat.le_of_ble_eq_true rfl)) dX2_height_77 ⟨Nat.zero_le _, Nat.zero_le _⟩ ?_
          refine va_mabs hx hb (hml.trans hl.1.symm) hown (hts _ ma0_X2_height_abs) (hts _ ma1_X2_height_abs) (hts _ ma2_X2_height_abs) (hts _ ma3_X2_height_abs) (Nat.le_of_ble_eq_true rfl) (Nat.le_of_ble_eq_true rfl) (Nat.zero_le _) (Nat.zero_le _) dX2_height_80 ?_
          show W _ _ _ _ _ _ _ _ _ _ _ _ _ _ _ (F0 _ _ _ (.int (abs32 (r_area xs ys (r_corner tb (nI (r_liesN t xs ys tb x y)) 0) (r_corner tb (nI (r_liesN t xs ys tb x y)) 1) x y)) :: _))
          refine lv_imul hx hb dX2_height_83 ?_
          refine lv_iadd hx hb dX2_height_84 ?_
          refine lv_istore (lv' := [(4, .int (((0 + ((hs (r_corner tb (nI (r_liesN t xs ys tb x y)) 0).toNatClampNeg) * (abs32 (r_area xs ys (r_corner tb (nI (r_liesN t xs ys tb x y)) 1) (r_corner tb (nI (r_liesN t xs ys tb x y)) 2) x y)))) + ((hs (r_corner tb (nI (r_liesN t xs ys tb x y)) 1).toNatClampNeg) * (abs32 (r_area xs ys (r_corner tb (nI (r_liesN t xs ys tb x y)) 2) (r_corner tb (nI (r_liesN t xs ys tb x y)) 0) x y)))) + ((hs (r_corner tb (nI (r_liesN t xs ys tb x y)) 2).toNatClampNeg) * (abs32 (r_area xs ys (r_corner tb (nI (r_liesN t xs ys tb x y)) 0) (r_corner tb (nI (r_liesN t xs ys tb x y)) 1) x y))))), (5, .int 2), (3, .int (nI (r_liesN t xs ys tb x y))), (0, .ref h), (1, .int x), (2, .int y)]) hx hb dX2_height_85 hl (by decide) rfl (fun ls hl => ?_)
          refine lv_iinc (v := 3) (lv' := [(5, .int 3), (4, .int (((0 + ((hs (r_corner tb (nI (r_liesN t xs ys tb x y)) 0).toNatClampNeg) * (abs32 (r_area xs ys (r_corner tb (nI (r_liesN t xs ys tb x y)) 1) (r_corner tb (nI (r_liesN t xs ys tb x y)) 2) x y)))) + ((hs (r_corner tb (nI (r_liesN t xs ys tb x y)) 1).toNatClampNeg) * (abs32 (r_area xs ys (r_corner tb (nI (r_liesN t xs ys tb x y)) 2) (r_corner tb (nI (r_liesN t xs ys tb x y)) 0) x y)))) + ((hs (r_corner tb (nI (r_liesN t xs ys tb x y)) 2).toNatClampNeg) * (abs32 (r_area xs ys (r_corner tb (nI (r_liesN t xs ys tb x y)) 0) (r_corner tb (nI (r_liesN t xs ys tb x y)) 1) x y))))), (3, .int (nI (r_liesN t xs ys tb x y))), (0, .ref h), (1, .int x), (2, .int y)]) hx hb dX2_height_87 hl (k := 1) rfl (by decide) (by decide) rfl (fun ls hl => ?_)
          refine lv_goto (tgt := 32) hx hb dX2_height_90 (by decide) ?_
          refine lv_iload hx hb dX2_height_32 (lv_at hl 0 rfl) ?_
          refine lv_iconst (v := 3) hx hb dX2_height_34 (by decide) ?_
          refine lv_icmp_ge (tgt := 93) hx hb dX2_height_35 (by decide) (fun c_5 => ?_) (fun c_5 => ?_)
          · refine lv_iload hx hb dX2_height_93 (lv_at hl 1 rfl) ?_
            refine lv_aload_n hx hb dX2_height_95 rfl (lv_at hl 3 rfl) ?_
            refine lv_iload_n hx hb dX2_height_96 rfl (lv_at hl 2 rfl) ?_
            refine rd_cVi (As := [.int (nI (r_liesN t xs ys tb x y))]) (rest := [.int (((0 + ((hs (r_corner tb (nI (r_liesN t xs ys tb x y)) 0).toNatClampNeg) * (abs32 (r_area xs ys (r_corner tb (nI (r_liesN t xs ys tb x y)) 1) (r_corner tb (nI (r_liesN t xs ys tb x y)) 2) x y)))) + ((hs (r_corner tb (nI (r_liesN t xs ys tb x y)) 1).toNatClampNeg) * (abs32 (r_area xs ys (r_corner tb (nI (r_liesN t xs ys tb x y)) 2) (r_corner tb (nI (r_liesN t xs ys tb x y)) 0) x y)))) + ((hs (r_corner tb (nI (r_liesN t xs ys tb x y)) 2).toNatClampNeg) * (abs32 (r_area xs ys (r_corner tb (nI (r_liesN t xs ys tb x y)) 0) (r_corner tb (nI (r_liesN t xs ys tb x y)) 1) x y))))]) F (c_X2_areaOf l dC dI cI cZ cY h qx qy qh qt qs rw 0 n xs ys hs t tb sg fl (nI (r_liesN t xs ys tb x y)) (vp_in_nI hlk (by decide)) hcs.1 hcs.2.1 hcs.2.2) (cwV 1 hts gX2_height_X2_areaOf rfl rfl rfl hd_X2_areaOf ⟨Nat.le_of_ble_eq_true rfl, Nat.le_of_ble_eq_true rfl⟩) hP hK (va_recv hK hP (ci := 2) (q0 := 0) rfl rfl) rfl hl.1 rfl (lv_room (Nat.le_of_ble_eq_true rfl)) dX2_height_97 ⟨Nat.zero_le _, Nat.zero_le _⟩ ?_
            refine lv_idiv hx hb dX2_height_100 (hz (by assumption)) ?_
            have e_th : (r_b1 (r_isPlace x y) 0 1 : Int32) = 0 := by first | (simp only [r_b1, r_hs, c_1, c_2, c_3, c_4, c_5]; done) | (simp only [r_b1, r_hs, c_1, c_2, c_3, c_4, c_5]; rfl) | (simp [r_b1, r_hs, c_1, c_2, c_3, c_4, c_5]; done)
            have hP : va_P (dC, dI) vwCl (wR cI cZ cY h qx qy qh qt qs rw (r_b1 (r_isPlace x y) 0 1) n xs ys hs t tb sg fl) H := by rw [e_th]; exact hP
            have hD : va_D A (wR cI cZ cY h qx qy qh qt qs rw (r_b1 (r_isPlace x y) 0 1) n xs ys hs t tb sg fl) := by rw [e_th]; exact hD
            exact wr_iret hx hb hr hlocks (by simp only [r_b1, c_1]; rfl) hP hK hD hS dX2_height_101
          · exact absurd c_5 (by decide)
  · refine lv_aload_n hx hb dX2_height_13 rfl (lv_at hl 0 rfl) ?_
    refine lv_iconst (v := 1) hx hb dX2_height_14 (by decide) ?_
    refine wx_cVi (As := [.int 1]) (rest := []) F (c_X2_fail l dC dI cI cZ cY h qx qy qh qt qs rw 0 n xs ys hs t tb sg fl 1 H.size) (cwV 1 hts gX2_height_X2_fail rfl rfl rfl hd_X2_fail ⟨Nat.le_of_ble_eq_true rfl, Nat.le_of_ble_eq_true rfl⟩) hP hK hD hS hA (va_recv hK hP (ci := 2) (q0 := 0) rfl rfl) rfl hl.1 rfl (lv_room (Nat.le_of_ble_eq_true rfl)) dX2_height_15 ⟨Nat.zero_le _, Nat.zero_le _⟩ (fun H locs hP hD hS => ?_)
    have hP : va_P (dC, dI) vwCl (wR cI cZ cY h qx qy qh qt qs rw 1 n xs ys hs t tb sg fl) H := hP
    have hD : va_D A (wR cI cZ cY h qx qy qh qt qs rw 1 n xs ys hs t tb sg fl) := hD
    have e_th : (r_b1 (r_isPlace x y) 0 1 : Int32) = 1 := by first | (simp only [r_b1, r_hs, c_1]; done) | (simp only [r_b1, r_hs, c_1]; rfl) | (simp [r_b1, r_hs, c_1]; done)
    have hP : va_P (dC, dI) vwCl (wR cI cZ cY h qx qy qh qt qs rw (r_b1 (r_isPlace x y) 0 1) n xs ys hs t tb sg fl) H := by rw [e_th]; exact hP
    have hD : va_D A (wR cI cZ cY h qx qy qh qt qs rw (r_b1 (r_isPlace x y) 0 1) n xs ys hs t tb sg fl) := by rw [e_th]; exact hD
    exact wr_iret hx hb hr hlocks (by simp only [r_b1, c_1]; rfl) hP hK hD hS dX2_height_18
theorem hd_X2_nearest : yX2_nearest.cls = RX2 ∧ yX2_nearest.cls ≠ "java/lang/invoke/MethodHandle" ∧ yX2_nearest.cls ≠ "java/lang/invoke/VarHandle" ∧ (parseMethodDescriptor yX2_nearest.desc).map (fun d => d.parameters.length) = some 2 := by decide +kernel
theorem in_X2_nearest_X2 : ∀ w ∈ wsX20, w ∈ wsX2_nearest := by decide +kernel
theorem fl_X2_nearest_35 : (Cond.fieldLink RX2 35 "MoorTrianglesModel" "thrown" "I") ∈ wsX2_nearest := by decide +kernel
theorem fl_X2_nearest_7 : (Cond.fieldLink RX2 7 "MoorTrianglesModel" "cairns" "I") ∈ wsX2_nearest := by decide +kernel
set_option maxHeartbeats 4000000 in
set_option maxRecDepth 100000 in
theorem c_X2_nearest (l : Launch) (dC : Nat → ClassId) (dI : Nat → Nat → Nat) (cI cZ cY : ClassId) (h qx qy qh qt qs : Nat) (rw : Nat → Nat) (th : Int32) (n : Nat) (xs ys hs : Nat → Int32) (t : Nat) (tb : Nat → Int32) (sg : Nat → Nat → Int32) (fl : Int32) (x : Int32) (y : Int32) (sz : Nat) (hn : n ≤ 17) (hn1 : 1 ≤ n) : Met l yX2_nearest wsX2_nearest ({ frames := 2, cells := 0, slots := 0, locals := 43 }) (va_Pc [.ref h, .int x, .int y] (wrP (dC, dI) (gTY cI cZ cY) (wR cI cZ cY h qx qy qh qt qs rw th n xs ys hs t tb sg fl) sz)) (wrQi (dC, dI) (gTY cI cZ cY) (r_b1 (r_isPlace x y) (nI (rg_near (r_dTo xs ys x y) n)) 0) (wR cI cZ cY h qx qy qh qt qs rw (r_b1 (r_isPlace x y) 0 1) n xs ys hs t tb sg fl) (va_A (wR cI cZ cY h qx qy qh qt qs rw th n xs ys hs t tb sg fl) sz)) 0 0 (va_A (wR cI cZ cY h qx qy qh qt qs rw th n xs ys hs t tb sg fl) sz) := by
  refine wr_start (cc := cX2_nearest) (maxL := 5) (ret := (some .int)) (Q0 := wrQi (dC, dI) (gTY cI cZ cY) (r_b1 (r_isPlace x y) (nI (rg_near (r_dTo xs ys x y) n)) 0) (wR cI cZ cY h qx qy qh qt qs rw (r_b1 (r_isPlace x y) 0 1) n xs ys hs t tb sg fl)) RX2 (by decide) rfl rfl (Nat.le_of_ble_eq_true rfl) ?_
  intro p e s m below meth c ⟨hx, hb, hr, hml, hown, hts, hlocks, hin⟩ hP hK A hD hA hS ls hl
  have F : CallFix p m c cX2_nearest 5 s ([.ref h, .int x, .int y] : List Value).toArray wsX2_nearest RX2 := ⟨hx, hb, hml, hown, hts⟩
  have hl : lv_has ls 5 [(0, .ref h), (1, .int x), (2, .int y)] := hl
  refine lv_aload_n hx hb dX2_nearest_0 rfl (lv_at hl 0 rfl) ?_
  refine lv_iconst (v := 0) hx hb dX2_nearest_1 (by decide) ?_
  refine va_put (D := (dC, dI)) (ci := 2) (v := .int 0) (ty := .int) (C := RX2) (T := TX2) (N := 9) hx hb hts in_X2_nearest_X2 tyX2 tyX2_ok nmX2 hown hK hP hD hS 0 rfl rfl 0 (by decide) (hts (.fieldLink RX2 35 "MoorTrianglesModel" "thrown" "I") fl_X2_nearest_35) (fun _ h9 => h9) rfl (by decide +kernel) rfl rfl (Nat.le_of_ble_eq_true rfl) dX2_nearest_2 (fun H locs hP hD hS => ?_)
  have hP : va_P (dC, dI) vwCl (wR cI cZ cY h qx qy qh qt qs rw 0 n xs ys hs t tb sg fl) H := hP
  have hD : va_D A (wR cI cZ cY h qx qy qh qt qs rw 0 n xs ys hs t tb sg fl) := hD
  refine lv_iload_n hx hb dX2_nearest_5 rfl (lv_at hl 1 rfl) ?_
  refine lv_iload_n hx hb dX2_nearest_6 rfl (lv_at hl 2 rfl) ?_
  refine rd_cSi (As := [.int x, .int y]) (rest := []) F (c_X2_isPlace l dC dI cI cZ cY x y) (cwS 2 hts gX2_nearest_X2_isPlace rfl rfl rfl hd_X2_isPlace ⟨Nat.le_of_ble_eq_true rfl, Nat.le_of_ble_eq_true rfl⟩) va_P0 hK rfl hl.1 rfl (lv_room (Nat.le_of_ble_eq_true rfl)) dX2_nearest_7 ⟨Nat.zero_le _, Nat.zero_le _⟩ ?_
  refine lv_if_neB (tgt := 19) hx hb dX2_nearest_10 (by decide) (fun c_1 => ?_) (fun c_1 => ?_)
  · refine lv_iconst (v := 0) hx hb dX2_nearest_19 (by decide) ?_
    refine lv_istore_n (lv' := [(3, .int 0), (0, .ref h), (1, .int x), (2, .int y)]) hx hb dX2_nearest_20 rfl hl (by decide) rfl (fun ls hl => ?_)
    refine lv_iconst (v := 1) hx hb dX2_nearest_21 (by decide) ?_
    refine lv_istore (lv' := [(4, .int 1), (3, .int 0), (0, .ref h), (1, .int x), (2, .int y)]) hx hb dX2_nearest_22 hl (by decide) rfl (fun ls hl => ?_)
    have hL24 : ∀ (k_2 : Nat) (i : Nat), (n - i) < k_2 → (i ≤ n) → (1 ≤ i) → ∀ ls : Array Slot, lv_has ls 5 [(4, .int (nI i)), (3, .int (nI (rg_near (r_dTo xs ys x y) i))), (0, .ref h), (1, .int x), (2, .int y)] → W p l e ({ frames := 2, cells := 0, slots := 0, locals := 43 } : Room) s m ([.ref h, .int x, .int y] : List Value).toArray below meth c H locs 0 0 (MQ below (wrQi (dC, dI) (gTY cI cZ cY) (r_b1 (r_isPlace x y) (nI (rg_near (r_dTo xs ys x y) n)) 0) (wR cI cZ cY h qx qy qh qt qs rw (r_b1 (r_isPlace x y) 0 1) n xs ys hs t tb sg fl) A) ([.ref h, .int x, .int y] : List Value).toArray s 0 0 A) (F0 m 24 ls []) := by
      intro k_2
      induction k_2 with
      | zero => intro i hk; exact absurd hk (Nat.not_lt_zero _)
      | succ k_2 ih_3 =>
        intro i hk_24 hi_i h1 ls hl
        refine lv_iload hx hb dX2_nearest_24 (lv_at hl 0 rfl) ?_
        refine lv_aload_n hx hb dX2_nearest_26 rfl (lv_at hl 2 rfl) ?_
        refine va_get (D := (dC, dI)) (ci := 2) (v := .int (nI n)) (C := RX2) (T := TX2) (N := 9) hx hb hts in_X2_nearest_X2 hown hK hP 0 rfl rfl 1 (by decide) (hts (.fieldLink RX2 7 "MoorTrianglesModel" "cairns" "I") fl_X2_nearest_7) (fun _ h9 => h9) rfl dX2_nearest_27 ?_
        refine lv_icmp_ge (tgt := 60) hx hb dX2_nearest_30 (by decide) (fun c_4 => ?_) (fun c_4 => ?_)
        · have hge_i : n ≤ i := nI_le_le (by omega) (by omega) c_4
          have heq_i : i = n := by omega
          have hl : lv_has ls 5 [(4, .int (nI n)), (3, .int (nI (rg_near (r_dTo xs ys x y) n))), (0, .ref h), (1, .int x), (2, .int y)] := by rw [heq_i] at hl; exact hl
          refine lv_iload_n hx hb dX2_nearest_60 rfl (lv_at hl 1 rfl) ?_
          have e_th : (r_b1 (r_isPlace x y) 0 1 : Int32) = 0 := by simp only [r_b1, c_1]; rfl
          have hP : va_P (dC, dI) vwCl (wR cI cZ cY h qx qy qh qt qs rw (r_b1 (r_isPlace x y) 0 1) n xs ys hs t tb sg fl) H := by rw [e_th]; exact hP
          have hD : va_D A (wR cI cZ cY h qx qy qh qt qs rw (r_b1 (r_isPlace x y) 0 1) n xs ys hs t tb sg fl) := by rw [e_th]; exact hD
          exact wr_iret hx hb hr hlocks (by simp only [r_b1, c_1]; rfl) hP hK hD hS dX2_nearest_61
        · have hlt_i : i < n := nI_nle_lt (by omega) (by omega) c_4
          refine lv_aload_n hx hb dX2_nearest_33 rfl (lv_at hl 2 rfl) ?_
          refine lv_iload hx hb dX2_nearest_34 (lv_at hl 0 rfl) ?_
          refine lv_iload_n hx hb dX2_nearest_36 rfl (lv_at hl 3 rfl) ?_
          refine lv_iload_n hx hb dX2_nearest_37 rfl (lv_at hl 4 rfl) ?_
          refine rd_cVi (As := [.int (nI i), .int x, .int y]) (rest := []) F (c_X2_apart l dC dI cI cZ cY h qx qy qh qt qs rw 0 n xs ys hs t tb sg fl (nI i) x y (vp_in_nI (by omega) (by decide))) (cwV 3 hts gX2_nearest_X2_apart rfl rfl rfl hd_X2_apart ⟨Nat.le_of_ble_eq_true rfl, Nat.le_of_ble_eq_true rfl⟩) hP hK (va_recv hK hP (ci := 2) (q0 := 0) rfl rfl) rfl hl.1 rfl (lv_room (Nat.le_of_ble_eq_true rfl)) dX2_nearest_38 ⟨Nat.zero_le _, Nat.zero_le _⟩ ?_
          refine lv_aload_n hx hb dX2_nearest_41 rfl (lv_at hl 2 rfl) ?_
          refine lv_iload_n hx hb dX2_nearest_42 rfl (lv_at hl 1 rfl) ?_
          refine lv_iload_n hx hb dX2_nearest_43 rfl (lv_at hl 3 rfl) ?_
          refine lv_iload_n hx hb dX2_nearest_44 rfl (lv_at hl 4 rfl) ?_
          refine rd_cVi (As := [.int (nI (rg_near (r_dTo xs ys x y) i)), .int x, .int y]) (rest := [.int (r_apart xs ys (nI i) x y)]) F (c_X2_apart l dC dI cI cZ cY h qx qy qh qt qs rw 0 n xs ys hs t tb sg fl (nI (rg_near (r_dTo xs ys x y) i)) x y (vp_in_nI (Nat.lt_of_le_of_lt (rg_near_bd _ _) (by omega)) (by decide))) (cwV 3 hts gX2_nearest_X2_apart rfl rfl rfl hd_X2_apart ⟨Nat.le_of_ble_eq_true rfl, Nat.le_of_ble_eq_true rfl⟩) hP hK (va_recv hK hP (ci := 2) (q0 := 0) rfl rfl) rfl hl.1 rfl (lv_room (Nat.le_of_ble_eq_true rfl)) dX2_nearest_45 ⟨Nat.zero_le _, Nat.zero_le _⟩ ?_
          refine lv_icmp_ge (tgt := 54) hx hb dX2_nearest_48 (by decide) (fun c_5 => ?_) (fun c_5 => ?_)
          · refine lv_iinc (v := nI (i + 1)) (lv' := [(4, .int (nI (i + 1))), (3, .int (nI (rg_near (r_dTo xs ys x y) i))), (0, .ref h), (1, .int x), (2, .int y)]) hx hb dX2_nearest_54 hl (k := 0) rfl (nI_1 _) (by decide) rfl (fun ls hl => ?_)
            refine lv_goto (tgt := 24) hx hb dX2_nearest_57 (by decide) ?_
            have hl := lv_sub (l' := [(4, .int (nI (i + 1))), (3, .int (nI (rg_near (r_dTo xs ys x y) i))), (0, .ref h), (1, .int x), (2, .int y)]) hl [0, 1, 2, 3, 4] rfl
            have hl : lv_has ls 5 [(4, .int (nI (i + 1))), (3, .int (nI (rg_near (r_dTo xs ys x y) (i + 1)))), (0, .ref h), (1, .int x), (2, .int y)] := by
              have e9 : [(4, .int (nI (i + 1))), (3, .int (nI (rg_near (r_dTo xs ys x y) i))), (0, .ref h), (1, .int x), (2, .int y)] = ([(4, .int (nI (i + 1))), (3, .int (nI (rg_near (r_dTo xs ys x y) (i + 1)))), (0, .ref h), (1, .int x), (2, .int y)] : List (Nat × Value)) := by rw [rg_near_le (by omega) (show r_dTo xs ys x y _ ≤ r_dTo xs ys x y i from c_5)]
              rw [← e9]; exact hl
            exact ih_3 (i + 1) (by omega) (by omega) (by omega) _ hl
          · refine lv_iload hx hb dX2_nearest_51 (lv_at hl 0 rfl) ?_
            refine lv_istore_n (lv' := [(3, .int (nI i)), (4, .int (nI i)), (0, .ref h), (1, .int x), (2, .int y)]) hx hb dX2_nearest_53 rfl hl (by decide) rfl (fun ls hl => ?_)
            refine lv_iinc (v := nI (i + 1)) (lv' := [(4, .int (nI (i + 1))), (3, .int (nI i)), (0, .ref h), (1, .int x), (2, .int y)]) hx hb dX2_nearest_54 hl (k := 1) rfl (nI_1 _) (by decide) rfl (fun ls hl => ?_)
            refine lv_goto (tgt := 24) hx hb dX2_nearest_57 (by decide) ?_
            have hl := lv_sub (l' := [(4, .int (nI (i + 1))), (3, .int (nI i)), (0, .ref h), (1, .int x), (2, .int y)]) hl [0, 1, 2, 3, 4] rfl
            have hl : lv_has ls 5 [(4, .int (nI (i + 1))), (3, .int (nI (rg_near (r_dTo xs ys x y) (i + 1)))), (0, .ref h), (1, .int x), (2, .int y)] := by
              have e9 : [(4, .int (nI (i + 1))), (3, .int (nI i)), (0, .ref h), (1, .int x), (2, .int y)] = ([(4, .int (nI (i + 1))), (3, .int (nI (rg_near (r_dTo xs ys x y) (i + 1)))), (0, .ref h), (1, .int x), (2, .int y)] : List (Nat × Value)) := by rw [rg_near_lt (by omega) (show ¬ r_dTo xs ys x y _ ≤ r_dTo xs ys x y i from c_5)]
              rw [← e9]; exact hl
            exact ih_3 (i + 1) (by omega) (by omega) (by omega) _ hl
    have hl := lv_sub (l' := [(4, .int 1), (3, .int 0), (0, .ref h), (1, .int x), (2, .int y)]) hl [0, 1, 2, 3, 4] rfl
    have hl : lv_has ls 5 [(4, .int (nI 1)), (3, .int (nI (rg_near (r_dTo xs ys x y) 1))), (0, .ref h), (1, .int x), (2, .int y)] := by
      have e9 : [(4, .int 1), (3, .int 0), (0, .ref h), (1, .int x), (2, .int y)] = ([(4, .int (nI 1)), (3, .int (nI (rg_near (r_dTo xs ys x y) 1))), (0, .ref h), (1, .int x), (2, .int y)] : List (Nat × Value)) := by rfl
      rw [← e9]; exact hl
    exact hL24 _ 1 (Nat.lt_succ_self _) (by omega) (by omega) _ hl
  · refine lv_aload_n hx hb dX2_nearest_13 rfl (lv_at hl 0 rfl) ?_
    refine lv_iconst (v := 1) hx hb dX2_nearest_14 (by decide) ?_
    refine wx_cVi (As := [.int 1]) (rest := []) F (c_X2_fail l dC dI cI cZ cY h qx qy qh qt qs rw 0 n xs ys hs t tb sg fl 1 H.size) (cwV 1 hts gX2_nearest_X2_fail rfl rfl rfl hd_X2_fail ⟨Nat.le_of_ble_eq_true rfl, Nat.le_of_ble_eq_true rfl⟩) hP hK hD hS hA (va_recv hK hP (ci := 2) (q0 := 0) rfl rfl) rfl hl.1 rfl (lv_room (Nat.le_of_ble_eq_true rfl)) dX2_nearest_15 ⟨Nat.zero_le _, Nat.zero_le _⟩ (fun H locs hP hD hS => ?_)
    have hP : va_P (dC, dI) vwCl (wR cI cZ cY h qx qy qh qt qs rw 1 n xs ys hs t tb sg fl) H := hP
    have hD : va_D A (wR cI cZ cY h qx qy qh qt qs rw 1 n xs ys hs t tb sg fl) := hD
    have e_th : (r_b1 (r_isPlace x y) 0 1 : Int32) = 1 := by simp only [r_b1, c_1]; rfl
    have hP : va_P (dC, dI) vwCl (wR cI cZ cY h qx qy qh qt qs rw (r_b1 (r_isPlace x y) 0 1) n xs ys hs t tb sg fl) H := by rw [e_th]; exact hP
    have hD : va_D A (wR cI cZ cY h qx qy qh qt qs rw (r_b1 (r_isPlace x y) 0 1) n xs ys hs t tb sg fl) := by rw [e_th]; exact hD
    exact wr_iret hx hb hr hlocks (by simp only [r_b1, c_1]; rfl) hP hK hD hS dX2_nearest_18
theorem hd_X2_circles : yX2_circles.cls = RX2 ∧ yX2_circles.cls ≠ "java/lang/invoke/MethodHandle" ∧ yX2_circles.cls ≠ "java/lang/invoke/VarHandle" ∧ (parseMethodDescriptor yX2_circles.desc).map (fun d => d.parameters.length) = some 2 := by decide +kernel
theorem in_X2_circles_X2 : ∀ w ∈ wsX20, w ∈ wsX2_circles := by decide +kernel
theorem fl_X2_circles_35 : (Cond.fieldLink RX2 35 "MoorTrianglesModel" "thrown" "I") ∈ wsX2_circles := by decide +kernel
theorem fl_X2_circles_55 : (Cond.fieldLink RX2 55 "MoorTrianglesModel" "triangles" "I") ∈ wsX2_circles := by decide +kernel
set_option maxHeartbeats 4000000 in
set_option maxRecDepth 100000 in
theorem c_X2_circles (l : Launch) (dC : Nat → ClassId) (dI : Nat → Nat → Nat) (cI cZ cY : ClassId) (h qx qy qh qt qs : Nat) (rw : Nat → Nat) (th : Int32) (n : Nat) (xs ys hs : Nat → Int32) (t : Nat) (tb : Nat → Int32) (sg : Nat → Nat → Int32) (fl : Int32) (x : Int32) (y : Int32) (sz : Nat) (ht : t ≤ 36) (hok : r_okT t tb) : Met l yX2_circles wsX2_circles ({ frames := 2, cells := 0, slots := 0, locals := 56 }) (va_Pc [.ref h, .int x, .int y] (wrP (dC, dI) (gTY cI cZ cY) (wR cI cZ cY h qx qy qh qt qs rw th n xs ys hs t tb sg fl) sz)) (wrQi (dC, dI) (gTY cI cZ cY) (r_b1 (r_isPlace x y) (nI (rg_ct (r_pCirc xs ys tb x y) t)) 0) (wR cI cZ cY h qx qy qh qt qs rw (r_b1 (r_isPlace x y) 0 1) n xs ys hs t tb sg fl) (va_A (wR cI cZ cY h qx qy qh qt qs rw th n xs ys hs t tb sg fl) sz)) 0 0 (va_A (wR cI cZ cY h qx qy qh qt qs rw th n xs ys hs t tb sg fl) sz) := by
  refine wr_start (cc := cX2_circles) (maxL := 5) (ret := (some .int)) (Q0 := wrQi (dC, dI) (gTY cI cZ cY) (r_b1 (r_isPlace x y) (nI (rg_ct (r_pCirc xs ys tb x y) t)) 0) (wR cI cZ cY h qx qy qh qt qs rw (r_b1 (r_isPlace x y) 0 1) n xs ys hs t tb sg fl)) RX2 (by decide) rfl rfl (Nat.le_of_ble_eq_true rfl) ?_
  intro p e s m below meth c ⟨hx, hb, hr, hml, hown, hts, hlocks, hin⟩ hP hK A hD hA hS ls hl
  have F : CallFix p m c cX2_circles 5 s ([.ref h, .int x, .int y] : List Value).toArray wsX2_circles RX2 := ⟨hx, hb, hml, hown, hts⟩
  have hl : lv_has ls 5 [(0, .ref h), (1, .int x), (2, .int y)] := hl
  refine lv_aload_n hx hb dX2_circles_0 rfl (lv_at hl 0 rfl) ?_
  refine lv_iconst (v := 0) hx hb dX2_circles_1 (by decide) ?_
  refine va_put (D := (dC, dI)) (ci := 2) (v := .int 0) (ty := .int) (C := RX2) (T := TX2) (N := 9) hx hb hts in_X2_circles_X2 tyX2 tyX2_ok nmX2 hown hK hP hD hS 0 rfl rfl 0 (by decide) (hts (.fieldLink RX2 35 "MoorTrianglesModel" "thrown" "I") fl_X2_circles_35) (fun _ h9 => h9) rfl (by decide +kernel) rfl rfl (Nat.le_of_ble_eq_true rfl) dX2_circles_2 (fun H locs hP hD hS => ?_)
  have hP : va_P (dC, dI) vwCl (wR cI cZ cY h qx qy qh qt qs rw 0 n xs ys hs t tb sg fl) H := hP
  have hD : va_D A (wR cI cZ cY h qx qy qh qt qs rw 0 n xs ys hs t tb sg fl) := hD
  refine lv_iload_n hx hb dX2_circles_5 rfl (lv_at hl 1 rfl) ?_
  refine lv_iload_n hx hb dX2_circles_6 rfl (lv_at hl 2 rfl) ?_
  refine rd_cSi (As := [.int x, .int y]) (rest := []) F (c_X2_isPlace l dC dI cI cZ cY x y) (cwS 2 hts gX2_circles_X2_isPlace rfl rfl rfl hd_X2_isPlace ⟨Nat.le_of_ble_eq_true rfl, Nat.le_of_ble_eq_true rfl⟩) va_P0 hK rfl hl.1 rfl (lv_room (Nat.le_of_ble_eq_true rfl)) dX2_circles_7 ⟨Nat.zero_le _, Nat.zero_le _⟩ ?_
  refine lv_if_neB (tgt := 19) hx hb dX2_circles_10 (by decide) (fun c_1 => ?_) (fun c_1 => ?_)
  · refine lv_iconst (v := 0) hx hb dX2_circles_19 (by decide) ?_
    refine lv_istore_n (lv' := [(3, .int 0), (0, .ref h), (1, .int x), (2, .int y)]) hx hb dX2_circles_20 rfl hl (by decide) rfl (fun ls hl => ?_)
    refine lv_iconst (v := 0) hx hb dX2_circles_21 (by decide) ?_
    refine lv_istore (lv' := [(4, .int 0), (3, .int 0), (0, .ref h), (1, .int x), (2, .int y)]) hx hb dX2_circles_22 hl (by decide) rfl (fun ls hl => ?_)
    have hL24 : ∀ (k_2 : Nat) (i : Nat), (t - i) < k_2 → (i ≤ t) → ∀ ls : Array Slot, lv_has ls 5 [(4, .int (nI i)), (3, .int (nI (rg_ct (r_pCirc xs ys tb x y) i))), (0, .ref h), (1, .int x), (2, .int y)] → W p l e ({ frames := 2, cells := 0, slots := 0, locals := 56 } : Room) s m ([.ref h, .int x, .int y] : List Value).toArray below meth c H locs 0 0 (MQ below (wrQi (dC, dI) (gTY cI cZ cY) (r_b1 (r_isPlace x y) (nI (rg_ct (r_pCirc xs ys tb x y) t)) 0) (wR cI cZ cY h qx qy qh qt qs rw (r_b1 (r_isPlace x y) 0 1) n xs ys hs t tb sg fl) A) ([.ref h, .int x, .int y] : List Value).toArray s 0 0 A) (F0 m 24 ls []) := by
      intro k_2
      induction k_2 with
      | zero => intro i hk; exact absurd hk (Nat.not_lt_zero _)
      | succ k_2 ih_3 =>
        intro i hk_24 hi_i ls hl
        refine lv_iload hx hb dX2_circles_24 (lv_at hl 0 rfl) ?_
        refine lv_aload_n hx hb dX2_circles_26 rfl (lv_at hl 2 rfl) ?_
        refine va_get (D := (dC, dI)) (ci := 2) (v := .int (nI t)) (C := RX2) (T := TX2) (N := 9) hx hb hts in_X2_circles_X2 hown hK hP 0 rfl rfl 5 (by decide) (hts (.fieldLink RX2 55 "MoorTrianglesModel" "triangles" "I") fl_X2_circles_55) (fun _ h9 => h9) rfl dX2_circles_27 ?_
        refine lv_icmp_ge (tgt := 77) hx hb dX2_circles_30 (by decide) (fun c_4 => ?_) (fun c_4 => ?_)
        · have hge_i : t ≤ i := nI_le_le (by omega) (by omega) c_4
          have heq_i : i = t := by omega
          have hl : lv_has ls 5 [(4, .int (nI t)), (3, .int (nI (rg_ct (r_pCirc xs ys tb x y) t))), (0, .ref h), (1, .int x), (2, .int y)] := by rw [heq_i] at hl; exact hl
          refine lv_iload_n hx hb dX2_circles_77 rfl (lv_at hl 1 rfl) ?_
          have e_th : (r_b1 (r_isPlace x y) 0 1 : Int32) = 0 := by simp only [r_b1, c_1]; rfl
          have hP : va_P (dC, dI) vwCl (wR cI cZ cY h qx qy qh qt qs rw (r_b1 (r_isPlace x y) 0 1) n xs ys hs t tb sg fl) H := by rw [e_th]; exact hP
          have hD : va_D A (wR cI cZ cY h qx qy qh qt qs rw (r_b1 (r_isPlace x y) 0 1) n xs ys hs t tb sg fl) := by rw [e_th]; exact hD
          exact wr_iret hx hb hr hlocks (by simp only [r_b1, c_1]; rfl) hP hK hD hS dX2_circles_78
        · have hlt_i : i < t := nI_nle_lt (by omega) (by omega) c_4
          refine lv_iload_n hx hb dX2_circles_33 rfl (lv_at hl 1 rfl) ?_
          refine lv_aload_n hx hb dX2_circles_34 rfl (lv_at hl 2 rfl) ?_
          refine lv_aload_n hx hb dX2_circles_35 rfl (lv_at hl 2 rfl) ?_
          refine lv_iload hx hb dX2_circles_36 (lv_at hl 0 rfl) ?_
          refine lv_iconst (v := 0) hx hb dX2_circles_38 (by decide) ?_
          refine rd_cVi (As := [.int (nI i), .int 0]) (rest := [.ref h, .int (nI (rg_ct (r_pCirc xs ys tb x y) i))]) F (c_X2_corner l dC dI cI cZ cY h qx qy qh qt qs rw 0 n xs ys hs t tb sg fl (nI i) 0 (vp_in_nI (by omega) (by decide))) (cwV 2 hts gX2_circles_X2_corner rfl rfl rfl hd_X2_corner ⟨Nat.le_of_ble_eq_true rfl, Nat.le_of_ble_eq_true rfl⟩) hP hK (va_recv hK hP (ci := 2) (q0 := 0) rfl rfl) rfl hl.1 rfl (lv_room (Nat.le_of_ble_eq_true rfl)) dX2_circles_39 ⟨Nat.zero_le _, Nat.zero_le _⟩ ?_
          refine lv_aload_n hx hb dX2_circles_42 rfl (lv_at hl 2 rfl) ?_
          refine lv_iload hx hb dX2_circles_43 (lv_at hl 0 rfl) ?_
          refine lv_iconst (v := 1) hx hb dX2_circles_45 (by decide) ?_
          refine rd_cVi (As := [.int (nI i), .int 1]) (rest := [.int (r_corner tb (nI i) 0), .ref h, .int (nI (rg_ct (r_pCirc xs ys tb x y) i))]) F (c_X2_corner l dC dI cI cZ cY h qx qy qh qt qs rw 0 n xs ys hs t tb sg fl (nI i) 1 (vp_in_nI (by omega) (by decide))) (cwV 2 hts gX2_circles_X2_corner rfl rfl rfl hd_X2_corner ⟨Nat.le_of_ble_eq_true rfl, Nat.le_of_ble_eq_true rfl⟩) hP hK (va_recv hK hP (ci := 2) (q0 := 0) rfl rfl) rfl hl.1 rfl (lv_room (Nat.le_of_ble_eq_true rfl)) dX2_circles_46 ⟨Nat.zero_le _, Nat.zero_le _⟩ ?_
          refine lv_aload_n hx hb dX2_circles_49 rfl (lv_at hl 2 rfl) ?_
          refine lv_iload hx hb dX2_circles_50 (lv_at hl 0 rfl) ?_
          refine lv_iconst (v := 2) hx hb dX2_circles_52 (by decide) ?_
          refine rd_cVi (As := [.int (nI i), .int 2]) (rest := [.int (r_corner tb (nI i) 1), .int (r_corner tb (nI i) 0), .ref h, .int (nI (rg_ct (r_pCirc xs ys tb x y) i))]) F (c_X2_corner l dC dI cI cZ cY h qx qy qh qt qs rw 0 n xs ys hs t tb sg fl (nI i) 2 (vp_in_nI (by omega) (by decide))) (cwV 2 hts gX2_circles_X2_corner rfl rfl rfl hd_X2_corner ⟨Nat.le_of_ble_eq_true rfl, Nat.le_of_ble_eq_true rfl⟩) hP hK (va_recv hK hP (ci := 2) (q0 := 0) rfl rfl) rfl hl.1 rfl (lv_room (Nat.le_of_ble_eq_true rfl)) dX2_circles_53 ⟨Nat.zero_le _, Nat.zero_le _⟩ ?_
          refine lv_iload_n hx hb dX2_circles_56 rfl (lv_at hl 3 rfl) ?_
          refine lv_iload_n hx hb dX2_circles_57 rfl (lv_at hl 4 rfl) ?_
          refine rd_cVi (As := [.int (r_corner tb (nI i) 0), .int (r_corner tb (nI i) 1), .int (r_corner tb (nI i) 2), .int x, .int y]) (rest := [.int (nI (rg_ct (r_pCirc xs ys tb x y) i))]) F (c_X2_isWithin l dC dI cI cZ cY h qx qy qh qt qs rw 0 n xs ys hs t tb sg fl (r_corner tb (nI i) 0) (r_corner tb (nI i) 1) (r_corner tb (nI i) 2) x y (hok i hlt_i).1 (hok i hlt_i).2.1 (hok i hlt_i).2.2) (cwV 5 hts gX2_circles_X2_isWithin rfl rfl rfl hd_X2_isWithin ⟨Nat.le_of_ble_eq_true rfl, Nat.le_of_ble_eq_true rfl⟩) hP hK (va_recv hK hP (ci := 2) (q0 := 0) rfl rfl) rfl hl.1 rfl (lv_room (Nat.le_of_ble_eq_true rfl)) dX2_circles_58 ⟨Nat.zero_le _, Nat.zero_le _⟩ ?_
          refine lv_if_eqB (tgt := 68) hx hb dX2_circles_61 (by decide) (fun c_5 => ?_) (fun c_5 => ?_)
          · refine lv_iconst (v := 0) hx hb dX2_circles_68 (by decide) ?_
            refine lv_iadd hx hb dX2_circles_69 ?_
            refine lv_cvi (Int32.add_zero _) ?_
            refine lv_istore_n (lv' := [(3, .int (nI (rg_ct (r_pCirc xs ys tb x y) i))), (4, .int (nI i)), (0, .ref h), (1, .int x), (2, .int y)]) hx hb dX2_circles_70 rfl hl (by decide) rfl (fun ls hl => ?_)
            refine lv_iinc (v := nI (i + 1)) (lv' := [(4, .int (nI (i + 1))), (3, .int (nI (rg_ct (r_pCirc xs ys tb x y) i))), (0, .ref h), (1, .int x), (2, .int y)]) hx hb dX2_circles_71 hl (k := 1) rfl (nI_1 _) (by decide) rfl (fun ls hl => ?_)
            refine lv_goto (tgt := 24) hx hb dX2_circles_74 (by decide) ?_
            have hl := lv_sub (l' := [(4, .int (nI (i + 1))), (3, .int (nI (rg_ct (r_pCirc xs ys tb x y) i))), (0, .ref h), (1, .int x), (2, .int y)]) hl [0, 1, 2, 3, 4] rfl
            have hl : lv_has ls 5 [(4, .int (nI (i + 1))), (3, .int (nI (rg_ct (r_pCirc xs ys tb x y) (i + 1)))), (0, .ref h), (1, .int x), (2, .int y)] := by
              have e9 : [(4, .int (nI (i + 1))), (3, .int (nI (rg_ct (r_pCirc xs ys tb x y) i))), (0, .ref h), (1, .int x), (2, .int y)] = ([(4, .int (nI (i + 1))), (3, .int (nI (rg_ct (r_pCirc xs ys tb x y) (i + 1)))), (0, .ref h), (1, .int x), (2, .int y)] : List (Nat × Value)) := by rw [rg_ct_f (show r_pCirc xs ys tb x y i = false from c_5)]
              rw [← e9]; exact hl
            exact ih_3 (i + 1) (by omega) (by omega) _ hl
          · refine lv_iconst (v := 1) hx hb dX2_circles_64 (by decide) ?_
            refine lv_goto (tgt := 69) hx hb dX2_circles_65 (by decide) ?_
            refine lv_iadd hx hb dX2_circles_69 ?_
            refine lv_cvi (nI_1 _) ?_
            refine lv_istore_n (lv' := [(3, .int (nI ((rg_ct (r_pCirc xs ys tb x y) i) + 1))), (4, .int (nI i)), (0, .ref h), (1, .int x), (2, .int y)]) hx hb dX2_circles_70 rfl hl (by decide) rfl (fun ls hl => ?_)
            refine lv_iinc (v := nI (i + 1)) (lv' := [(4, .int (nI (i + 1))), (3, .int (nI ((rg_ct (r_pCirc xs ys tb x y) i) + 1))), (0, .ref h), (1, .int x), (2, .int y)]) hx hb dX2_circles_71 hl (k := 1) rfl (nI_1 _) (by decide) rfl (fun ls hl => ?_)
            refine lv_goto (tgt := 24) hx hb dX2_circles_74 (by decide) ?_
            have hl := lv_sub (l' := [(4, .int (nI (i + 1))), (3, .int (nI ((rg_ct (r_pCirc xs ys tb x y) i) + 1))), (0, .ref h), (1, .int x), (2, .int y)]) hl [0, 1, 2, 3, 4] rfl
            have hl : lv_has ls 5 [(4, .int (nI (i + 1))), (3, .int (nI (rg_ct (r_pCirc xs ys tb x y) (i + 1)))), (0, .ref h), (1, .int x), (2, .int y)] := by
              have e9 : [(4, .int (nI (i + 1))), (3, .int (nI ((rg_ct (r_pCirc xs ys tb x y) i) + 1))), (0, .ref h), (1, .int x), (2, .int y)] = ([(4, .int (nI (i + 1))), (3, .int (nI (rg_ct (r_pCirc xs ys tb x y) (i + 1)))), (0, .ref h), (1, .int x), (2, .int y)] : List (Nat × Value)) := by rw [rg_ct_t (show r_pCirc xs ys tb x y i = true from c_5)]
              rw [← e9]; exact hl
            exact ih_3 (i + 1) (by omega) (by omega) _ hl
    have hl := lv_sub (l' := [(4, .int 0), (3, .int 0), (0, .ref h), (1, .int x), (2, .int y)]) hl [0, 1, 2, 3, 4] rfl
    have hl : lv_has ls 5 [(4, .int (nI 0)), (3, .int (nI (rg_ct (r_pCirc xs ys tb x y) 0))), (0, .ref h), (1, .int x), (2, .int y)] := by
      have e9 : [(4, .int 0), (3, .int 0), (0, .ref h), (1, .int x), (2, .int y)] = ([(4, .int (nI 0)), (3, .int (nI (rg_ct (r_pCirc xs ys tb x y) 0))), (0, .ref h), (1, .int x), (2, .int y)] : List (Nat × Value)) := by rfl
      rw [← e9]; exact hl
    exact hL24 _ 0 (Nat.lt_succ_self _) (by omega) _ hl
  · refine lv_aload_n hx hb dX2_circles_13 rfl (lv_at hl 0 rfl) ?_
    refine lv_iconst (v := 1) hx hb dX2_circles_14 (by decide) ?_
    refine wx_cVi (As := [.int 1]) (rest := []) F (c_X2_fail l dC dI cI cZ cY h qx qy qh qt qs rw 0 n xs ys hs t tb sg fl 1 H.size) (cwV 1 hts gX2_circles_X2_fail rfl rfl rfl hd_X2_fail ⟨Nat.le_of_ble_eq_true rfl, Nat.le_of_ble_eq_true rfl⟩) hP hK hD hS hA (va_recv hK hP (ci := 2) (q0 := 0) rfl rfl) rfl hl.1 rfl (lv_room (Nat.le_of_ble_eq_true rfl)) dX2_circles_15 ⟨Nat.zero_le _, Nat.zero_le _⟩ (fun H locs hP hD hS => ?_)
    have hP : va_P (dC, dI) vwCl (wR cI cZ cY h qx qy qh qt qs rw 1 n xs ys hs t tb sg fl) H := hP
    have hD : va_D A (wR cI cZ cY h qx qy qh qt qs rw 1 n xs ys hs t tb sg fl) := hD
    have e_th : (r_b1 (r_isPlace x y) 0 1 : Int32) = 1 := by simp only [r_b1, c_1]; rfl
    have hP : va_P (dC, dI) vwCl (wR cI cZ cY h qx qy qh qt qs rw (r_b1 (r_isPlace x y) 0 1) n xs ys hs t tb sg fl) H := by rw [e_th]; exact hP
    have hD : va_D A (wR cI cZ cY h qx qy qh qt qs rw (r_b1 (r_isPlace x y) 0 1) n xs ys hs t tb sg fl) := by rw [e_th]; exact hD
    exact wr_iret hx hb hr hlocks (by simp only [r_b1, c_1]; rfl) hP hK hD hS dX2_circles_18
theorem hd_X2_raise : yX2_raise.cls = RX2 ∧ yX2_raise.cls ≠ "java/lang/invoke/MethodHandle" ∧ yX2_raise.cls ≠ "java/lang/invoke/VarHandle" ∧ (parseMethodDescriptor yX2_raise.desc).map (fun d => d.parameters.length) = some 2 := by decide +kernel
theorem in_X2_raise_X2 : ∀ w ∈ wsX20, w ∈ wsX2_raise := by decide +kernel
theorem fl_X2_raise_35 : (Cond.fieldLink RX2 35 "MoorTrianglesModel" "thrown" "I") ∈ wsX2_raise := by decide +kernel
theorem fl_X2_raise_20 : (Cond.fieldLink RX2 20 "MoorTrianglesModel" "heights" "[I") ∈ wsX2_raise := by decide +kernel
set_option maxHeartbeats 4000000 in
set_option maxRecDepth 100000 in
theorem c_X2_raise (l : Launch) (dC : Nat → ClassId) (dI : Nat → Nat → Nat) (cI cZ cY : ClassId) (h qx qy qh qt qs : Nat) (rw : Nat → Nat) (th : Int32) (n : Nat) (xs ys hs : Nat → Int32) (t : Nat) (tb : Nat → Int32) (sg : Nat → Nat → Int32) (fl : Int32) (a : Int32) (w : Int32) (sz : Nat) (hn : n ≤ 17) (hn1 : 1 ≤ n) : Met l yX2_raise wsX2_raise ({ frames := 2, cells := 0, slots := 0, locals := 43 }) (va_Pc [.ref h, .int a, .int w] (wrP (dC, dI) (gTY cI cZ cY) (wR cI cZ cY h qx qy qh qt qs rw th n xs ys hs t tb sg fl) sz)) (wrQi (dC, dI) (gTY cI cZ cY) (r_b2 (r_isIn a 0 (nI n - 1)) (r_isIn w 0 99) (hs a.toNatClampNeg) 0) (wR cI cZ cY h qx qy qh qt qs rw (r_b1 (r_isIn a 0 (nI n - 1)) (r_b1 (r_isIn w 0 99) 0 2) 1) n xs ys (r_b2 (r_isIn a 0 (nI n - 1)) (r_isIn w 0 99) (upd hs a.toNatClampNeg w) hs) t tb sg fl) (va_A (wR cI cZ cY h qx qy qh qt qs rw th n xs ys hs t tb sg fl) sz)) 0 0 (va_A (wR cI cZ cY h qx qy qh qt qs rw th n xs ys hs t tb sg fl) sz) := by
  refine wr_start (cc := cX2_raise) (maxL := 4) (ret := (some .int)) (Q0 := wrQi (dC, dI) (gTY cI cZ cY) (r_b2 (r_isIn a 0 (nI n - 1)) (r_isIn w 0 99) (hs a.toNatClampNeg) 0) (wR cI cZ cY h qx qy qh qt qs rw (r_b1 (r_isIn a 0 (nI n - 1)) (r_b1 (r_isIn w 0 99) 0 2) 1) n xs ys (r_b2 (r_isIn a 0 (nI n - 1)) (r_isIn w 0 99) (upd hs a.toNatClampNeg w) hs) t tb sg fl)) RX2 (by decide) rfl rfl (Nat.le_of_ble_eq_true rfl) ?_
  intro p e s m below meth c ⟨hx, hb, hr, hml, hown, hts, hlocks, hin⟩ hP hK A hD hA hS ls hl
  have F : CallFix p m c cX2_raise 4 s ([.ref h, .int a, .int w] : List Value).toArray wsX2_raise RX2 := ⟨hx, hb, hml, hown, hts⟩
  have hl : lv_has ls 4 [(0, .ref h), (1, .int a), (2, .int w)] := hl
  refine lv_aload_n hx hb dX2_raise_0 rfl (lv_at hl 0 rfl) ?_
  refine lv_iconst (v := 0) hx hb dX2_raise_1 (by decide) ?_
  refine va_put (D := (dC, dI)) (ci := 2) (v := .int 0) (ty := .int) (C := RX2) (T := TX2) (N := 9) hx hb hts in_X2_raise_X2 tyX2 tyX2_ok nmX2 hown hK hP hD hS 0 rfl rfl 0 (by decide) (hts (.fieldLink RX2 35 "MoorTrianglesModel" "thrown" "I") fl_X2_raise_35) (fun _ h9 => h9) rfl (by decide +kernel) rfl rfl (Nat.le_of_ble_eq_true rfl) dX2_raise_2 (fun H locs hP hD hS => ?_)
  have hP : va_P (dC, dI) vwCl (wR cI cZ cY h qx qy qh qt qs rw 0 n xs ys hs t tb sg fl) H := hP
  have hD : va_D A (wR cI cZ cY h qx qy qh qt qs rw 0 n xs ys hs t tb sg fl) := hD
  refine lv_aload_n hx hb dX2_raise_5 rfl (lv_at hl 0 rfl) ?_
  refine lv_iload_n hx hb dX2_raise_6 rfl (lv_at hl 1 rfl) ?_
  refine rd_cVi (As := [.int a]) (rest := []) F (c_X2_isCairn l dC dI cI cZ cY h qx qy qh qt qs rw 0 n xs ys hs t tb sg fl a) (cwV 1 hts gX2_raise_X2_isCairn rfl rfl rfl hd_X2_isCairn ⟨Nat.le_of_ble_eq_true rfl, Nat.le_of_ble_eq_true rfl⟩) hP hK (va_recv hK hP (ci := 2) (q0 := 0) rfl rfl) rfl hl.1 rfl (lv_room (Nat.le_of_ble_eq_true rfl)) dX2_raise_7 ⟨Nat.zero_le _, Nat.zero_le _⟩ ?_
  refine lv_if_neB (tgt := 19) hx hb dX2_raise_10 (by decide) (fun c_1 => ?_) (fun c_1 => ?_)
  · refine lv_iload_n hx hb dX2_raise_19 rfl (lv_at hl 2 rfl) ?_
    refine lv_iconst (v := 0) hx hb dX2_raise_20 (by decide) ?_
    refine lv_bipush (v := 99) hx hb dX2_raise_21 (by decide) ?_
    refine rd_cSi (As := [.int w, .int 0, .int 99]) (rest := []) F (c_X2_isIn l dC dI cI cZ cY w 0 99) (cwS 3 hts gX2_raise_X2_isIn rfl rfl rfl hd_X2_isIn ⟨Nat.le_of_ble_eq_true rfl, Nat.le_of_ble_eq_true rfl⟩) va_P0 hK rfl hl.1 rfl (lv_room (Nat.le_of_ble_eq_true rfl)) dX2_raise_23 ⟨Nat.zero_le _, Nat.zero_le _⟩ ?_
    refine lv_if_neB (tgt := 35) hx hb dX2_raise_26 (by decide) (fun c_2 => ?_) (fun c_2 => ?_)
    · refine lv_aload_n hx hb dX2_raise_35 rfl (lv_at hl 0 rfl) ?_
      refine va_get (D := (dC, dI)) (ci := 2) (v := .ref qh) (C := RX2) (T := TX2) (N := 9) hx hb hts in_X2_raise_X2 hown hK hP 0 rfl rfl 4 (by decide) (hts (.fieldLink RX2 20 "MoorTrianglesModel" "heights" "[I") fl_X2_raise_20) (fun _ h9 => h9) rfl dX2_raise_36 ?_
      refine lv_iload_n hx hb dX2_raise_39 rfl (lv_at hl 1 rfl) ?_
      refine va_iald (D := (dC, dI)) hx hb hK hP 3 0 rfl rfl (in_isIn hn hn1 c_1) dX2_raise_40 ?_
      refine lv_istore_n (lv' := [(3, .int (hs a.toNatClampNeg)), (0, .ref h), (1, .int a), (2, .int w)]) hx hb dX2_raise_41 rfl hl (by decide) rfl (fun ls hl => ?_)
      refine lv_aload_n hx hb dX2_raise_42 rfl (lv_at hl 1 rfl) ?_
      refine va_get (D := (dC, dI)) (ci := 2) (v := .ref qh) (C := RX2) (T := TX2) (N := 9) hx hb hts in_X2_raise_X2 hown hK hP 0 rfl rfl 4 (by decide) (hts (.fieldLink RX2 20 "MoorTrianglesModel" "heights" "[I") fl_X2_raise_20) (fun _ h9 => h9) rfl dX2_raise_43 ?_
      refine lv_iload_n hx hb dX2_raise_46 rfl (lv_at hl 2 rfl) ?_
      refine lv_iload_n hx hb dX2_raise_47 rfl (lv_at hl 3 rfl) ?_
      refine va_iast (D := (dC, dI)) hx hb hK hP hD hS 3 0 rfl rfl (in_isIn hn hn1 c_1) dX2_raise_48 (fun H locs hP hD hS => ?_)
      have hP : va_P (dC, dI) vwCl (wR cI cZ cY h qx qy qh qt qs rw 0 n xs ys (upd hs a.toNatClampNeg w) t tb sg fl) H := hP
      have hD : va_D A (wR cI cZ cY h qx qy qh qt qs rw 0 n xs ys (upd hs a.toNatClampNeg w) t tb sg fl) := hD
      refine lv_iload_n hx hb dX2_raise_49 rfl (lv_at hl 0 rfl) ?_
      have e_th : (r_b1 (r_isIn a 0 (nI n - 1)) (r_b1 (r_isIn w 0 99) 0 2) 1 : Int32) = 0 := by first | (simp only [r_b1, r_b2, c_1, c_2]; done) | (simp only [r_b1, r_b2, c_1, c_2]; rfl) | (simp [r_b1, r_b2, c_1, c_2]; done)
      have e_hs : (r_b2 (r_isIn a 0 (nI n - 1)) (r_isIn w 0 99) (upd hs a.toNatClampNeg w) hs : Nat → Int32) = (upd hs a.toNatClampNeg w) := by first | (simp only [r_b1, r_b2, c_1, c_2]; done) | (simp only [r_b1, r_b2, c_1, c_2]; rfl) | (simp [r_b1, r_b2, c_1, c_2]; done)
      have hP : va_P (dC, dI) vwCl (wR cI cZ cY h qx qy qh qt qs rw (r_b1 (r_isIn a 0 (nI n - 1)) (r_b1 (r_isIn w 0 99) 0 2) 1) n xs ys (r_b2 (r_isIn a 0 (nI n - 1)) (r_isIn w 0 99) (upd hs a.toNatClampNeg w) hs) t tb sg fl) H := by rw [e_th, e_hs]; exact hP
      have hD : va_D A (wR cI cZ cY h qx qy qh qt qs rw (r_b1 (r_isIn a 0 (nI n - 1)) (r_b1 (r_isIn w 0 99) 0 2) 1) n xs ys (r_b2 (r_isIn a 0 (nI n - 1)) (r_isIn w 0 99) (upd hs a.toNatClampNeg w) hs) t tb sg fl) := by rw [e_th, e_hs]; exact hD
      exact wr_iret hx hb hr hlocks (by first | (simp only [r_b1, r_b2, c_1, c_2]; done) | (simp only [r_b1, r_b2, c_1, c_2]; rfl) | (simp [r_b1, r_b2, c_1, c_2]; done)) hP hK hD hS dX2_raise_50
    · refine lv_aload_n hx hb dX2_raise_29 rfl (lv_at hl 0 rfl) ?_
      refine lv_iconst (v := 2) hx hb dX2_raise_30 (by decide) ?_
      refine wx_cVi (As := [.int 2]) (rest := []) F (c_X2_fail l dC dI cI cZ cY h qx qy qh qt qs rw 0 n xs ys hs t tb sg fl 2 H.size) (cwV 1 hts gX2_raise_X2_fail rfl rfl rfl hd_X2_fail ⟨Nat.le_of_ble_eq_true rfl, Nat.le_of_ble_eq_true rfl⟩) hP hK hD hS hA (va_recv hK hP (ci := 2) (q0 := 0) rfl rfl) rfl hl.1 rfl (lv_room (Nat.le_of_ble_eq_true rfl)) dX2_raise_31 ⟨Nat.zero_le _, Nat.zero_le _⟩ (fun H locs hP hD hS => ?_)
      have hP : va_P (dC, dI) vwCl (wR cI cZ cY h qx qy qh qt qs rw 2 n xs ys hs t tb sg fl) H := hP
      have hD : va_D A (wR cI cZ cY h qx qy qh qt qs rw 2 n xs ys hs t tb sg fl) := hD
      have e_th : (r_b1 (r_isIn a 0 (nI n - 1)) (r_b1 (r_isIn w 0 99) 0 2) 1 : Int32) = 2 := by first | (simp only [r_b1, r_b2, c_1, c_2]; done) | (simp only [r_b1, r_b2, c_1, c_2]; rfl) | (simp [r_b1, r_b2, c_1, c_2]; done)
      have e_hs : (r_b2 (r_isIn a 0 (nI n - 1)) (r_isIn w 0 99) (upd hs a.toNatClampNeg w) hs : Nat → Int32) = hs := by first | (simp only [r_b1, r_b2, c_1, c_2]; done) | (simp only [r_b1, r_b2, c_1, c_2]; rfl) | (simp [r_b1, r_b2, c_1, c_2]; done)
      have hP : va_P (dC, dI) vwCl (wR cI cZ cY h qx qy qh qt qs rw (r_b1 (r_isIn a 0 (nI n - 1)) (r_b1 (r_isIn w 0 99) 0 2) 1) n xs ys (r_b2 (r_isIn a 0 (nI n - 1)) (r_isIn w 0 99) (upd hs a.toNatClampNeg w) hs) t tb sg fl) H := by rw [e_th, e_hs]; exact hP
      have hD : va_D A (wR cI cZ cY h qx qy qh qt qs rw (r_b1 (r_isIn a 0 (nI n - 1)) (r_b1 (r_isIn w 0 99) 0 2) 1) n xs ys (r_b2 (r_isIn a 0 (nI n - 1)) (r_isIn w 0 99) (upd hs a.toNatClampNeg w) hs) t tb sg fl) := by rw [e_th, e_hs]; exact hD
      exact wr_iret hx hb hr hlocks (by first | (simp only [r_b1, r_b2, c_1, c_2]; done) | (simp only [r_b1, r_b2, c_1, c_2]; rfl) | (simp [r_b1, r_b2, c_1, c_2]; done)) hP hK hD hS dX2_raise_34
  · refine lv_aload_n hx hb dX2_raise_13 rfl (lv_at hl 0 rfl) ?_
    refine lv_iconst (v := 1) hx hb dX2_raise_14 (by decide) ?_
    refine wx_cVi (As := [.int 1]) (rest := []) F (c_X2_fail l dC dI cI cZ cY h qx qy qh qt qs rw 0 n xs ys hs t tb sg fl 1 H.size) (cwV 1 hts gX2_raise_X2_fail rfl rfl rfl hd_X2_fail ⟨Nat.le_of_ble_eq_true rfl, Nat.le_of_ble_eq_true rfl⟩) hP hK hD hS hA (va_recv hK hP (ci := 2) (q0 := 0) rfl rfl) rfl hl.1 rfl (lv_room (Nat.le_of_ble_eq_true rfl)) dX2_raise_15 ⟨Nat.zero_le _, Nat.zero_le _⟩ (fun H locs hP hD hS => ?_)
    have hP : va_P (dC, dI) vwCl (wR cI cZ cY h qx qy qh qt qs rw 1 n xs ys hs t tb sg fl) H := hP
    have hD : va_D A (wR cI cZ cY h qx qy qh qt qs rw 1 n xs ys hs t tb sg fl) := hD
    have e_th : (r_b1 (r_isIn a 0 (nI n - 1)) (r_b1 (r_isIn w 0 99) 0 2) 1 : Int32) = 1 := by first | (simp only [r_b1, r_b2, c_1]; done) | (simp only [r_b1, r_b2, c_1]; rfl) | (simp [r_b1, r_b2, c_1]; done)
    have e_hs : (r_b2 (r_isIn a 0 (nI n - 1)) (r_isIn w 0 99) (upd hs a.toNatClampNeg w) hs : Nat → Int32) = hs := by first | (simp only [r_b1, r_b2, c_1]; done) | (simp only [r_b1, r_b2, c_1]; rfl) | (simp [r_b1, r_b2, c_1]; done)
    have hP : va_P (dC, dI) vwCl (wR cI cZ cY h qx qy qh qt qs rw (r_b1 (r_isIn a 0 (nI n - 1)) (r_b1 (r_isIn w 0 99) 0 2) 1) n xs ys (r_b2 (r_isIn a 0 (nI n - 1)) (r_isIn w 0 99) (upd hs a.toNatClampNeg w) hs) t tb sg fl) H := by rw [e_th, e_hs]; exact hP
    have hD : va_D A (wR cI cZ cY h qx qy qh qt qs rw (r_b1 (r_isIn a 0 (nI n - 1)) (r_b1 (r_isIn w 0 99) 0 2) 1) n xs ys (r_b2 (r_isIn a 0 (nI n - 1)) (r_isIn w 0 99) (upd hs a.toNatClampNeg w) hs) t tb sg fl) := by rw [e_th, e_hs]; exact hD
    exact wr_iret hx hb hr hlocks (by first | (simp only [r_b1, r_b2, c_1]; done) | (simp only [r_b1, r_b2, c_1]; rfl) | (simp [r_b1, r_b2, c_1]; done)) hP hK hD hS dX2_raise_18
theorem hd_X2_fix : yX2_fix.cls = RX2 ∧ yX2_fix.cls ≠ "java/lang/invoke/MethodHandle" ∧ yX2_fix.cls ≠ "java/lang/invoke/VarHandle" ∧ (parseMethodDescriptor yX2_fix.desc).map (fun d => d.parameters.length) = some 3 := by decide +kernel
