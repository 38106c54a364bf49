theorem hd_X2_fail : yX2_fail.cls = RX2 ∧ yX2_fail.cls ≠ "java/lang/invoke/MethodHandle" ∧ yX2_fail.cls ≠ "java/lang/invoke/VarHandle" ∧ (parseMethodDescriptor yX2_fail.desc).map (fun d => d.parameters.length) = some 1 := by decide +kernel
theorem in_X2_fail_X2 : ∀ w ∈ wsX20, w ∈ wsX2_fail := by decide +kernel
theorem fl_X2_fail_35 : (Cond.fieldLink RX2 35 "MoorTrianglesModel" "thrown" "I") ∈ wsX2_fail := by decide +kernel
set_option maxHeartbeats 4000000 in
set_option maxRecDepth 100000 in
theorem c_X2_fail (l : Launch) (dC : Nat → ClassId) (dI : Nat → Nat → Nat) (cI cZ cY : ClassId) (h qx qy qh qt qs : Nat) (rw : Nat → Nat) (th : Int32) (n : Nat) (xs ys hs : Nat → Int32) (t : Nat) (tb : Nat → Int32) (sg : Nat → Nat → Int32) (fl : Int32) (k : Int32) (sz : Nat) : Met l yX2_fail wsX2_fail ({ frames := 0, cells := 0, slots := 0, locals := 0 }) (va_Pc [.ref h, .int k] (wrP (dC, dI) (gTY cI cZ cY) (wR cI cZ cY h qx qy qh qt qs rw th n xs ys hs t tb sg fl) sz)) (wrQi (dC, dI) (gTY cI cZ cY) (0) (wR cI cZ cY h qx qy qh qt qs rw k n xs ys hs t tb sg fl) (va_A (wR cI cZ cY h qx qy qh qt qs rw th n xs ys hs t tb sg fl) sz)) 0 0 (va_A (wR cI cZ cY h qx qy qh qt qs rw th n xs ys hs t tb sg fl) sz) := by
  refine wr_start (cc := cX2_fail) (maxL := 2) (ret := (some .int)) (Q0 := wrQi (dC, dI) (gTY cI cZ cY) (0) (wR cI cZ cY h qx qy qh qt qs rw k n xs ys hs t tb sg fl)) RX2 (by decide) rfl rfl (Nat.le_of_ble_eq_true rfl) ?_
  intro p e s m below meth c ⟨hx, hb, hr, hml, hown, hts, hlocks, hin⟩ hP hK A hD hA hS ls hl
  have F : CallFix p m c cX2_fail 2 s ([.ref h, .int k] : List Value).toArray wsX2_fail RX2 := ⟨hx, hb, hml, hown, hts⟩
  have hl : lv_has ls 2 [(0, .ref h), (1, .int k)] := hl
  refine lv_aload_n hx hb dX2_fail_0 rfl (lv_at hl 0 rfl) ?_
  refine lv_iload_n hx hb dX2_fail_1 rfl (lv_at hl 1 rfl) ?_
  refine va_put (D := (dC, dI)) (ci := 2) (v := .int k) (ty := .int) (C := RX2) (T := TX2) (N := 9) hx hb hts in_X2_fail_X2 tyX2 tyX2_ok nmX2 hown hK hP hD hS 0 rfl rfl 0 (by decide) (hts (.fieldLink RX2 35 "MoorTrianglesModel" "thrown" "I") fl_X2_fail_35) (fun _ h9 => h9) rfl (by decide +kernel) rfl rfl (Nat.le_of_ble_eq_true rfl) dX2_fail_2 (fun H locs hP hD hS => ?_)
  have hP : va_P (dC, dI) vwCl (wR cI cZ cY h qx qy qh qt qs rw k n xs ys hs t tb sg fl) H := hP
  have hD : va_D A (wR cI cZ cY h qx qy qh qt qs rw k n xs ys hs t tb sg fl) := hD
  refine lv_iconst (v := 0) hx hb dX2_fail_5 (by decide) ?_
  exact wr_iret hx hb hr hlocks (by rfl) hP hK hD hS dX2_fail_6
theorem hd_X2_let : yX2_let.cls = RX2 ∧ yX2_let.cls ≠ "java/lang/invoke/MethodHandle" ∧ yX2_let.cls ≠ "java/lang/invoke/VarHandle" ∧ (parseMethodDescriptor yX2_let.desc).map (fun d => d.parameters.length) = some 3 := by decide +kernel
theorem in_X2_let_X2 : ∀ w ∈ wsX20, w ∈ wsX2_let := by decide +kernel
theorem fl_X2_let_28 : (Cond.fieldLink RX2 28 "MoorTrianglesModel" "stays" "[[Z") ∈ wsX2_let := by decide +kernel
set_option maxHeartbeats 4000000 in
set_option maxRecDepth 100000 in
theorem c_X2_let (l : Launch) (dC : Nat → ClassId) (dI : Nat → Nat → Nat) (cI cZ cY : ClassId) (h qx qy qh qt qs : Nat) (rw : Nat → Nat) (th : Int32) (n : Nat) (xs ys hs : Nat → Int32) (t : Nat) (tb : Nat → Int32) (sg : Nat → Nat → Int32) (fl : Int32) (a : Int32) (b : Int32) (z : Int32) (sz : Nat) (ia : vp_in a 17) (ib : vp_in b 17) (hz : vp_nar .boolean z = z) : Met l yX2_let wsX2_let ({ frames := 0, cells := 0, slots := 0, locals := 0 }) (va_Pc [.ref h, .int a, .int b, .int z] (wrP (dC, dI) (gTY cI cZ cY) (wR cI cZ cY h qx qy qh qt qs rw th n xs ys hs t tb sg fl) sz)) (wrQv (dC, dI) (gTY cI cZ cY) (wR cI cZ cY h qx qy qh qt qs rw th n xs ys hs t tb (r_let sg a b z) fl) (va_A (wR cI cZ cY h qx qy qh qt qs rw th n xs ys hs t tb sg fl) sz)) 0 0 (va_A (wR cI cZ cY h qx qy qh qt qs rw th n xs ys hs t tb sg fl) sz) := by
  refine wr_start (cc := cX2_let) (maxL := 4) (ret := none) (Q0 := wrQv (dC, dI) (gTY cI cZ cY) (wR cI cZ cY h qx qy qh qt qs rw th n xs ys hs t tb (r_let sg a b z) fl)) RX2 (by decide) rfl rfl (Nat.le_of_ble_eq_true rfl) ?_
  intro p e s m below meth c ⟨hx, hb, hr, hml, hown, hts, hlocks, hin⟩ hP hK A hD hA hS ls hl
  have F : CallFix p m c cX2_let 4 s ([.ref h, .int a, .int b, .int z] : List Value).toArray wsX2_let RX2 := ⟨hx, hb, hml, hown, hts⟩
  have hl : lv_has ls 4 [(0, .ref h), (1, .int a), (2, .int b), (3, .int z)] := hl
  refine lv_aload_n hx hb dX2_let_0 rfl (lv_at hl 0 rfl) ?_
  refine va_get (D := (dC, dI)) (ci := 2) (v := .ref qs) (C := RX2) (T := TX2) (N := 9) hx hb hts in_X2_let_X2 hown hK hP 0 rfl rfl 7 (by decide) (hts (.fieldLink RX2 28 "MoorTrianglesModel" "stays" "[[Z") fl_X2_let_28) (fun _ h9 => h9) rfl dX2_let_1 ?_
  refine lv_iload_n hx hb dX2_let_4 rfl (lv_at hl 1 rfl) ?_
  refine rg_aald (D := (dC, dI)) hx hb hK hP 5 2 rfl rfl ia dX2_let_5 ?_
  refine lv_iload_n hx hb dX2_let_6 rfl (lv_at hl 2 rfl) ?_
  refine lv_iload_n hx hb dX2_let_7 rfl (lv_at hl 3 rfl) ?_
  refine va_zast (D := (dC, dI)) hx hb hK hP hD hS (6 + a.toNatClampNeg) 1 (wR_row (in_lt ia)) rfl ib dX2_let_8 (fun H locs hP hD hS => ?_)
  rw [hz, wR_set (in_lt ia)] at hP hD
  have hP : va_P (dC, dI) vwCl (wR cI cZ cY h qx qy qh qt qs rw th n xs ys hs t tb (r_up sg a.toNatClampNeg (upd (sg a.toNatClampNeg) b.toNatClampNeg z)) fl) H := hP
  have hD : va_D A (wR cI cZ cY h qx qy qh qt qs rw th n xs ys hs t tb (r_up sg a.toNatClampNeg (upd (sg a.toNatClampNeg) b.toNatClampNeg z)) fl) := hD
  refine lv_aload_n hx hb dX2_let_9 rfl (lv_at hl 0 rfl) ?_
  refine va_get (D := (dC, dI)) (ci := 2) (v := .ref qs) (C := RX2) (T := TX2) (N := 9) hx hb hts in_X2_let_X2 hown hK hP 0 rfl rfl 7 (by decide) (hts (.fieldLink RX2 28 "MoorTrianglesModel" "stays" "[[Z") fl_X2_let_28) (fun _ h9 => h9) rfl dX2_let_10 ?_
  refine lv_iload_n hx hb dX2_let_13 rfl (lv_at hl 2 rfl) ?_
  refine rg_aald (D := (dC, dI)) hx hb hK hP 5 2 rfl rfl ib dX2_let_14 ?_
  refine lv_iload_n hx hb dX2_let_15 rfl (lv_at hl 1 rfl) ?_
  refine lv_iload_n hx hb dX2_let_16 rfl (lv_at hl 3 rfl) ?_
  refine va_zast (D := (dC, dI)) hx hb hK hP hD hS (6 + b.toNatClampNeg) 1 (wR_row (in_lt ib)) rfl ia dX2_let_17 (fun H locs hP hD hS => ?_)
  rw [hz, wR_set (in_lt ib)] at hP hD
  have hP : va_P (dC, dI) vwCl (wR cI cZ cY h qx qy qh qt qs rw th n xs ys hs t tb (r_up (r_up sg a.toNatClampNeg (upd (sg a.toNatClampNeg) b.toNatClampNeg z)) b.toNatClampNeg (upd ((r_up sg a.toNatClampNeg (upd (sg a.toNatClampNeg) b.toNatClampNeg z)) b.toNatClampNeg) a.toNatClampNeg z)) fl) H := hP
  have hD : va_D A (wR cI cZ cY h qx qy qh qt qs rw th n xs ys hs t tb (r_up (r_up sg a.toNatClampNeg (upd (sg a.toNatClampNeg) b.toNatClampNeg z)) b.toNatClampNeg (upd ((r_up sg a.toNatClampNeg (upd (sg a.toNatClampNeg) b.toNatClampNeg z)) b.toNatClampNeg) a.toNatClampNeg z)) fl) := hD
  have e_sg : (r_let sg a b z : Nat → Nat → Int32) = (r_up (r_up sg a.toNatClampNeg (upd (sg a.toNatClampNeg) b.toNatClampNeg z)) b.toNatClampNeg (upd ((r_up sg a.toNatClampNeg (upd (sg a.toNatClampNeg) b.toNatClampNeg z)) b.toNatClampNeg) a.toNatClampNeg z)) := by rfl
  have hP : va_P (dC, dI) vwCl (wR cI cZ cY h qx qy qh qt qs rw th n xs ys hs t tb (r_let sg a b z) fl) H := by rw [e_sg]; exact hP
  have hD : va_D A (wR cI cZ cY h qx qy qh qt qs rw th n xs ys hs t tb (r_let sg a b z) fl) := by rw [e_sg]; exact hD
  exact wr_vret hx hb hr hlocks hP hK hD hS dX2_let_18
theorem hd_X2_put : yX2_put.cls = RX2 ∧ yX2_put.cls ≠ "java/lang/invoke/MethodHandle" ∧ yX2_put.cls ≠ "java/lang/invoke/VarHandle" ∧ (parseMethodDescriptor yX2_put.desc).map (fun d => d.parameters.length) = some 3 := by decide +kernel
