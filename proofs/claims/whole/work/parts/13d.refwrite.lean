theorem in_X2_flipped_X2 : ∀ w ∈ wsX20, w ∈ wsX2_flipped := by decide +kernel
theorem fl_X2_flipped_100 : (Cond.fieldLink RX2 100 "MoorTrianglesModel" "flips" "I") ∈ wsX2_flipped := by decide +kernel
theorem ma0_X2_flipped_min : (Cond.methodLink RX2 42 Lib.Math.min.name) ∈ wsX2_flipped := by decide +kernel
theorem ma1_X2_flipped_min : (Cond.static Lib.Math.min.name) ∈ wsX2_flipped := by decide +kernel
theorem ma2_X2_flipped_min : (Cond.initialized "java/lang/Math") ∈ wsX2_flipped := by decide +kernel
theorem ma3_X2_flipped_min : (Cond.code Lib.Math.min.name Lib.Math.min.code 2 (some .int)) ∈ wsX2_flipped := by decide +kernel
theorem ma0_X2_flipped_max : (Cond.methodLink RX2 48 Lib.Math.max.name) ∈ wsX2_flipped := by decide +kernel
theorem ma1_X2_flipped_max : (Cond.static Lib.Math.max.name) ∈ wsX2_flipped := by decide +kernel
theorem ma2_X2_flipped_max : (Cond.initialized "java/lang/Math") ∈ wsX2_flipped := by decide +kernel
theorem ma3_X2_flipped_max : (Cond.code Lib.Math.max.name Lib.Math.max.code 2 (some .int)) ∈ wsX2_flipped := by decide +kernel
set_option maxHeartbeats 4000000 in
set_option maxRecDepth 100000 in
theorem c_X2_flipped (l : Launch) (dC : Nat → ClassId) (dI : Nat → Nat → Nat) (cI cZ cY : ClassId) (h qx qy qh qt qs : Nat) (rw : Nat → Nat) (th : Int32) (n : Nat) (xs ys hs : Nat → Int32) (t : Nat) (tb : Nat → Int32) (sg : Nat → Nat → Int32) (fl : Int32) (a : Int32) (b : Int32) (sz : Nat) (u : Nat) (kc kd : Int32) (hu : u + 1 + 1 ≤ 36) (ia : vp_in a 17) (ib : vp_in b 17) (hkc : r_fr tb a b 1 (u + 1 + 1) = kc) (hkd : r_fr tb a b 0 (u + 1 + 1) = kd) (hfl : r_okFl u tb a b kc kd) : Met l yX2_flipped wsX2_flipped ({ frames := 4, cells := 0, slots := 0, locals := 102 }) (va_Pc [.ref h, .int a, .int b] (wrP (dC, dI) (gTY cI cZ cY) (wR cI cZ cY h qx qy qh qt qs rw th n xs ys hs (u + 1 + 1) tb sg fl) sz)) (wrQi (dC, dI) (gTY cI cZ cY) (16 * min32 kc kd + max32 kc kd) (wR cI cZ cY h qx qy qh qt qs rw th n xs ys hs (u + 1 + 1) (r_flTb u tb a b kc kd) (r_let sg kc kd 0) (fl + 1)) (va_A (wR cI cZ cY h qx qy qh qt qs rw th n xs ys hs (u + 1 + 1) tb sg fl) sz)) 0 0 (va_A (wR cI cZ cY h qx qy qh qt qs rw th n xs ys hs (u + 1 + 1) tb sg fl) sz) := by
  refine wr_start (cc := cX2_flipped) (maxL := 5) (ret := (some .int)) (Q0 := wrQi (dC, dI) (gTY cI cZ cY) (16 * min32 kc kd + max32 kc kd) (wR cI cZ cY h qx qy qh qt qs rw th n xs ys hs (u + 1 + 1) (r_flTb u tb a b kc kd) (r_let sg kc kd 0) (fl + 1))) RX2 (by decide) rfl rfl (Nat.le_of_ble_eq_true rfl) ?_
  intro p e s m below meth c ⟨hx, hb, hr, hml, hown, hts, hlocks, hin⟩ hP hK A hD hA hS ls hl
  have F : CallFix p m c cX2_flipped 5 s ([.ref h, .int a, .int b] : List Value).toArray wsX2_flipped RX2 := ⟨hx, hb, hml, hown, hts⟩
  have hl : lv_has ls 5 [(0, .ref h), (1, .int a), (2, .int b)] := hl
  refine lv_aload_n hx hb dX2_flipped_0 rfl (lv_at hl 0 rfl) ?_
  refine lv_iload_n hx hb dX2_flipped_1 rfl (lv_at hl 1 rfl) ?_
  refine lv_iload_n hx hb dX2_flipped_2 rfl (lv_at hl 2 rfl) ?_
  refine lv_iconst (v := 1) hx hb dX2_flipped_3 (by decide) ?_
  refine rd_cVi (As := [.int a, .int b, .int 1]) (rest := []) F (c_X2_far_ l dC dI cI cZ cY h qx qy qh qt qs rw th n xs ys hs (u + 1 + 1) tb sg fl a b 1 hu) (cwV 3 hts gX2_flipped_X2_far_ rfl rfl rfl hd_X2_far_ ⟨Nat.le_of_ble_eq_true rfl, Nat.le_of_ble_eq_true rfl⟩) hP hK (va_recv hK hP (ci := 2) (q0 := 0) rfl rfl) rfl hl.1 rfl (lv_room (Nat.le_of_ble_eq_true rfl)) dX2_flipped_4 ⟨Nat.zero_le _, Nat.zero_le _⟩ ?_
  refine lv_cvi hkc ?_
  refine lv_istore_n (lv' := [(3, .int kc), (0, .ref h), (1, .int a), (2, .int b)]) hx hb dX2_flipped_7 rfl hl (by decide) rfl (fun ls hl => ?_)
  refine lv_aload_n hx hb dX2_flipped_8 rfl (lv_at hl 1 rfl) ?_
  refine lv_iload_n hx hb dX2_flipped_9 rfl (lv_at hl 2 rfl) ?_
  refine lv_iload_n hx hb dX2_flipped_10 rfl (lv_at hl 3 rfl) ?_
  refine lv_iconst (v := 0) hx hb dX2_flipped_11 (by decide) ?_
  refine rd_cVi (As := [.int a, .int b, .int 0]) (rest := []) F (c_X2_far_ l dC dI cI cZ cY h qx qy qh qt qs rw th n xs ys hs (u + 1 + 1) tb sg fl a b 0 hu) (cwV 3 hts gX2_flipped_X2_far_ rfl rfl rfl hd_X2_far_ ⟨Nat.le_of_ble_eq_true rfl, Nat.le_of_ble_eq_true rfl⟩) hP hK (va_recv hK hP (ci := 2) (q0 := 0) rfl rfl) rfl hl.1 rfl (lv_room (Nat.le_of_ble_eq_true rfl)) dX2_flipped_12 ⟨Nat.zero_le _, Nat.zero_le _⟩ ?_
  refine lv_cvi hkd ?_
  refine lv_istore (lv' := [(4, .int kd), (3, .int kc), (0, .ref h), (1, .int a), (2, .int b)]) hx hb dX2_flipped_15 hl (by decide) rfl (fun ls hl => ?_)
  refine lv_aload_n hx hb dX2_flipped_17 rfl (lv_at hl 2 rfl) ?_
  refine lv_iload_n hx hb dX2_flipped_18 rfl (lv_at hl 3 rfl) ?_
  refine lv_iload_n hx hb dX2_flipped_19 rfl (lv_at hl 4 rfl) ?_
  refine lv_iload_n hx hb dX2_flipped_20 rfl (lv_at hl 1 rfl) ?_
  refine rd_cSi (As := [.int a, .int b, .int kc]) (rest := [.ref h]) F (c_X2_code l dC dI cI cZ cY a b kc) (cwS 3 hts gX2_flipped_X2_code rfl rfl rfl hd_X2_code ⟨Nat.le_of_ble_eq_true rfl, Nat.le_of_ble_eq_true rfl⟩) va_P0 hK rfl hl.1 rfl (lv_room (Nat.le_of_ble_eq_true rfl)) dX2_flipped_21 ⟨Nat.zero_le _, Nat.zero_le _⟩ ?_
  refine wx_cVv (As := [.int (r_code a b kc)]) (rest := []) F (c_X2_takeOut l dC dI cI cZ cY h qx qy qh qt qs rw th n xs ys hs (u + 1 + 1) tb sg fl (r_code a b kc) s.heap.size (u + 1) (r_p1 u tb a b kc) (by omega) (Nat.lt_succ_iff.mp (r_pos_spec hfl.2.2.1).1) (r_pos_spec hfl.2.2.1).2.1 (r_pos_spec hfl.2.2.1).2.2) (cwV 1 hts gX2_flipped_X2_takeOut rfl rfl rfl hd_X2_takeOut ⟨Nat.le_of_ble_eq_true rfl, Nat.le_of_ble_eq_true rfl⟩) hP hK hD hS hA (va_recv hK hP (ci := 2) (q0 := 0) rfl rfl) rfl hl.1 rfl (lv_room (Nat.le_of_ble_eq_true rfl)) dX2_flipped_24 ⟨Nat.zero_le _, Nat.zero_le _⟩ (fun H locs hP hD hS => ?_)
  have hP : va_P (dC, dI) vwCl (wR cI cZ cY h qx qy qh qt qs rw th n xs ys hs (u + 1) (r_take (u + 1) (r_p1 u tb a b kc) tb) sg fl) H := hP
  have hD : va_D A (wR cI cZ cY h qx qy qh qt qs rw th n xs ys hs (u + 1) (r_take (u + 1) (r_p1 u tb a b kc) tb) sg fl) := hD
  refine lv_aload_n hx hb dX2_flipped_27 rfl (lv_at hl 2 rfl) ?_
  refine lv_iload_n hx hb dX2_flipped_28 rfl (lv_at hl 3 rfl) ?_
  refine lv_iload_n hx hb dX2_flipped_29 rfl (lv_at hl 4 rfl) ?_
  refine lv_iload hx hb dX2_flipped_30 (lv_at hl 0 rfl) ?_
  refine rd_cSi (As := [.int a, .int b, .int kd]) (rest := [.ref h]) F (c_X2_code l dC dI cI cZ cY a b kd) (cwS 3 hts gX2_flipped_X2_code rfl rfl rfl hd_X2_code ⟨Nat.le_of_ble_eq_true rfl, Nat.le_of_ble_eq_true rfl⟩) va_P0 hK rfl hl.1 rfl (lv_room (Nat.le_of_ble_eq_true rfl)) dX2_flipped_32 ⟨Nat.zero_le _, Nat.zero_le _⟩ ?_
  refine wx_cVv (As := [.int (r_code a b kd)]) (rest := []) F (c_X2_takeOut l dC dI cI cZ cY h qx qy qh qt qs rw th n xs ys hs (u + 1) (r_take (u + 1) (r_p1 u tb a b kc) tb) sg fl (r_code a b kd) H.size u (r_p2 u tb a b kc kd) (by omega) (Nat.lt_succ_iff.mp (r_pos_spec hfl.2.2.2).1) (r_pos_spec hfl.2.2.2).2.1 (r_pos_spec hfl.2.2.2).2.2) (cwV 1 hts gX2_flipped_X2_takeOut rfl rfl rfl hd_X2_takeOut ⟨Nat.le_of_ble_eq_true rfl, Nat.le_of_ble_eq_true rfl⟩) hP hK hD hS hA (va_recv hK hP (ci := 2) (q0 := 0) rfl rfl) rfl hl.1 rfl (lv_room (Nat.le_of_ble_eq_true rfl)) dX2_flipped_35 ⟨Nat.zero_le _, Nat.zero_le _⟩ (fun H locs hP hD hS => ?_)
  have hP : va_P (dC, dI) vwCl (wR cI cZ cY h qx qy qh qt qs rw th n xs ys hs u (r_take u (r_p2 u tb a b kc kd) (r_take (u + 1) (r_p1 u tb a b kc) tb)) sg fl) H := hP
  have hD : va_D A (wR cI cZ cY h qx qy qh qt qs rw th n xs ys hs u (r_take u (r_p2 u tb a b kc kd) (r_take (u + 1) (r_p1 u tb a b kc) tb)) sg fl) := hD
  refine lv_aload_n hx hb dX2_flipped_38 rfl (lv_at hl 2 rfl) ?_
  refine lv_iload_n hx hb dX2_flipped_39 rfl (lv_at hl 1 rfl) ?_
  refine lv_iload hx hb dX2_flipped_40 (lv_at hl 0 rfl) ?_
  refine lv_iload_n hx hb dX2_flipped_42 rfl (lv_at hl 3 rfl) ?_
  refine wx_cVv (As := [.int kc, .int kd, .int a]) (rest := []) F (c_X2_put l dC dI cI cZ cY h qx qy qh qt qs rw th n xs ys hs u (r_take u (r_p2 u tb a b kc kd) (r_take (u + 1) (r_p1 u tb a b kc) tb)) sg fl kc kd a H.size (by omega)) (cwV 3 hts gX2_flipped_X2_put rfl rfl rfl hd_X2_put ⟨Nat.le_of_ble_eq_true rfl, Nat.le_of_ble_eq_true rfl⟩) hP hK hD hS hA (va_recv hK hP (ci := 2) (q0 := 0) rfl rfl) rfl hl.1 rfl (lv_room (Nat.le_of_ble_eq_true rfl)) dX2_flipped_43 ⟨Nat.zero_le _, Nat.zero_le _⟩ (fun H locs hP hD hS => ?_)
  have hP : va_P (dC, dI) vwCl (wR cI cZ cY h qx qy qh qt qs rw th n xs ys hs (u + 1) (r_put u (r_take u (r_p2 u tb a b kc kd) (r_take (u + 1) (r_p1 u tb a b kc) tb)) kc kd a) sg fl) H := hP
  have hD : va_D A (wR cI cZ cY h qx qy qh qt qs rw th n xs ys hs (u + 1) (r_put u (r_take u (r_p2 u tb a b kc kd) (r_take (u + 1) (r_p1 u tb a b kc) tb)) kc kd a) sg fl) := hD
  refine lv_aload_n hx hb dX2_flipped_46 rfl (lv_at hl 2 rfl) ?_
  refine lv_iload_n hx hb dX2_flipped_47 rfl (lv_at hl 1 rfl) ?_
  refine lv_iload hx hb dX2_flipped_48 (lv_at hl 0 rfl) ?_
  refine lv_iload_n hx hb dX2_flipped_50 rfl (lv_at hl 4 rfl) ?_
  refine wx_cVv (As := [.int kc, .int kd, .int b]) (rest := []) F (c_X2_put l dC dI cI cZ cY h qx qy qh qt qs rw th n xs ys hs (u + 1) (r_put u (r_take u (r_p2 u tb a b kc kd) (r_take (u + 1) (r_p1 u tb a b kc) tb)) kc kd a) sg fl kc kd b H.size (by omega)) (cwV 3 hts gX2_flipped_X2_put rfl rfl rfl hd_X2_put ⟨Nat.le_of_ble_eq_true rfl, Nat.le_of_ble_eq_true rfl⟩) hP hK hD hS hA (va_recv hK hP (ci := 2) (q0 := 0) rfl rfl) rfl hl.1 rfl (lv_room (Nat.le_of_ble_eq_true rfl)) dX2_flipped_51 ⟨Nat.zero_le _, Nat.zero_le _⟩ (fun H locs hP hD hS => ?_)
  have hP : va_P (dC, dI) vwCl (wR cI cZ cY h qx qy qh qt qs rw th n xs ys hs ((u + 1) + 1) (r_put (u + 1) (r_put u (r_take u (r_p2 u tb a b kc kd) (r_take (u + 1) (r_p1 u tb a b kc) tb)) kc kd a) kc kd b) sg fl) H := hP
  have hD : va_D A (wR cI cZ cY h qx qy qh qt qs rw th n xs ys hs ((u + 1) + 1) (r_put (u + 1) (r_put u (r_take u (r_p2 u tb a b kc kd) (r_take (u + 1) (r_p1 u tb a b kc) tb)) kc kd a) kc kd b) sg fl) := hD
  refine lv_aload_n hx hb dX2_flipped_54 rfl (lv_at hl 2 rfl) ?_
  refine lv_iload_n hx hb dX2_flipped_55 rfl (lv_at hl 1 rfl) ?_
  refine lv_iload hx hb dX2_flipped_56 (lv_at hl 0 rfl) ?_
  refine lv_iconst (v := 0) hx hb dX2_flipped_58 (by decide) ?_
  refine wx_cVv (As := [.int kc, .int kd, .int 0]) (rest := []) F (c_X2_let l dC dI cI cZ cY h qx qy qh qt qs rw th n xs ys hs ((u + 1) + 1) (r_put (u + 1) (r_put u (r_take u (r_p2 u tb a b kc kd) (r_take (u + 1) (r_p1 u tb a b kc) tb)) kc kd a) kc kd b) sg fl kc kd 0 H.size hfl.1 hfl.2.1 (by rfl)) (cwV 3 hts gX2_flipped_X2_let rfl rfl rfl hd_X2_let ⟨Nat.le_of_ble_eq_true rfl, Nat.le_of_ble_eq_true rfl⟩) hP hK hD hS hA (va_recv hK hP (ci := 2) (q0 := 0) rfl rfl) rfl hl.1 rfl (lv_room (Nat.le_of_ble_eq_true rfl)) dX2_flipped_59 ⟨Nat.zero_le _, Nat.zero_le _⟩ (fun H locs hP hD hS => ?_)
  have hP : va_P (dC, dI) vwCl (wR cI cZ cY h qx qy qh qt qs rw th n xs ys hs ((u + 1) + 1) (r_put (u + 1) (r_put u (r_take u (r_p2 u tb a b kc kd) (r_take (u + 1) (r_p1 u tb a b kc) tb)) kc kd a) kc kd b) (r_let sg kc kd 0) fl) H := hP
  have hD : va_D A (wR cI cZ cY h qx qy qh qt qs rw th n xs ys hs ((u + 1) + 1) (r_put (u + 1) (r_put u (r_take u (r_p2 u tb a b kc kd) (r_take (u + 1) (r_p1 u tb a b kc) tb)) kc kd a) kc kd b) (r_let sg kc kd 0) fl) := hD
  refine lv_aload_n hx hb dX2_flipped_62 rfl (lv_at hl 2 rfl) ?_
  refine lv_dup hx hb dX2_flipped_63 rfl ?_
  refine va_get (D := (dC, dI)) (ci := 2) (v := .int fl) (C := RX2) (T := TX2) (N := 9) hx hb hts in_X2_flipped_X2 hown hK hP 0 rfl rfl 8 (by decide) (hts (.fieldLink RX2 100 "MoorTrianglesModel" "flips" "I") fl_X2_flipped_100) (fun _ h9 => h9) rfl dX2_flipped_64 ?_
  refine lv_iconst (v := 1) hx hb dX2_flipped_67 (by decide) ?_
  refine lv_iadd hx hb dX2_flipped_68 ?_
  refine va_put (D := (dC, dI)) (ci := 2) (v := .int (fl + 1)) (ty := .int) (C := RX2) (T := TX2) (N := 9) hx hb hts in_X2_flipped_X2 tyX2 tyX2_ok nmX2 hown hK hP hD hS 0 rfl rfl 8 (by decide) (hts (.fieldLink RX2 100 "MoorTrianglesModel" "flips" "I") fl_X2_flipped_100) (fun _ h9 => h9) rfl (by decide +kernel) rfl rfl (Nat.le_of_ble_eq_true rfl) dX2_flipped_69 (fun H locs hP hD hS => ?_)
  have hP : va_P (dC, dI) vwCl (wR cI cZ cY h qx qy qh qt qs rw th n xs ys hs ((u + 1) + 1) (r_put (u + 1) (r_put u (r_take u (r_p2 u tb a b kc kd) (r_take (u + 1) (r_p1 u tb a b kc) tb)) kc kd a) kc kd b) (r_let sg kc kd 0) (fl + 1)) H := hP
  have hD : va_D A (wR cI cZ cY h qx qy qh qt qs rw th n xs ys hs ((u + 1) + 1) (r_put (u + 1) (r_put u (r_take u (r_p2 u tb a b kc kd) (r_take (u + 1) (r_p1 u tb a b kc) tb)) kc kd a) kc kd b) (r_let sg kc kd 0) (fl + 1)) := hD
  refine lv_bipush (v := 16) hx hb dX2_flipped_72 (by decide) ?_
  refine lv_iload_n hx hb dX2_flipped_74 rfl (lv_at hl 1 rfl) ?_
  refine lv_iload hx hb dX2_flipped_75 (lv_at hl 0 rfl) ?_
  refine va_mmin hx hb (hml.trans hl.1.symm) hown (hts _ ma0_X2_flipped_min) (hts _ ma1_X2_flipped_min) (hts _ ma2_X2_flipped_min) (hts _ ma3_X2_flipped_min) (Nat.le_of_ble_eq_true rfl) (Nat.le_of_ble_eq_true rfl) (Nat.zero_le _) (Nat.zero_le _) dX2_flipped_77 ?_
  show W _ _ _ _ _ _ _ _ _ _ _ _ _ _ _ (F0 _ _ _ (.int (min32 kc kd) :: _))
  refine lv_imul hx hb dX2_flipped_80 ?_
  refine lv_iload_n hx hb dX2_flipped_81 rfl (lv_at hl 1 rfl) ?_
  refine lv_iload hx hb dX2_flipped_82 (lv_at hl 0 rfl) ?_
  refine va_mmax hx hb (hml.trans hl.1.symm) hown (hts _ ma0_X2_flipped_max) (hts _ ma1_X2_flipped_max) (hts _ ma2_X2_flipped_max) (hts _ ma3_X2_flipped_max) (Nat.le_of_ble_eq_true rfl) (Nat.le_of_ble_eq_true rfl) (Nat.zero_le _) (Nat.zero_le _) dX2_flipped_84 ?_
  show W _ _ _ _ _ _ _ _ _ _ _ _ _ _ _ (F0 _ _ _ (.int (max32 kc kd) :: _))
  refine lv_iadd hx hb dX2_flipped_87 ?_
  have e_t : (u + 1 + 1 : Nat) = ((u + 1) + 1) := by rfl
  have e_tb : (r_flTb u tb a b kc kd : Nat → Int32) = (r_put (u + 1) (r_put u (r_take u (r_p2 u tb a b kc kd) (r_take (u + 1) (r_p1 u tb a b kc) tb)) kc kd a) kc kd b) := by rfl
  have hP : va_P (dC, dI) vwCl (wR cI cZ cY h qx qy qh qt qs rw th n xs ys hs (u + 1 + 1) (r_flTb u tb a b kc kd) (r_let sg kc kd 0) (fl + 1)) H := by rw [e_t, e_tb]; exact hP
  have hD : va_D A (wR cI cZ cY h qx qy qh qt qs rw th n xs ys hs (u + 1 + 1) (r_flTb u tb a b kc kd) (r_let sg kc kd 0) (fl + 1)) := by rw [e_t, e_tb]; exact hD
  exact wr_iret hx hb hr hlocks (by rfl) hP hK hD hS dX2_flipped_88
theorem hd_X2_settleOne : yX2_settleOne.cls = RX2 ∧ yX2_settleOne.cls ≠ "java/lang/invoke/MethodHandle" ∧ yX2_settleOne.cls ≠ "java/lang/invoke/VarHandle" ∧ (parseMethodDescriptor yX2_settleOne.desc).map (fun d => d.parameters.length) = some 0 := by decide +kernel
theorem in_X2_settleOne_X2 : ∀ w ∈ wsX20, w ∈ wsX2_settleOne := by decide +kernel
theorem fl_X2_settleOne_7 : (Cond.fieldLink RX2 7 "MoorTrianglesModel" "cairns" "I") ∈ wsX2_settleOne := by decide +kernel
theorem fl_X2_settleOne_28 : (Cond.fieldLink RX2 28 "MoorTrianglesModel" "stays" "[[Z") ∈ wsX2_settleOne := by decide +kernel
set_option maxHeartbeats 4000000 in
set_option maxRecDepth 100000 in
theorem c_X2_settleOne (l : Launch) (dC : Nat → ClassId) (dI : Nat → Nat → Nat) (cI cZ cY : ClassId) (h qx qy qh qt qs : Nat) (rw : Nat → Nat) (th : Int32) (n : Nat) (xs ys hs : Nat → Int32) (t : Nat) (tb : Nat → Int32) (sg : Nat → Nat → Int32) (fl : Int32) (sz : Nat) (u : Nat) (hu : u + 1 + 1 ≤ 36) (hn : n ≤ 17) (hS0 : r_okS u n xs ys (tb, sg, fl)) : Met l yX2_settleOne wsX2_settleOne ({ frames := 5, cells := 0, slots := 0, locals := 126 }) (va_Pc [.ref h] (wrP (dC, dI) (gTY cI cZ cY) (wR cI cZ cY h qx qy qh qt qs rw th n xs ys hs (u + 1 + 1) tb sg fl) sz)) (wrQi (dC, dI) (gTY cI cZ cY) (bI ((r_fu u n xs ys (tb, sg, fl)).isSome)) (wR cI cZ cY h qx qy qh qt qs rw th n xs ys hs (u + 1 + 1) ((r_fuSt u n xs ys (tb, sg, fl)).1) ((r_fuSt u n xs ys (tb, sg, fl)).2.1) ((r_fuSt u n xs ys (tb, sg, fl)).2.2)) (va_A (wR cI cZ cY h qx qy qh qt qs rw th n xs ys hs (u + 1 + 1) tb sg fl) sz)) 0 0 (va_A (wR cI cZ cY h qx qy qh qt qs rw th n xs ys hs (u + 1 + 1) tb sg fl) sz) := by
  refine wr_start (cc := cX2_settleOne) (maxL := 3) (ret := (some .boolean)) (Q0 := wrQi (dC, dI) (gTY cI cZ cY) (bI ((r_fu u n xs ys (tb, sg, fl)).isSome)) (wR cI cZ cY h qx qy qh qt qs rw th n xs ys hs (u + 1 + 1) ((r_fuSt u n xs ys (tb, sg, fl)).1) ((r_fuSt u n xs ys (tb, sg, fl)).2.1) ((r_fuSt u n xs ys (tb, sg, fl)).2.2))) RX2 (by decide) rfl rfl (Nat.le_of_ble_eq_true rfl) ?_
  intro p e s m below meth c ⟨hx, hb, hr, hml, hown, hts, hlocks, hin⟩ hP hK A hD hA hS ls hl
  have F : CallFix p m c cX2_settleOne 3 s ([.ref h] : List Value).toArray wsX2_settleOne RX2 := ⟨hx, hb, hml, hown, hts⟩
  have hl : lv_has ls 3 [(0, .ref h)] := hl
  refine lv_iconst (v := 0) hx hb dX2_settleOne_0 (by decide) ?_
  refine lv_istore_n (lv' := [(1, .int 0), (0, .ref h)]) hx hb dX2_settleOne_1 rfl hl (by decide) rfl (fun ls hl => ?_)
  have hL2 : ∀ (k_1 : Nat) (i : Nat), (n - i) < k_1 → (i ≤ n) → (∀ a, a < i → r_pFUa u n xs ys (tb, sg, fl) a = false) → ∀ ls : Array Slot, lv_has ls 3 [(1, .int (nI i)), (0, .ref h)] → W p l e ({ frames := 5, cells := 0, slots := 0, locals := 126 } : Room) s m ([.ref h] : List Value).toArray below meth c s.heap [] 0 0 (MQ below (wrQi (dC, dI) (gTY cI cZ cY) (bI ((r_fu u n xs ys (tb, sg, fl)).isSome)) (wR cI cZ cY h qx qy qh qt qs rw th n xs ys hs (u + 1 + 1) ((r_fuSt u n xs ys (tb, sg, fl)).1) ((r_fuSt u n xs ys (tb, sg, fl)).2.1) ((r_fuSt u n xs ys (tb, sg, fl)).2.2)) A) ([.ref h] : List Value).toArray s 0 0 A) (F0 m 2 ls []) := by
    intro k_1
    induction k_1 with
    | zero => intro i hk; exact absurd hk (Nat.not_lt_zero _)
    | succ k_1 ih_2 =>
      intro i hk_2 hi_i hbi ls hl
      refine lv_iload_n hx hb dX2_settleOne_2 rfl (lv_at hl 0 rfl) ?_
      refine lv_aload_n hx hb dX2_settleOne_3 rfl (lv_at hl 1 rfl) ?_
      refine va_get (D := (dC, dI)) (ci := 2) (v := .int (nI n)) (C := RX2) (T := TX2) (N := 9) hx hb hts in_X2_settleOne_X2 hown hK hP 0 rfl rfl 1 (by decide) (hts (.fieldLink RX2 7 "MoorTrianglesModel" "cairns" "I") fl_X2_settleOne_7) (fun _ h9 => h9) rfl dX2_settleOne_4 ?_
      refine lv_icmp_ge (tgt := 66) hx hb dX2_settleOne_7 (by decide) (fun c_3 => ?_) (fun c_3 => ?_)
      · have hge_i : n ≤ i := nI_le_le (by omega) (by omega) c_3
        have heq_i : i = n := by omega
        have hl : lv_has ls 3 [(1, .int (nI n)), (0, .ref h)] := by rw [heq_i] at hl; exact hl
        rw [heq_i] at hbi
        refine lv_iconst (v := 0) hx hb dX2_settleOne_66 (by decide) ?_
        have e_tb : ((r_fuSt u n xs ys (tb, sg, fl)).1 : Nat → Int32) = tb := by rw [r_fuSt_none (st := (tb, sg, fl)) (r_fu_none hbi)]
        have e_sg : ((r_fuSt u n xs ys (tb, sg, fl)).2.1 : Nat → Nat → Int32) = sg := by rw [r_fuSt_none (st := (tb, sg, fl)) (r_fu_none hbi)]
        have e_fl : ((r_fuSt u n xs ys (tb, sg, fl)).2.2 : Int32) = fl := by rw [r_fuSt_none (st := (tb, sg, fl)) (r_fu_none hbi)]
        have hP : va_P (dC, dI) vwCl (wR cI cZ cY h qx qy qh qt qs rw th n xs ys hs (u + 1 + 1) ((r_fuSt u n xs ys (tb, sg, fl)).1) ((r_fuSt u n xs ys (tb, sg, fl)).2.1) ((r_fuSt u n xs ys (tb, sg, fl)).2.2)) s.heap := by rw [e_tb, e_sg, e_fl]; exact hP
        have hD : va_D A (wR cI cZ cY h qx qy qh qt qs rw th n xs ys hs (u + 1 + 1) ((r_fuSt u n xs ys (tb, sg, fl)).1) ((r_fuSt u n xs ys (tb, sg, fl)).2.1) ((r_fuSt u n xs ys (tb, sg, fl)).2.2)) := by rw [e_tb, e_sg, e_fl]; exact hD
        exact wr_zret hx hb hr hlocks (by rw [r_fu_none hbi]; rfl) hP hK hD hS dX2_settleOne_67
      · have hlt_i : i < n := nI_nle_lt (by omega) (by omega) c_3
        refine lv_iload_n hx hb dX2_settleOne_10 rfl (lv_at hl 0 rfl) ?_
        refine lv_iconst (v := 1) hx hb dX2_settleOne_11 (by decide) ?_
        refine lv_iadd hx hb dX2_settleOne_12 ?_
        refine lv_istore_n (lv' := [(2, .int ((nI i) + 1)), (1, .int (nI i)), (0, .ref h)]) hx hb dX2_settleOne_13 rfl hl (by decide) rfl (fun ls hl => ?_)
        have hL14 : ∀ (k_4 : Nat) (j : Nat), (n - j) < k_4 → (j ≤ n) → (i < j) → (∀ b, b < j → r_pFU u xs ys (tb, sg, fl) i b = false) → ∀ ls : Array Slot, lv_has ls 3 [(2, .int (nI j)), (1, .int (nI i)), (0, .ref h)] → W p l e ({ frames := 5, cells := 0, slots := 0, locals := 126 } : Room) s m ([.ref h] : List Value).toArray below meth c s.heap [] 0 0 (MQ below (wrQi (dC, dI) (gTY cI cZ cY) (bI ((r_fu u n xs ys (tb, sg, fl)).isSome)) (wR cI cZ cY h qx qy qh qt qs rw th n xs ys hs (u + 1 + 1) ((r_fuSt u n xs ys (tb, sg, fl)).1) ((r_fuSt u n xs ys (tb, sg, fl)).2.1) ((r_fuSt u n xs ys (tb, sg, fl)).2.2)) A) ([.ref h] : List Value).toArray s 0 0 A) (F0 m 14 ls []) := by
          intro k_4
          induction k_4 with
          | zero => intro j hk; exact absurd hk (Nat.not_lt_zero _)
          | succ k_4 ih_5 =>
            intro j hk_14 hi_j hij hbj ls hl
            refine lv_iload_n hx hb dX2_settleOne_14 rfl (lv_at hl 0 rfl) ?_
            refine lv_aload_n hx hb dX2_settleOne_15 rfl (lv_at hl 2 rfl) ?_
            refine va_get (D := (dC, dI)) (ci := 2) (v := .int (nI n)) (C := RX2) (T := TX2) (N := 9) hx hb hts in_X2_settleOne_X2 hown hK hP 0 rfl rfl 1 (by decide) (hts (.fieldLink RX2 7 "MoorTrianglesModel" "cairns" "I") fl_X2_settleOne_7) (fun _ h9 => h9) rfl dX2_settleOne_16 ?_
            refine lv_icmp_ge (tgt := 60) hx hb dX2_settleOne_19 (by decide) (fun c_6 => ?_) (fun c_6 => ?_)
            · have hge_j : n ≤ j := nI_le_le (by omega) (by omega) c_6
              have heq_j : j = n := by omega
              have hl : lv_has ls 3 [(2, .int (nI n)), (1, .int (nI i)), (0, .ref h)] := by rw [heq_j] at hl; exact hl
              rw [heq_j] at hbj
              refine lv_iinc (v := nI (i + 1)) (lv' := [(1, .int (nI (i + 1))), (2, .int (nI n)), (0, .ref h)]) hx hb dX2_settleOne_60 hl (k := 1) rfl (nI_1 _) (by decide) rfl (fun ls hl => ?_)
              refine lv_goto (tgt := 2) hx hb dX2_settleOne_63 (by decide) ?_
              have hl := lv_sub (l' := [(1, .int (nI (i + 1))), (0, .ref h)]) hl [0, 2] rfl
              have hl : lv_has ls 3 [(1, .int (nI (i + 1))), (0, .ref h)] := by
                have e9 : [(1, .int (nI (i + 1))), (0, .ref h)] = ([(1, .int (nI (i + 1))), (0, .ref h)] : List (Nat × Value)) := by rfl
                rw [← e9]; exact hl
              exact ih_2 (i + 1) (by omega) (by omega) (rg_bef hbi (r_pFUa_f hbj)) _ hl
            · have hlt_j : j < n := nI_nle_lt (by omega) (by omega) c_6
              refine lv_aload_n hx hb dX2_settleOne_22 rfl (lv_at hl 2 rfl) ?_
              refine va_get (D := (dC, dI)) (ci := 2) (v := .ref qs) (C := RX2) (T := TX2) (N := 9) hx hb hts in_X2_settleOne_X2 hown hK hP 0 rfl rfl 7 (by decide) (hts (.fieldLink RX2 28 "MoorTrianglesModel" "stays" "[[Z") fl_X2_settleOne_28) (fun _ h9 => h9) rfl dX2_settleOne_23 ?_
              refine lv_iload_n hx hb dX2_settleOne_26 rfl (lv_at hl 1 rfl) ?_
              refine rg_aald (D := (dC, dI)) hx hb hK hP 5 2 rfl rfl (vp_in_nI (by omega) (by decide)) dX2_settleOne_27 ?_
              refine lv_iload_n hx hb dX2_settleOne_28 rfl (lv_at hl 0 rfl) ?_
              refine va_zald (D := (dC, dI)) hx hb hK hP (6 + (nI i).toNatClampNeg) 1 (wR_row (in_lt (vp_in_nI (by omega) (by decide)))) rfl (vp_in_nI (by omega) (by decide)) dX2_settleOne_29 ?_
              refine lv_if_ne (tgt := 54) hx hb dX2_settleOne_30 (by decide) (fun c_7 => ?_) (fun c_7 => ?_)
              · rw [nI_clamp (by omega), nI_clamp (by omega)] at c_7
                refine lv_iinc (v := nI (j + 1)) (lv' := [(2, .int (nI (j + 1))), (1, .int (nI i)), (0, .ref h)]) hx hb dX2_settleOne_54 hl (k := 0) rfl (nI_1 _) (by decide) rfl (fun ls hl => ?_)
                refine lv_goto (tgt := 14) hx hb dX2_settleOne_57 (by decide) ?_
                have hl := lv_sub (l' := [(2, .int (nI (j + 1))), (1, .int (nI i)), (0, .ref h)]) hl [0, 1, 2] rfl
                have hl : lv_has ls 3 [(2, .int (nI (j + 1))), (1, .int (nI i)), (0, .ref h)] := by
                  have e9 : [(2, .int (nI (j + 1))), (1, .int (nI i)), (0, .ref h)] = ([(2, .int (nI (j + 1))), (1, .int (nI i)), (0, .ref h)] : List (Nat × Value)) := by rfl
                  rw [← e9]; exact hl
                exact ih_5 (j + 1) (by omega) (by omega) (by omega) (rg_bef hbj (show r_pFU u xs ys (tb, sg, fl) i j = false from by rw [r_pFU_hi hij]; exact if_neg c_7)) _ hl
              · rw [nI_clamp (by omega), nI_clamp (by omega)] at c_7
                refine lv_aload_n hx hb dX2_settleOne_33 rfl (lv_at hl 2 rfl) ?_
                refine lv_iload_n hx hb dX2_settleOne_34 rfl (lv_at hl 1 rfl) ?_
                refine lv_iload_n hx hb dX2_settleOne_35 rfl (lv_at hl 0 rfl) ?_
                refine rd_cVi (As := [.int (nI i), .int (nI j)]) (rest := []) F (c_X2_isUnfair l dC dI cI cZ cY h qx qy qh qt qs rw th n xs ys hs (u + 1 + 1) tb sg fl (nI i) (nI j) hu (vp_in_nI (by omega) (by decide)) (vp_in_nI (by omega) (by decide)) (fun h => ((hS0 i j hlt_i hlt_j).1 h).1) (fun h => ((hS0 i j hlt_i hlt_j).1 h).2)) (cwV 2 hts gX2_settleOne_X2_isUnfair rfl rfl rfl hd_X2_isUnfair ⟨Nat.le_of_ble_eq_true rfl, Nat.le_of_ble_eq_true rfl⟩) hP hK (va_recv hK hP (ci := 2) (q0 := 0) rfl rfl) rfl hl.1 rfl (lv_room (Nat.le_of_ble_eq_true rfl)) dX2_settleOne_36 ⟨Nat.zero_le _, Nat.zero_le _⟩ ?_
                refine lv_if_neB (tgt := 45) hx hb dX2_settleOne_39 (by decide) (fun c_8 => ?_) (fun c_8 => ?_)
                · have hfu : r_fu u n xs ys (tb, sg, fl) = some (i, j) := r_fu_some hlt_i hlt_j hbi hbj (show r_pFU u xs ys (tb, sg, fl) i j = true from by rw [r_pFU_hi hij]; exact (if_pos c_7).trans c_8)
                  refine lv_aload_n hx hb dX2_settleOne_45 rfl (lv_at hl 2 rfl) ?_
                  refine lv_iload_n hx hb dX2_settleOne_46 rfl (lv_at hl 1 rfl) ?_
                  refine lv_iload_n hx hb dX2_settleOne_47 rfl (lv_at hl 0 rfl) ?_
                  refine wx_cVi (As := [.int (nI i), .int (nI j)]) (rest := []) F (c_X2_flipped l dC dI cI cZ cY h qx qy qh qt qs rw th n xs ys hs (u + 1 + 1) tb sg fl (nI i) (nI j) s.heap.size u (r_kc u tb i j) (r_kd u tb i j) hu (vp_in_nI (by omega) (by decide)) (vp_in_nI (by omega) (by decide)) rfl rfl ((hS0 i j hlt_i hlt_j).2 c_7 c_8)) (cwV 2 hts gX2_settleOne_X2_flipped rfl rfl rfl hd_X2_flipped ⟨Nat.le_of_ble_eq_true rfl, Nat.le_of_ble_eq_true rfl⟩) hP hK hD hS hA (va_recv hK hP (ci := 2) (q0 := 0) rfl rfl) rfl hl.1 rfl (lv_room (Nat.le_of_ble_eq_true rfl)) dX2_settleOne_48 ⟨Nat.zero_le _, Nat.zero_le _⟩ (fun H locs hP hD hS => ?_)
                  have hP : va_P (dC, dI) vwCl (wR cI cZ cY h qx qy qh qt qs rw th n xs ys hs (u + 1 + 1) (r_flTb u tb (nI i) (nI j) (r_kc u tb i j) (r_kd u tb i j)) (r_let sg (r_kc u tb i j) (r_kd u tb i j) 0) (fl + 1)) H := hP
                  have hD : va_D A (wR cI cZ cY h qx qy qh qt qs rw th n xs ys hs (u + 1 + 1) (r_flTb u tb (nI i) (nI j) (r_kc u tb i j) (r_kd u tb i j)) (r_let sg (r_kc u tb i j) (r_kd u tb i j) 0) (fl + 1)) := hD
                  refine lv_pop hx hb dX2_settleOne_51 rfl ?_
                  refine lv_iconst (v := 1) hx hb dX2_settleOne_52 (by decide) ?_
                  have e_tb : ((r_fuSt u n xs ys (tb, sg, fl)).1 : Nat → Int32) = r_flTb u tb (nI i) (nI j) (r_kc u tb i j) (r_kd u tb i j) := by rw [r_fuSt_some (st := (tb, sg, fl)) hfu]; rfl
                  have e_sg : ((r_fuSt u n xs ys (tb, sg, fl)).2.1 : Nat → Nat → Int32) = r_let sg (r_kc u tb i j) (r_kd u tb i j) 0 := by rw [r_fuSt_some (st := (tb, sg, fl)) hfu]; rfl
                  have e_fl : ((r_fuSt u n xs ys (tb, sg, fl)).2.2 : Int32) = (fl + 1) := by rw [r_fuSt_some (st := (tb, sg, fl)) hfu]; rfl
                  have hP : va_P (dC, dI) vwCl (wR cI cZ cY h qx qy qh qt qs rw th n xs ys hs (u + 1 + 1) ((r_fuSt u n xs ys (tb, sg, fl)).1) ((r_fuSt u n xs ys (tb, sg, fl)).2.1) ((r_fuSt u n xs ys (tb, sg, fl)).2.2)) H := by rw [e_tb, e_sg, e_fl]; exact hP
                  have hD : va_D A (wR cI cZ cY h qx qy qh qt qs rw th n xs ys hs (u + 1 + 1) ((r_fuSt u n xs ys (tb, sg, fl)).1) ((r_fuSt u n xs ys (tb, sg, fl)).2.1) ((r_fuSt u n xs ys (tb, sg, fl)).2.2)) := by rw [e_tb, e_sg, e_fl]; exact hD
                  exact wr_zret hx hb hr hlocks (by rw [hfu]; rfl) hP hK hD hS dX2_settleOne_53
                · refine lv_goto (tgt := 54) hx hb dX2_settleOne_42 (by decide) ?_
                  refine lv_iinc (v := nI (j + 1)) (lv' := [(2, .int (nI (j + 1))), (1, .int (nI i)), (0, .ref h)]) hx hb dX2_settleOne_54 hl (k := 0) rfl (nI_1 _) (by decide) rfl (fun ls hl => ?_)
                  refine lv_goto (tgt := 14) hx hb dX2_settleOne_57 (by decide) ?_
                  have hl := lv_sub (l' := [(2, .int (nI (j + 1))), (1, .int (nI i)), (0, .ref h)]) hl [0, 1, 2] rfl
                  have hl : lv_has ls 3 [(2, .int (nI (j + 1))), (1, .int (nI i)), (0, .ref h)] := by
                    have e9 : [(2, .int (nI (j + 1))), (1, .int (nI i)), (0, .ref h)] = ([(2, .int (nI (j + 1))), (1, .int (nI i)), (0, .ref h)] : List (Nat × Value)) := by rfl
                    rw [← e9]; exact hl
                  exact ih_5 (j + 1) (by omega) (by omega) (by omega) (rg_bef hbj (show r_pFU u xs ys (tb, sg, fl) i j = false from by rw [r_pFU_hi hij]; exact (if_pos c_7).trans c_8)) _ hl
        have hl := lv_sub (l' := [(2, .int ((nI i) + 1)), (1, .int (nI i)), (0, .ref h)]) hl [0, 1, 2] rfl
        have hl : lv_has ls 3 [(2, .int (nI (i + 1))), (1, .int (nI i)), (0, .ref h)] := by
          have e9 : [(2, .int ((nI i) + 1)), (1, .int (nI i)), (0, .ref h)] = ([(2, .int (nI (i + 1))), (1, .int (nI i)), (0, .ref h)] : List (Nat × Value)) := by rw [nI_1]
          rw [← e9]; exact hl
        exact hL14 _ (i + 1) (Nat.lt_succ_self _) (by omega) (by omega) (fun q hq => r_pFU_lo hq) _ hl
  have hl := lv_sub (l' := [(1, .int 0), (0, .ref h)]) hl [0, 1] rfl
  have hl : lv_has ls 3 [(1, .int (nI 0)), (0, .ref h)] := by
    have e9 : [(1, .int 0), (0, .ref h)] = ([(1, .int (nI 0)), (0, .ref h)] : List (Nat × Value)) := by rfl
    rw [← e9]; exact hl
  exact hL2 _ 0 (Nat.lt_succ_self _) (by omega) (fun j hj => absurd hj (Nat.not_lt_zero _)) _ hl
theorem hd_X2_told : yX2_told.cls = RX2 ∧ yX2_told.cls ≠ "java/lang/invoke/MethodHandle" ∧ yX2_told.cls ≠ "java/lang/invoke/VarHandle" ∧ (parseMethodDescriptor yX2_told.desc).map (fun d => d.parameters.length) = some 2 := by decide +kernel
