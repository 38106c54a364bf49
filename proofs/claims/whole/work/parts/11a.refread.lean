theorem hd_X2_thrown : yX2_thrown.cls = RX2 ∧ yX2_thrown.cls ≠ "java/lang/invoke/MethodHandle" ∧ yX2_thrown.cls ≠ "java/lang/invoke/VarHandle" ∧ (parseMethodDescriptor yX2_thrown.desc).map (fun d => d.parameters.length) = some 0 := by decide +kernel
theorem in_X2_thrown_X2 : ∀ w ∈ wsX20, w ∈ wsX2_thrown := by decide +kernel
theorem fl_X2_thrown_35 : (Cond.fieldLink RX2 35 "MoorTrianglesModel" "thrown" "I") ∈ wsX2_thrown := by decide +kernel
set_option maxHeartbeats 4000000 in
set_option maxRecDepth 100000 in
theorem c_X2_thrown (l : Launch) (dC : Nat → ClassId) (dI : Nat → Nat → Nat) (cI cZ cY : ClassId) (h qx qy qh qt qs : Nat) (rw : Nat → Nat) (th : Int32) (n : Nat) (xs ys hs : Nat → Int32) (t : Nat) (tb : Nat → Int32) (sg : Nat → Nat → Int32) (fl : Int32) : Met l yX2_thrown wsX2_thrown ({ frames := 0, cells := 0, slots := 0, locals := 0 }) (va_Pc [.ref h] (fun U => va_P (dC, dI) vwCl (wR cI cZ cY h qx qy qh qt qs rw th n xs ys hs t tb sg fl) U.heap ∧ va_K (dC, dI) vwCl (gTY cI cZ cY) U)) (vp_Si (fun r => r = th)) 0 0 (fun _ => False) := by
  refine rd_start (cc := cX2_thrown) (maxL := 1) (ret := (some .int)) RX2 (by decide) rfl rfl (Nat.le_of_ble_eq_true rfl) ?_
  intro p e s m below meth c ⟨hx, hb, hr, hml, hown, hts, hlocks⟩ hP hK ls hl
  have F : CallFix p m c cX2_thrown 1 s ([.ref h] : List Value).toArray wsX2_thrown RX2 := ⟨hx, hb, hml, hown, hts⟩
  have hl : lv_has ls 1 [(0, .ref h)] := hl
  refine lv_aload_n hx hb dX2_thrown_0 rfl (lv_at hl 0 rfl) ?_
  refine va_get (D := (dC, dI)) (ci := 2) (v := .int th) (C := RX2) (T := TX2) (N := 9) hx hb hts in_X2_thrown_X2 hown hK hP 0 rfl rfl 0 (by decide) (hts (.fieldLink RX2 35 "MoorTrianglesModel" "thrown" "I") fl_X2_thrown_35) (fun _ h9 => h9) rfl dX2_thrown_1 ?_
  exact rd_iret hx hb hr hlocks rfl dX2_thrown_4
theorem hd_X2_isIn : yX2_isIn.cls = RX2 ∧ yX2_isIn.cls ≠ "java/lang/invoke/MethodHandle" ∧ yX2_isIn.cls ≠ "java/lang/invoke/VarHandle" ∧ (parseMethodDescriptor yX2_isIn.desc).map (fun d => d.parameters.length) = some 3 := by decide +kernel
set_option maxHeartbeats 4000000 in
set_option maxRecDepth 100000 in
theorem c_X2_isIn (l : Launch) (dC : Nat → ClassId) (dI : Nat → Nat → Nat) (cI cZ cY : ClassId) (v : Int32) (lo : Int32) (hi : Int32) : Met l yX2_isIn wsX2_isIn ({ frames := 0, cells := 0, slots := 0, locals := 0 }) (va_Pc [.int v, .int lo, .int hi] (fun U => va_P (dC, dI) vwCl ([]) U.heap ∧ va_K (dC, dI) vwCl (gTY cI cZ cY) U)) (vp_Si (fun r => r = bI (r_isIn v lo hi))) 0 0 (fun _ => False) := by
  refine rd_start (cc := cX2_isIn) (maxL := 3) (ret := (some .boolean)) RX2 (by decide) rfl rfl (Nat.le_of_ble_eq_true rfl) ?_
  intro p e s m below meth c ⟨hx, hb, hr, hml, hown, hts, hlocks⟩ hP hK ls hl
  have F : CallFix p m c cX2_isIn 3 s ([.int v, .int lo, .int hi] : List Value).toArray wsX2_isIn RX2 := ⟨hx, hb, hml, hown, hts⟩
  have hl : lv_has ls 3 [(0, .int v), (1, .int lo), (2, .int hi)] := hl
  refine lv_iload_n hx hb dX2_isIn_0 rfl (lv_at hl 0 rfl) ?_
  refine lv_iload_n hx hb dX2_isIn_1 rfl (lv_at hl 1 rfl) ?_
  refine lv_icmp_lt (tgt := 14) hx hb dX2_isIn_2 (by decide) (fun c_1 => ?_) (fun c_1 => ?_)
  · refine lv_iconst (v := 0) hx hb dX2_isIn_14 (by decide) ?_
    exact rd_zret hx hb hr hlocks (by first | (rw [r_isIn, if_pos c_1]; done) | (rw [r_isIn, if_pos c_1]; rfl) | (simp only [r_isIn, c_1]; done) | (simp only [r_isIn, c_1]; rfl) | (simp [r_isIn, c_1, bI]; done)) dX2_isIn_15
  · refine lv_iload_n hx hb dX2_isIn_5 rfl (lv_at hl 0 rfl) ?_
    refine lv_iload_n hx hb dX2_isIn_6 rfl (lv_at hl 2 rfl) ?_
    refine lv_icmp_gt (tgt := 14) hx hb dX2_isIn_7 (by decide) (fun c_2 => ?_) (fun c_2 => ?_)
    · refine lv_iconst (v := 0) hx hb dX2_isIn_14 (by decide) ?_
      exact rd_zret hx hb hr hlocks (by first | (rw [r_isIn, if_neg c_1, if_pos c_2]; done) | (rw [r_isIn, if_neg c_1, if_pos c_2]; rfl) | (simp only [r_isIn, c_1, c_2]; done) | (simp only [r_isIn, c_1, c_2]; rfl) | (simp [r_isIn, c_1, c_2, bI]; done)) dX2_isIn_15
    · refine lv_iconst (v := 1) hx hb dX2_isIn_10 (by decide) ?_
      refine lv_goto (tgt := 15) hx hb dX2_isIn_11 (by decide) ?_
      exact rd_zret hx hb hr hlocks (by first | (rw [r_isIn, if_neg c_1, if_neg c_2]; done) | (rw [r_isIn, if_neg c_1, if_neg c_2]; rfl) | (simp only [r_isIn, c_1, c_2]; done) | (simp only [r_isIn, c_1, c_2]; rfl) | (simp [r_isIn, c_1, c_2, bI]; done)) dX2_isIn_15
theorem hd_X2_isPlace : yX2_isPlace.cls = RX2 ∧ yX2_isPlace.cls ≠ "java/lang/invoke/MethodHandle" ∧ yX2_isPlace.cls ≠ "java/lang/invoke/VarHandle" ∧ (parseMethodDescriptor yX2_isPlace.desc).map (fun d => d.parameters.length) = some 2 := by decide +kernel
set_option maxHeartbeats 4000000 in
set_option maxRecDepth 100000 in
theorem c_X2_isPlace (l : Launch) (dC : Nat → ClassId) (dI : Nat → Nat → Nat) (cI cZ cY : ClassId) (x : Int32) (y : Int32) : Met l yX2_isPlace wsX2_isPlace ({ frames := 1, cells := 0, slots := 0, locals := 22 }) (va_Pc [.int x, .int y] (fun U => va_P (dC, dI) vwCl ([]) U.heap ∧ va_K (dC, dI) vwCl (gTY cI cZ cY) U)) (vp_Si (fun r => r = bI (r_isPlace x y))) 0 0 (fun _ => False) := by
  refine rd_start (cc := cX2_isPlace) (maxL := 2) (ret := (some .boolean)) RX2 (by decide) rfl rfl (Nat.le_of_ble_eq_true rfl) ?_
  intro p e s m below meth c ⟨hx, hb, hr, hml, hown, hts, hlocks⟩ hP hK ls hl
  have F : CallFix p m c cX2_isPlace 2 s ([.int x, .int y] : List Value).toArray wsX2_isPlace RX2 := ⟨hx, hb, hml, hown, hts⟩
  have hl : lv_has ls 2 [(0, .int x), (1, .int y)] := hl
  refine lv_iload_n hx hb dX2_isPlace_0 rfl (lv_at hl 0 rfl) ?_
  refine lv_iconst (v := 0) hx hb dX2_isPlace_1 (by decide) ?_
  refine lv_bipush (v := 30) hx hb dX2_isPlace_2 (by decide) ?_
  refine rd_cSi (As := [.int x, .int 0, .int 30]) (rest := []) F (c_X2_isIn l dC dI cI cZ cY x 0 30) (cwS 3 hts gX2_isPlace_X2_isIn rfl rfl rfl hd_X2_isIn ⟨Nat.le_of_ble_eq_true rfl, Nat.le_of_ble_eq_true rfl⟩) va_P0 hK rfl hl.1 rfl (lv_room (Nat.le_of_ble_eq_true rfl)) dX2_isPlace_4 ⟨Nat.zero_le _, Nat.zero_le _⟩ ?_
  refine lv_if_eqB (tgt := 24) hx hb dX2_isPlace_7 (by decide) (fun c_1 => ?_) (fun c_1 => ?_)
  · refine lv_iconst (v := 0) hx hb dX2_isPlace_24 (by decide) ?_
    exact rd_zret hx hb hr hlocks (by first | (rw [r_isPlace, if_pos c_1]; done) | (rw [r_isPlace, if_pos c_1]; rfl) | (simp only [r_isPlace, c_1]; done) | (simp only [r_isPlace, c_1]; rfl) | (simp [r_isPlace, c_1, bI]; done)) dX2_isPlace_25
  · refine lv_iload_n hx hb dX2_isPlace_10 rfl (lv_at hl 1 rfl) ?_
    refine lv_iconst (v := 0) hx hb dX2_isPlace_11 (by decide) ?_
    refine lv_bipush (v := 30) hx hb dX2_isPlace_12 (by decide) ?_
    refine rd_cSi (As := [.int y, .int 0, .int 30]) (rest := []) F (c_X2_isIn l dC dI cI cZ cY y 0 30) (cwS 3 hts gX2_isPlace_X2_isIn rfl rfl rfl hd_X2_isIn ⟨Nat.le_of_ble_eq_true rfl, Nat.le_of_ble_eq_true rfl⟩) va_P0 hK rfl hl.1 rfl (lv_room (Nat.le_of_ble_eq_true rfl)) dX2_isPlace_14 ⟨Nat.zero_le _, Nat.zero_le _⟩ ?_
    refine lv_if_eqB (tgt := 24) hx hb dX2_isPlace_17 (by decide) (fun c_2 => ?_) (fun c_2 => ?_)
    · refine lv_iconst (v := 0) hx hb dX2_isPlace_24 (by decide) ?_
      exact rd_zret hx hb hr hlocks (by first | (rw [r_isPlace, if_pos c_1, if_pos c_2]; done) | (rw [r_isPlace, if_pos c_1, if_pos c_2]; rfl) | (simp only [r_isPlace, c_1, c_2]; done) | (simp only [r_isPlace, c_1, c_2]; rfl) | (simp [r_isPlace, c_1, c_2, bI]; done)) dX2_isPlace_25
    · refine lv_iconst (v := 1) hx hb dX2_isPlace_20 (by decide) ?_
      refine lv_goto (tgt := 25) hx hb dX2_isPlace_21 (by decide) ?_
      exact rd_zret hx hb hr hlocks (by first | (rw [r_isPlace, if_pos c_1, if_pos c_2]; done) | (rw [r_isPlace, if_pos c_1, if_pos c_2]; rfl) | (simp only [r_isPlace, c_1, c_2]; done) | (simp only [r_isPlace, c_1, c_2]; rfl) | (simp [r_isPlace, c_1, c_2, bI]; done)) dX2_isPlace_25
theorem hd_X2_code : yX2_code.cls = RX2 ∧ yX2_code.cls ≠ "java/lang/invoke/MethodHandle" ∧ yX2_code.cls ≠ "java/lang/invoke/VarHandle" ∧ (parseMethodDescriptor yX2_code.desc).map (fun d => d.parameters.length) = some 3 := by decide +kernel
theorem ma0_X2_code_min : (Cond.methodLink RX2 42 Lib.Math.min.name) ∈ wsX2_code := by decide +kernel
theorem ma1_X2_code_min : (Cond.static Lib.Math.min.name) ∈ wsX2_code := by decide +kernel
theorem ma2_X2_code_min : (Cond.initialized "java/lang/Math") ∈ wsX2_code := by decide +kernel
theorem ma3_X2_code_min : (Cond.code Lib.Math.min.name Lib.Math.min.code 2 (some .int)) ∈ wsX2_code := by decide +kernel
theorem ma0_X2_code_max : (Cond.methodLink RX2 48 Lib.Math.max.name) ∈ wsX2_code := by decide +kernel
theorem ma1_X2_code_max : (Cond.static Lib.Math.max.name) ∈ wsX2_code := by decide +kernel
theorem ma2_X2_code_max : (Cond.initialized "java/lang/Math") ∈ wsX2_code := by decide +kernel
theorem ma3_X2_code_max : (Cond.code Lib.Math.max.name Lib.Math.max.code 2 (some .int)) ∈ wsX2_code := by decide +kernel
set_option maxHeartbeats 4000000 in
set_option maxRecDepth 100000 in
theorem c_X2_code (l : Launch) (dC : Nat → ClassId) (dI : Nat → Nat → Nat) (cI cZ cY : ClassId) (a : Int32) (b : Int32) (k : Int32) : Met l yX2_code wsX2_code ({ frames := 1, cells := 0, slots := 0, locals := 14 }) (va_Pc [.int a, .int b, .int k] (fun U => va_P (dC, dI) vwCl ([]) U.heap ∧ va_K (dC, dI) vwCl (gTY cI cZ cY) U)) (vp_Si (fun r => r = r_code a b k)) 0 0 (fun _ => False) := by
  refine rd_start (cc := cX2_code) (maxL := 5) (ret := (some .int)) RX2 (by decide) rfl rfl (Nat.le_of_ble_eq_true rfl) ?_
  intro p e s m below meth c ⟨hx, hb, hr, hml, hown, hts, hlocks⟩ hP hK ls hl
  have F : CallFix p m c cX2_code 5 s ([.int a, .int b, .int k] : List Value).toArray wsX2_code RX2 := ⟨hx, hb, hml, hown, hts⟩
  have hl : lv_has ls 5 [(0, .int a), (1, .int b), (2, .int k)] := hl
  refine lv_iload_n hx hb dX2_code_0 rfl (lv_at hl 0 rfl) ?_
  refine lv_iload_n hx hb dX2_code_1 rfl (lv_at hl 1 rfl) ?_
  refine lv_iload_n hx hb dX2_code_2 rfl (lv_at hl 2 rfl) ?_
  refine va_mmin hx hb (hml.trans hl.1.symm) hown (hts _ ma0_X2_code_min) (hts _ ma1_X2_code_min) (hts _ ma2_X2_code_min) (hts _ ma3_X2_code_min) (Nat.le_of_ble_eq_true rfl) (Nat.le_of_ble_eq_true rfl) (Nat.zero_le _) (Nat.zero_le _) dX2_code_3 ?_
  show W _ _ _ _ _ _ _ _ _ _ _ _ _ _ _ (F0 _ _ _ (.int (min32 b k) :: _))
  refine va_mmin hx hb (hml.trans hl.1.symm) hown (hts _ ma0_X2_code_min) (hts _ ma1_X2_code_min) (hts _ ma2_X2_code_min) (hts _ ma3_X2_code_min) (Nat.le_of_ble_eq_true rfl) (Nat.le_of_ble_eq_true rfl) (Nat.zero_le _) (Nat.zero_le _) dX2_code_6 ?_
  show W _ _ _ _ _ _ _ _ _ _ _ _ _ _ _ (F0 _ _ _ (.int (min32 a (min32 b k)) :: _))
  refine lv_istore_n (lv' := [(3, .int (min32 a (min32 b k))), (0, .int a), (1, .int b), (2, .int k)]) hx hb dX2_code_9 rfl hl (by decide) rfl (fun ls hl => ?_)
  refine lv_iload_n hx hb dX2_code_10 rfl (lv_at hl 1 rfl) ?_
  refine lv_iload_n hx hb dX2_code_11 rfl (lv_at hl 2 rfl) ?_
  refine lv_iload_n hx hb dX2_code_12 rfl (lv_at hl 3 rfl) ?_
  refine va_mmax hx hb (hml.trans hl.1.symm) hown (hts _ ma0_X2_code_max) (hts _ ma1_X2_code_max) (hts _ ma2_X2_code_max) (hts _ ma3_X2_code_max) (Nat.le_of_ble_eq_true rfl) (Nat.le_of_ble_eq_true rfl) (Nat.zero_le _) (Nat.zero_le _) dX2_code_13 ?_
  show W _ _ _ _ _ _ _ _ _ _ _ _ _ _ _ (F0 _ _ _ (.int (max32 b k) :: _))
  refine va_mmax hx hb (hml.trans hl.1.symm) hown (hts _ ma0_X2_code_max) (hts _ ma1_X2_code_max) (hts _ ma2_X2_code_max) (hts _ ma3_X2_code_max) (Nat.le_of_ble_eq_true rfl) (Nat.le_of_ble_eq_true rfl) (Nat.zero_le _) (Nat.zero_le _) dX2_code_16 ?_
  show W _ _ _ _ _ _ _ _ _ _ _ _ _ _ _ (F0 _ _ _ (.int (max32 a (max32 b k)) :: _))
  refine lv_istore (lv' := [(4, .int (max32 a (max32 b k))), (3, .int (min32 a (min32 b k))), (0, .int a), (1, .int b), (2, .int k)]) hx hb dX2_code_19 hl (by decide) rfl (fun ls hl => ?_)
  refine lv_iload_n hx hb dX2_code_21 rfl (lv_at hl 1 rfl) ?_
  refine lv_bipush (v := 32) hx hb dX2_code_22 (by decide) ?_
  refine lv_imul hx hb dX2_code_24 ?_
  refine lv_iload_n hx hb dX2_code_25 rfl (lv_at hl 2 rfl) ?_
  refine lv_iadd hx hb dX2_code_26 ?_
  refine lv_iload_n hx hb dX2_code_27 rfl (lv_at hl 3 rfl) ?_
  refine lv_iadd hx hb dX2_code_28 ?_
  refine lv_iload_n hx hb dX2_code_29 rfl (lv_at hl 4 rfl) ?_
  refine lv_iadd hx hb dX2_code_30 ?_
  refine lv_iload_n hx hb dX2_code_31 rfl (lv_at hl 1 rfl) ?_
  refine lv_isub hx hb dX2_code_32 ?_
  refine lv_iload hx hb dX2_code_33 (lv_at hl 0 rfl) ?_
  refine lv_isub hx hb dX2_code_35 ?_
  refine lv_bipush (v := 32) hx hb dX2_code_36 (by decide) ?_
  refine lv_imul hx hb dX2_code_38 ?_
  refine lv_iload hx hb dX2_code_39 (lv_at hl 0 rfl) ?_
  refine lv_iadd hx hb dX2_code_41 ?_
  exact rd_iret hx hb hr hlocks (by rfl) dX2_code_42
theorem hd_X2_isCairn : yX2_isCairn.cls = RX2 ∧ yX2_isCairn.cls ≠ "java/lang/invoke/MethodHandle" ∧ yX2_isCairn.cls ≠ "java/lang/invoke/VarHandle" ∧ (parseMethodDescriptor yX2_isCairn.desc).map (fun d => d.parameters.length) = some 1 := by decide +kernel
theorem in_X2_isCairn_X2 : ∀ w ∈ wsX20, w ∈ wsX2_isCairn := by decide +kernel
theorem fl_X2_isCairn_7 : (Cond.fieldLink RX2 7 "MoorTrianglesModel" "cairns" "I") ∈ wsX2_isCairn := by decide +kernel
set_option maxHeartbeats 4000000 in
set_option maxRecDepth 100000 in
theorem c_X2_isCairn (l : Launch) (dC : Nat → ClassId) (dI : Nat → Nat → Nat) (cI cZ cY : ClassId) (h qx qy qh qt qs : Nat) (rw : Nat → Nat) (th : Int32) (n : Nat) (xs ys hs : Nat → Int32) (t : Nat) (tb : Nat → Int32) (sg : Nat → Nat → Int32) (fl : Int32) (a : Int32) : Met l yX2_isCairn wsX2_isCairn ({ frames := 1, cells := 0, slots := 0, locals := 22 }) (va_Pc [.ref h, .int a] (fun U => va_P (dC, dI) vwCl (wR cI cZ cY h qx qy qh qt qs rw th n xs ys hs t tb sg fl) U.heap ∧ va_K (dC, dI) vwCl (gTY cI cZ cY) U)) (vp_Si (fun r => r = bI (r_isIn a 0 (nI n - 1)))) 0 0 (fun _ => False) := by
  refine rd_start (cc := cX2_isCairn) (maxL := 2) (ret := (some .boolean)) RX2 (by decide) rfl rfl (Nat.le_of_ble_eq_true rfl) ?_
  intro p e s m below meth c ⟨hx, hb, hr, hml, hown, hts, hlocks⟩ hP hK ls hl
  have F : CallFix p m c cX2_isCairn 2 s ([.ref h, .int a] : List Value).toArray wsX2_isCairn RX2 := ⟨hx, hb, hml, hown, hts⟩
  have hl : lv_has ls 2 [(0, .ref h), (1, .int a)] := hl
  refine lv_iload_n hx hb dX2_isCairn_0 rfl (lv_at hl 1 rfl) ?_
  refine lv_iconst (v := 0) hx hb dX2_isCairn_1 (by decide) ?_
  refine lv_aload_n hx hb dX2_isCairn_2 rfl (lv_at hl 0 rfl) ?_
  refine va_get (D := (dC, dI)) (ci := 2) (v := .int (nI n)) (C := RX2) (T := TX2) (N := 9) hx hb hts in_X2_isCairn_X2 hown hK hP 0 rfl rfl 1 (by decide) (hts (.fieldLink RX2 7 "MoorTrianglesModel" "cairns" "I") fl_X2_isCairn_7) (fun _ h9 => h9) rfl dX2_isCairn_3 ?_
  refine lv_iconst (v := 1) hx hb dX2_isCairn_6 (by decide) ?_
  refine lv_isub hx hb dX2_isCairn_7 ?_
  refine rd_cSi (As := [.int a, .int 0, .int ((nI n) - 1)]) (rest := []) F (c_X2_isIn l dC dI cI cZ cY a 0 ((nI n) - 1)) (cwS 3 hts gX2_isCairn_X2_isIn rfl rfl rfl hd_X2_isIn ⟨Nat.le_of_ble_eq_true rfl, Nat.le_of_ble_eq_true rfl⟩) va_P0 hK rfl hl.1 rfl (lv_room (Nat.le_of_ble_eq_true rfl)) dX2_isCairn_8 ⟨Nat.zero_le _, Nat.zero_le _⟩ ?_
  exact rd_zret hx hb hr hlocks rfl dX2_isCairn_11
theorem hd_X2_corner : yX2_corner.cls = RX2 ∧ yX2_corner.cls ≠ "java/lang/invoke/MethodHandle" ∧ yX2_corner.cls ≠ "java/lang/invoke/VarHandle" ∧ (parseMethodDescriptor yX2_corner.desc).map (fun d => d.parameters.length) = some 2 := by decide +kernel
theorem in_X2_corner_X2 : ∀ w ∈ wsX20, w ∈ wsX2_corner := by decide +kernel
theorem fl_X2_corner_23 : (Cond.fieldLink RX2 23 "MoorTrianglesModel" "told" "[I") ∈ wsX2_corner := by decide +kernel
set_option maxHeartbeats 4000000 in
set_option maxRecDepth 100000 in
theorem c_X2_corner (l : Launch) (dC : Nat → ClassId) (dI : Nat → Nat → Nat) (cI cZ cY : ClassId) (h qx qy qh qt qs : Nat) (rw : Nat → Nat) (th : Int32) (n : Nat) (xs ys hs : Nat → Int32) (t : Nat) (tb : Nat → Int32) (sg : Nat → Nat → Int32) (fl : Int32) (k : Int32) (w : Int32) (ik : vp_in k 36) : Met l yX2_corner wsX2_corner ({ frames := 0, cells := 0, slots := 0, locals := 0 }) (va_Pc [.ref h, .int k, .int w] (fun U => va_P (dC, dI) vwCl (wR cI cZ cY h qx qy qh qt qs rw th n xs ys hs t tb sg fl) U.heap ∧ va_K (dC, dI) vwCl (gTY cI cZ cY) U)) (vp_Si (fun r => r = r_corner tb k w)) 0 0 (fun _ => False) := by
  refine rd_start (cc := cX2_corner) (maxL := 3) (ret := (some .int)) RX2 (by decide) rfl rfl (Nat.le_of_ble_eq_true rfl) ?_
  intro p e s m below meth c ⟨hx, hb, hr, hml, hown, hts, hlocks⟩ hP hK ls hl
  have F : CallFix p m c cX2_corner 3 s ([.ref h, .int k, .int w] : List Value).toArray wsX2_corner RX2 := ⟨hx, hb, hml, hown, hts⟩
  have hl : lv_has ls 3 [(0, .ref h), (1, .int k), (2, .int w)] := hl
  refine lv_iload_n hx hb dX2_corner_0 rfl (lv_at hl 2 rfl) ?_
  refine lv_if_ne (tgt := 19) hx hb dX2_corner_1 (by decide) (fun c_1 => ?_) (fun c_1 => ?_)
  · refine lv_iload_n hx hb dX2_corner_19 rfl (lv_at hl 2 rfl) ?_
    refine lv_iconst (v := 1) hx hb dX2_corner_20 (by decide) ?_
    refine lv_icmp_ne (tgt := 39) hx hb dX2_corner_21 (by decide) (fun c_2 => ?_) (fun c_2 => ?_)
    · refine lv_aload_n hx hb dX2_corner_39 rfl (lv_at hl 0 rfl) ?_
      refine va_get (D := (dC, dI)) (ci := 2) (v := .ref qt) (C := RX2) (T := TX2) (N := 9) hx hb hts in_X2_corner_X2 hown hK hP 0 rfl rfl 6 (by decide) (hts (.fieldLink RX2 23 "MoorTrianglesModel" "told" "[I") fl_X2_corner_23) (fun _ h9 => h9) rfl dX2_corner_40 ?_
      refine lv_iload_n hx hb dX2_corner_43 rfl (lv_at hl 1 rfl) ?_
      refine va_iald (D := (dC, dI)) hx hb hK hP 4 0 rfl rfl ik dX2_corner_44 ?_
      refine lv_bipush (v := 32) hx hb dX2_corner_45 (by decide) ?_
      refine lv_irem hx hb dX2_corner_47 (by decide) ?_
      exact rd_iret hx hb hr hlocks (by first | (rw [r_corner, if_neg c_1, if_neg c_2]; done) | (rw [r_corner, if_neg c_1, if_neg c_2]; rfl) | (simp only [r_corner, c_1, c_2]; done) | (simp only [r_corner, c_1, c_2]; rfl) | (simp [r_corner, c_1, c_2, bI]; done)) dX2_corner_48
    · refine lv_aload_n hx hb dX2_corner_24 rfl (lv_at hl 0 rfl) ?_
      refine va_get (D := (dC, dI)) (ci := 2) (v := .ref qt) (C := RX2) (T := TX2) (N := 9) hx hb hts in_X2_corner_X2 hown hK hP 0 rfl rfl 6 (by decide) (hts (.fieldLink RX2 23 "MoorTrianglesModel" "told" "[I") fl_X2_corner_23) (fun _ h9 => h9) rfl dX2_corner_25 ?_
      refine lv_iload_n hx hb dX2_corner_28 rfl (lv_at hl 1 rfl) ?_
      refine va_iald (D := (dC, dI)) hx hb hK hP 4 0 rfl rfl ik dX2_corner_29 ?_
      refine lv_bipush (v := 32) hx hb dX2_corner_30 (by decide) ?_
      refine lv_idiv hx hb dX2_corner_32 (by decide) ?_
      refine lv_bipush (v := 32) hx hb dX2_corner_33 (by decide) ?_
      refine lv_irem hx hb dX2_corner_35 (by decide) ?_
      refine lv_goto (tgt := 48) hx hb dX2_corner_36 (by decide) ?_
      exact rd_iret hx hb hr hlocks (by first | (rw [r_corner, if_neg c_1, if_pos c_2]; done) | (rw [r_corner, if_neg c_1, if_pos c_2]; rfl) | (simp only [r_corner, c_1, c_2]; done) | (simp only [r_corner, c_1, c_2]; rfl) | (simp [r_corner, c_1, c_2, bI]; done)) dX2_corner_48
  · refine lv_aload_n hx hb dX2_corner_4 rfl (lv_at hl 0 rfl) ?_
    refine va_get (D := (dC, dI)) (ci := 2) (v := .ref qt) (C := RX2) (T := TX2) (N := 9) hx hb hts in_X2_corner_X2 hown hK hP 0 rfl rfl 6 (by decide) (hts (.fieldLink RX2 23 "MoorTrianglesModel" "told" "[I") fl_X2_corner_23) (fun _ h9 => h9) rfl dX2_corner_5 ?_
    refine lv_iload_n hx hb dX2_corner_8 rfl (lv_at hl 1 rfl) ?_
    refine va_iald (D := (dC, dI)) hx hb hK hP 4 0 rfl rfl ik dX2_corner_9 ?_
    refine lv_bipush (v := 32) hx hb dX2_corner_10 (by decide) ?_
    refine lv_idiv hx hb dX2_corner_12 (by decide) ?_
    refine lv_bipush (v := 32) hx hb dX2_corner_13 (by decide) ?_
    refine lv_idiv hx hb dX2_corner_15 (by decide) ?_
    refine lv_goto (tgt := 48) hx hb dX2_corner_16 (by decide) ?_
    exact rd_iret hx hb hr hlocks (by first | (rw [r_corner, if_pos c_1]; done) | (rw [r_corner, if_pos c_1]; rfl) | (simp only [r_corner, c_1]; done) | (simp only [r_corner, c_1]; rfl) | (simp [r_corner, c_1, bI]; done)) dX2_corner_48
theorem hd_X2_has : yX2_has.cls = RX2 ∧ yX2_has.cls ≠ "java/lang/invoke/MethodHandle" ∧ yX2_has.cls ≠ "java/lang/invoke/VarHandle" ∧ (parseMethodDescriptor yX2_has.desc).map (fun d => d.parameters.length) = some 2 := by decide +kernel
set_option maxHeartbeats 4000000 in
set_option maxRecDepth 100000 in
theorem c_X2_has (l : Launch) (dC : Nat → ClassId) (dI : Nat → Nat → Nat) (cI cZ cY : ClassId) (h qx qy qh qt qs : Nat) (rw : Nat → Nat) (th : Int32) (n : Nat) (xs ys hs : Nat → Int32) (t : Nat) (tb : Nat → Int32) (sg : Nat → Nat → Int32) (fl : Int32) (k : Int32) (z : Int32) (ik : vp_in k 36) : Met l yX2_has wsX2_has ({ frames := 1, cells := 0, slots := 0, locals := 22 }) (va_Pc [.ref h, .int k, .int z] (fun U => va_P (dC, dI) vwCl (wR cI cZ cY h qx qy qh qt qs rw th n xs ys hs t tb sg fl) U.heap ∧ va_K (dC, dI) vwCl (gTY cI cZ cY) U)) (vp_Si (fun r => r = bI (r_has tb k z))) 0 0 (fun _ => False) := by
  refine rd_start (cc := cX2_has) (maxL := 3) (ret := (some .boolean)) RX2 (by decide) rfl rfl (Nat.le_of_ble_eq_true rfl) ?_
  intro p e s m below meth c ⟨hx, hb, hr, hml, hown, hts, hlocks⟩ hP hK ls hl
  have F : CallFix p m c cX2_has 3 s ([.ref h, .int k, .int z] : List Value).toArray wsX2_has RX2 := ⟨hx, hb, hml, hown, hts⟩
  have hl : lv_has ls 3 [(0, .ref h), (1, .int k), (2, .int z)] := hl
  refine lv_aload_n hx hb dX2_has_0 rfl (lv_at hl 0 rfl) ?_
  refine lv_iload_n hx hb dX2_has_1 rfl (lv_at hl 1 rfl) ?_
  refine lv_iconst (v := 0) hx hb dX2_has_2 (by decide) ?_
  refine rd_cVi (As := [.int k, .int 0]) (rest := []) F (c_X2_corner l dC dI cI cZ cY h qx qy qh qt qs rw th n xs ys hs t tb sg fl k 0 ik) (cwV 2 hts gX2_has_X2_corner rfl rfl rfl hd_X2_corner ⟨Nat.le_of_ble_eq_true rfl, Nat.le_of_ble_eq_true rfl⟩) hP hK (va_recv hK hP (ci := 2) (q0 := 0) rfl rfl) rfl hl.1 rfl (lv_room (Nat.le_of_ble_eq_true rfl)) dX2_has_3 ⟨Nat.zero_le _, Nat.zero_le _⟩ ?_
  refine lv_iload_n hx hb dX2_has_6 rfl (lv_at hl 2 rfl) ?_
  refine lv_icmp_eq (tgt := 30) hx hb dX2_has_7 (by decide) (fun c_1 => ?_) (fun c_1 => ?_)
  · refine lv_iconst (v := 1) hx hb dX2_has_30 (by decide) ?_
    refine lv_goto (tgt := 35) hx hb dX2_has_31 (by decide) ?_
    exact rd_zret hx hb hr hlocks (by first | (rw [r_has, if_pos c_1]; done) | (rw [r_has, if_pos c_1]; rfl) | (simp only [r_has, c_1]; done) | (simp only [r_has, c_1]; rfl) | (simp [r_has, c_1, bI]; done)) dX2_has_35
  · refine lv_aload_n hx hb dX2_has_10 rfl (lv_at hl 0 rfl) ?_
    refine lv_iload_n hx hb dX2_has_11 rfl (lv_at hl 1 rfl) ?_
    refine lv_iconst (v := 1) hx hb dX2_has_12 (by decide) ?_
    refine rd_cVi (As := [.int k, .int 1]) (rest := []) F (c_X2_corner l dC dI cI cZ cY h qx qy qh qt qs rw th n xs ys hs t tb sg fl k 1 ik) (cwV 2 hts gX2_has_X2_corner rfl rfl rfl hd_X2_corner ⟨Nat.le_of_ble_eq_true rfl, Nat.le_of_ble_eq_true rfl⟩) hP hK (va_recv hK hP (ci := 2) (q0 := 0) rfl rfl) rfl hl.1 rfl (lv_room (Nat.le_of_ble_eq_true rfl)) dX2_has_13 ⟨Nat.zero_le _, Nat.zero_le _⟩ ?_
    refine lv_iload_n hx hb dX2_has_16 rfl (lv_at hl 2 rfl) ?_
    refine lv_icmp_eq (tgt := 30) hx hb dX2_has_17 (by decide) (fun c_2 => ?_) (fun c_2 => ?_)
    · refine lv_iconst (v := 1) hx hb dX2_has_30 (by decide) ?_
      refine lv_goto (tgt := 35) hx hb dX2_has_31 (by decide) ?_
      exact rd_zret hx hb hr hlocks (by first | (rw [r_has, if_neg c_1, if_pos c_2]; done) | (rw [r_has, if_neg c_1, if_pos c_2]; rfl) | (simp only [r_has, c_1, c_2]; done) | (simp only [r_has, c_1, c_2]; rfl) | (simp [r_has, c_1, c_2, bI]; done)) dX2_has_35
    · refine lv_aload_n hx hb dX2_has_20 rfl (lv_at hl 0 rfl) ?_
      refine lv_iload_n hx hb dX2_has_21 rfl (lv_at hl 1 rfl) ?_
      refine lv_iconst (v := 2) hx hb dX2_has_22 (by decide) ?_
      refine rd_cVi (As := [.int k, .int 2]) (rest := []) F (c_X2_corner l dC dI cI cZ cY h qx qy qh qt qs rw th n xs ys hs t tb sg fl k 2 ik) (cwV 2 hts gX2_has_X2_corner rfl rfl rfl hd_X2_corner ⟨Nat.le_of_ble_eq_true rfl, Nat.le_of_ble_eq_true rfl⟩) hP hK (va_recv hK hP (ci := 2) (q0 := 0) rfl rfl) rfl hl.1 rfl (lv_room (Nat.le_of_ble_eq_true rfl)) dX2_has_23 ⟨Nat.zero_le _, Nat.zero_le _⟩ ?_
      refine lv_iload_n hx hb dX2_has_26 rfl (lv_at hl 2 rfl) ?_
      refine lv_icmp_ne (tgt := 34) hx hb dX2_has_27 (by decide) (fun c_3 => ?_) (fun c_3 => ?_)
      · refine lv_iconst (v := 0) hx hb dX2_has_34 (by decide) ?_
        exact rd_zret hx hb hr hlocks (by first | (rw [r_has, if_neg c_1, if_neg c_2, if_neg c_3]; done) | (rw [r_has, if_neg c_1, if_neg c_2, if_neg c_3]; rfl) | (simp only [r_has, c_1, c_2, c_3]; done) | (simp only [r_has, c_1, c_2, c_3]; rfl) | (simp [r_has, c_1, c_2, c_3, bI]; done)) dX2_has_35
      · refine lv_iconst (v := 1) hx hb dX2_has_30 (by decide) ?_
        refine lv_goto (tgt := 35) hx hb dX2_has_31 (by decide) ?_
        exact rd_zret hx hb hr hlocks (by first | (rw [r_has, if_neg c_1, if_neg c_2, if_pos c_3]; done) | (rw [r_has, if_neg c_1, if_neg c_2, if_pos c_3]; rfl) | (simp only [r_has, c_1, c_2, c_3]; done) | (simp only [r_has, c_1, c_2, c_3]; rfl) | (simp [r_has, c_1, c_2, c_3, bI]; done)) dX2_has_35
theorem hd_X2_area : yX2_area.cls = RX2 ∧ yX2_area.cls ≠ "java/lang/invoke/MethodHandle" ∧ yX2_area.cls ≠ "java/lang/invoke/VarHandle" ∧ (parseMethodDescriptor yX2_area.desc).map (fun d => d.parameters.length) = some 4 := by decide +kernel
theorem in_X2_area_X2 : ∀ w ∈ wsX20, w ∈ wsX2_area := by decide +kernel
theorem fl_X2_area_13 : (Cond.fieldLink RX2 13 "MoorTrianglesModel" "xs" "[I") ∈ wsX2_area := by decide +kernel
theorem fl_X2_area_17 : (Cond.fieldLink RX2 17 "MoorTrianglesModel" "ys" "[I") ∈ wsX2_area := by decide +kernel
set_option maxHeartbeats 4000000 in
set_option maxRecDepth 100000 in
theorem c_X2_area (l : Launch) (dC : Nat → ClassId) (dI : Nat → Nat → Nat) (cI cZ cY : ClassId) (h qx qy qh qt qs : Nat) (rw : Nat → Nat) (th : Int32) (n : Nat) (xs ys hs : Nat → Int32) (t : Nat) (tb : Nat → Int32) (sg : Nat → Nat → Int32) (fl : Int32) (a : Int32) (b : Int32) (x : Int32) (y : Int32) (ia : vp_in a 17) (ib : vp_in b 17) : Met l yX2_area wsX2_area ({ frames := 0, cells := 0, slots := 0, locals := 0 }) (va_Pc [.ref h, .int a, .int b, .int x, .int y] (fun U => va_P (dC, dI) vwCl (wR cI cZ cY h qx qy qh qt qs rw th n xs ys hs t tb sg fl) U.heap ∧ va_K (dC, dI) vwCl (gTY cI cZ cY) U)) (vp_Si (fun r => r = r_area xs ys a b x y)) 0 0 (fun _ => False) := by
  refine rd_start (cc := cX2_area) (maxL := 5) (ret := (some .int)) RX2 (by decide) rfl rfl (Nat.le_of_ble_eq_true rfl) ?_
  intro p e s m below meth c ⟨hx, hb, hr, hml, hown, hts, hlocks⟩ hP hK ls hl
  have F : CallFix p m c cX2_area 5 s ([.ref h, .int a, .int b, .int x, .int y] : List Value).toArray wsX2_area RX2 := ⟨hx, hb, hml, hown, hts⟩
  have hl : lv_has ls 5 [(0, .ref h), (1, .int a), (2, .int b), (3, .int x), (4, .int y)] := hl
  refine lv_aload_n hx hb dX2_area_0 rfl (lv_at hl 0 rfl) ?_
  refine va_get (D := (dC, dI)) (ci := 2) (v := .ref qx) (C := RX2) (T := TX2) (N := 9) hx hb hts in_X2_area_X2 hown hK hP 0 rfl rfl 2 (by decide) (hts (.fieldLink RX2 13 "MoorTrianglesModel" "xs" "[I") fl_X2_area_13) (fun _ h9 => h9) rfl dX2_area_1 ?_
  refine lv_iload_n hx hb dX2_area_4 rfl (lv_at hl 2 rfl) ?_
  refine va_iald (D := (dC, dI)) hx hb hK hP 1 0 rfl rfl ib dX2_area_5 ?_
  refine lv_aload_n hx hb dX2_area_6 rfl (lv_at hl 0 rfl) ?_
  refine va_get (D := (dC, dI)) (ci := 2) (v := .ref qx) (C := RX2) (T := TX2) (N := 9) hx hb hts in_X2_area_X2 hown hK hP 0 rfl rfl 2 (by decide) (hts (.fieldLink RX2 13 "MoorTrianglesModel" "xs" "[I") fl_X2_area_13) (fun _ h9 => h9) rfl dX2_area_7 ?_
  refine lv_iload_n hx hb dX2_area_10 rfl (lv_at hl 1 rfl) ?_
  refine va_iald (D := (dC, dI)) hx hb hK hP 1 0 rfl rfl ia dX2_area_11 ?_
  refine lv_isub hx hb dX2_area_12 ?_
  refine lv_iload hx hb dX2_area_13 (lv_at hl 4 rfl) ?_
  refine lv_aload_n hx hb dX2_area_15 rfl (lv_at hl 0 rfl) ?_
  refine va_get (D := (dC, dI)) (ci := 2) (v := .ref qy) (C := RX2) (T := TX2) (N := 9) hx hb hts in_X2_area_X2 hown hK hP 0 rfl rfl 3 (by decide) (hts (.fieldLink RX2 17 "MoorTrianglesModel" "ys" "[I") fl_X2_area_17) (fun _ h9 => h9) rfl dX2_area_16 ?_
  refine lv_iload_n hx hb dX2_area_19 rfl (lv_at hl 1 rfl) ?_
  refine va_iald (D := (dC, dI)) hx hb hK hP 2 0 rfl rfl ia dX2_area_20 ?_
  refine lv_isub hx hb dX2_area_21 ?_
  refine lv_imul hx hb dX2_area_22 ?_
  refine lv_aload_n hx hb dX2_area_23 rfl (lv_at hl 0 rfl) ?_
  refine va_get (D := (dC, dI)) (ci := 2) (v := .ref qy) (C := RX2) (T := TX2) (N := 9) hx hb hts in_X2_area_X2 hown hK hP 0 rfl rfl 3 (by decide) (hts (.fieldLink RX2 17 "MoorTrianglesModel" "ys" "[I") fl_X2_area_17) (fun _ h9 => h9) rfl dX2_area_24 ?_
  refine lv_iload_n hx hb dX2_area_27 rfl (lv_at hl 2 rfl) ?_
  refine va_iald (D := (dC, dI)) hx hb hK hP 2 0 rfl rfl ib dX2_area_28 ?_
  refine lv_aload_n hx hb dX2_area_29 rfl (lv_at hl 0 rfl) ?_
  refine va_get (D := (dC, dI)) (ci := 2) (v := .ref qy) (C := RX2) (T := TX2) (N := 9) hx hb hts in_X2_area_X2 hown hK hP 0 rfl rfl 3 (by decide) (hts (.fieldLink RX2 17 "MoorTrianglesModel" "ys" "[I") fl_X2_area_17) (fun _ h9 => h9) rfl dX2_area_30 ?_
  refine lv_iload_n hx hb dX2_area_33 rfl (lv_at hl 1 rfl) ?_
  refine va_iald (D := (dC, dI)) hx hb hK hP 2 0 rfl rfl ia dX2_area_34 ?_
  refine lv_isub hx hb dX2_area_35 ?_
  refine lv_iload_n hx hb dX2_area_36 rfl (lv_at hl 3 rfl) ?_
  refine lv_aload_n hx hb dX2_area_37 rfl (lv_at hl 0 rfl) ?_
  refine va_get (D := (dC, dI)) (ci := 2) (v := .ref qx) (C := RX2) (T := TX2) (N := 9) hx hb hts in_X2_area_X2 hown hK hP 0 rfl rfl 2 (by decide) (hts (.fieldLink RX2 13 "MoorTrianglesModel" "xs" "[I") fl_X2_area_13) (fun _ h9 => h9) rfl dX2_area_38 ?_
  refine lv_iload_n hx hb dX2_area_41 rfl (lv_at hl 1 rfl) ?_
  refine va_iald (D := (dC, dI)) hx hb hK hP 1 0 rfl rfl ia dX2_area_42 ?_
  refine lv_isub hx hb dX2_area_43 ?_
  refine lv_imul hx hb dX2_area_44 ?_
  refine lv_isub hx hb dX2_area_45 ?_
  exact rd_iret hx hb hr hlocks rfl dX2_area_46
theorem hd_X2_areaOf : yX2_areaOf.cls = RX2 ∧ yX2_areaOf.cls ≠ "java/lang/invoke/MethodHandle" ∧ yX2_areaOf.cls ≠ "java/lang/invoke/VarHandle" ∧ (parseMethodDescriptor yX2_areaOf.desc).map (fun d => d.parameters.length) = some 1 := by decide +kernel
theorem in_X2_areaOf_X2 : ∀ w ∈ wsX20, w ∈ wsX2_areaOf := by decide +kernel
theorem fl_X2_areaOf_13 : (Cond.fieldLink RX2 13 "MoorTrianglesModel" "xs" "[I") ∈ wsX2_areaOf := by decide +kernel
theorem fl_X2_areaOf_17 : (Cond.fieldLink RX2 17 "MoorTrianglesModel" "ys" "[I") ∈ wsX2_areaOf := by decide +kernel
theorem ma0_X2_areaOf_abs : (Cond.methodLink RX2 71 Lib.Math.abs.name) ∈ wsX2_areaOf := by decide +kernel
theorem ma1_X2_areaOf_abs : (Cond.static Lib.Math.abs.name) ∈ wsX2_areaOf := by decide +kernel
theorem ma2_X2_areaOf_abs : (Cond.initialized "java/lang/Math") ∈ wsX2_areaOf := by decide +kernel
theorem ma3_X2_areaOf_abs : (Cond.code Lib.Math.abs.name Lib.Math.abs.code 1 (some .int)) ∈ wsX2_areaOf := by decide +kernel
set_option maxHeartbeats 4000000 in
set_option maxRecDepth 100000 in
theorem c_X2_areaOf (l : Launch) (dC : Nat → ClassId) (dI : Nat → Nat → Nat) (cI cZ cY : ClassId) (h qx qy qh qt qs : Nat) (rw : Nat → Nat) (th : Int32) (n : Nat) (xs ys hs : Nat → Int32) (t : Nat) (tb : Nat → Int32) (sg : Nat → Nat → Int32) (fl : Int32) (k : Int32) (ik : vp_in k 36) (i0 : vp_in (r_corner tb k 0) 17) (i1 : vp_in (r_corner tb k 1) 17) (i2 : vp_in (r_corner tb k 2) 17) : Met l yX2_areaOf wsX2_areaOf ({ frames := 1, cells := 0, slots := 0, locals := 24 }) (va_Pc [.ref h, .int k] (fun U => va_P (dC, dI) vwCl (wR cI cZ cY h qx qy qh qt qs rw th n xs ys hs t tb sg fl) U.heap ∧ va_K (dC, dI) vwCl (gTY cI cZ cY) U)) (vp_Si (fun r => r = r_areaOf xs ys tb k)) 0 0 (fun _ => False) := by
  refine rd_start (cc := cX2_areaOf) (maxL := 2) (ret := (some .int)) RX2 (by decide) rfl rfl (Nat.le_of_ble_eq_true rfl) ?_
  intro p e s m below meth c ⟨hx, hb, hr, hml, hown, hts, hlocks⟩ hP hK ls hl
  have F : CallFix p m c cX2_areaOf 2 s ([.ref h, .int k] : List Value).toArray wsX2_areaOf RX2 := ⟨hx, hb, hml, hown, hts⟩
  have hl : lv_has ls 2 [(0, .ref h), (1, .int k)] := hl
  refine lv_aload_n hx hb dX2_areaOf_0 rfl (lv_at hl 0 rfl) ?_
  refine lv_aload_n hx hb dX2_areaOf_1 rfl (lv_at hl 0 rfl) ?_
  refine lv_iload_n hx hb dX2_areaOf_2 rfl (lv_at hl 1 rfl) ?_
  refine lv_iconst (v := 0) hx hb dX2_areaOf_3 (by decide) ?_
  refine rd_cVi (As := [.int k, .int 0]) (rest := [.ref h]) F (c_X2_corner l dC dI cI cZ cY h qx qy qh qt qs rw th n xs ys hs t tb sg fl k 0 ik) (cwV 2 hts gX2_areaOf_X2_corner rfl rfl rfl hd_X2_corner ⟨Nat.le_of_ble_eq_true rfl, Nat.le_of_ble_eq_true rfl⟩) hP hK (va_recv hK hP (ci := 2) (q0 := 0) rfl rfl) rfl hl.1 rfl (lv_room (Nat.le_of_ble_eq_true rfl)) dX2_areaOf_4 ⟨Nat.zero_le _, Nat.zero_le _⟩ ?_
  refine lv_aload_n hx hb dX2_areaOf_7 rfl (lv_at hl 0 rfl) ?_
  refine lv_iload_n hx hb dX2_areaOf_8 rfl (lv_at hl 1 rfl) ?_
  refine lv_iconst (v := 1) hx hb dX2_areaOf_9 (by decide) ?_
  refine rd_cVi (As := [.int k, .int 1]) (rest := [.int (r_corner tb k 0), .ref h]) F (c_X2_corner l dC dI cI cZ cY h qx qy qh qt qs rw th n xs ys hs t tb sg fl k 1 ik) (cwV 2 hts gX2_areaOf_X2_corner rfl rfl rfl hd_X2_corner ⟨Nat.le_of_ble_eq_true rfl, Nat.le_of_ble_eq_true rfl⟩) hP hK (va_recv hK hP (ci := 2) (q0 := 0) rfl rfl) rfl hl.1 rfl (lv_room (Nat.le_of_ble_eq_true rfl)) dX2_areaOf_10 ⟨Nat.zero_le _, Nat.zero_le _⟩ ?_
  refine lv_aload_n hx hb dX2_areaOf_13 rfl (lv_at hl 0 rfl) ?_
  refine va_get (D := (dC, dI)) (ci := 2) (v := .ref qx) (C := RX2) (T := TX2) (N := 9) hx hb hts in_X2_areaOf_X2 hown hK hP 0 rfl rfl 2 (by decide) (hts (.fieldLink RX2 13 "MoorTrianglesModel" "xs" "[I") fl_X2_areaOf_13) (fun _ h9 => h9) rfl dX2_areaOf_14 ?_
  refine lv_aload_n hx hb dX2_areaOf_17 rfl (lv_at hl 0 rfl) ?_
  refine lv_iload_n hx hb dX2_areaOf_18 rfl (lv_at hl 1 rfl) ?_
  refine lv_iconst (v := 2) hx hb dX2_areaOf_19 (by decide) ?_
  refine rd_cVi (As := [.int k, .int 2]) (rest := [.ref qx, .int (r_corner tb k 1), .int (r_corner tb k 0), .ref h]) F (c_X2_corner l dC dI cI cZ cY h qx qy qh qt qs rw th n xs ys hs t tb sg fl k 2 ik) (cwV 2 hts gX2_areaOf_X2_corner rfl rfl rfl hd_X2_corner ⟨Nat.le_of_ble_eq_true rfl, Nat.le_of_ble_eq_true rfl⟩) hP hK (va_recv hK hP (ci := 2) (q0 := 0) rfl rfl) rfl hl.1 rfl (lv_room (Nat.le_of_ble_eq_true rfl)) dX2_areaOf_20 ⟨Nat.zero_le _, Nat.zero_le _⟩ ?_
  refine va_iald (D := (dC, dI)) hx hb hK hP 1 0 rfl rfl i2 dX2_areaOf_23 ?_
  refine lv_aload_n hx hb dX2_areaOf_24 rfl (lv_at hl 0 rfl) ?_
  refine va_get (D := (dC, dI)) (ci := 2) (v := .ref qy) (C := RX2) (T := TX2) (N := 9) hx hb hts in_X2_areaOf_X2 hown hK hP 0 rfl rfl 3 (by decide) (hts (.fieldLink RX2 17 "MoorTrianglesModel" "ys" "[I") fl_X2_areaOf_17) (fun _ h9 => h9) rfl dX2_areaOf_25 ?_
  refine lv_aload_n hx hb dX2_areaOf_28 rfl (lv_at hl 0 rfl) ?_
  refine lv_iload_n hx hb dX2_areaOf_29 rfl (lv_at hl 1 rfl) ?_
  refine lv_iconst (v := 2) hx hb dX2_areaOf_30 (by decide) ?_
  refine rd_cVi (As := [.int k, .int 2]) (rest := [.ref qy, .int (xs (r_corner tb k 2).toNatClampNeg), .int (r_corner tb k 1), .int (r_corner tb k 0), .ref h]) F (c_X2_corner l dC dI cI cZ cY h qx qy qh qt qs rw th n xs ys hs t tb sg fl k 2 ik) (cwV 2 hts gX2_areaOf_X2_corner rfl rfl rfl hd_X2_corner ⟨Nat.le_of_ble_eq_true rfl, Nat.le_of_ble_eq_true rfl⟩) hP hK (va_recv hK hP (ci := 2) (q0 := 0) rfl rfl) rfl hl.1 rfl (lv_room (Nat.le_of_ble_eq_true rfl)) dX2_areaOf_31 ⟨Nat.zero_le _, Nat.zero_le _⟩ ?_
  refine va_iald (D := (dC, dI)) hx hb hK hP 2 0 rfl rfl i2 dX2_areaOf_34 ?_
  refine rd_cVi (As := [.int (r_corner tb k 0), .int (r_corner tb k 1), .int (xs (r_corner tb k 2).toNatClampNeg), .int (ys (r_corner tb k 2).toNatClampNeg)]) (rest := []) F (c_X2_area l dC dI cI cZ cY h qx qy qh qt qs rw th n xs ys hs t tb sg fl (r_corner tb k 0) (r_corner tb k 1) (xs (r_corner tb k 2).toNatClampNeg) (ys (r_corner tb k 2).toNatClampNeg) i0 i1) (cwV 4 hts gX2_areaOf_X2_area rfl rfl rfl hd_X2_area ⟨Nat.le_of_ble_eq_true rfl, Nat.le_of_ble_eq_true rfl⟩) hP hK (va_recv hK hP (ci := 2) (q0 := 0) rfl rfl) rfl hl.1 rfl (lv_room (Nat.le_of_ble_eq_true rfl)) dX2_areaOf_35 ⟨Nat.zero_le _, Nat.zero_le _⟩ ?_
  refine va_mabs hx hb (hml.trans hl.1.symm) hown (hts _ ma0_X2_areaOf_abs) (hts _ ma1_X2_areaOf_abs) (hts _ ma2_X2_areaOf_abs) (hts _ ma3_X2_areaOf_abs) (Nat.le_of_ble_eq_true rfl) (Nat.le_of_ble_eq_true rfl) (Nat.zero_le _) (Nat.zero_le _) dX2_areaOf_38 ?_
  show W _ _ _ _ _ _ _ _ _ _ _ _ _ _ _ (F0 _ _ _ (.int (abs32 (r_area xs ys (r_corner tb k 0) (r_corner tb k 1) (xs (r_corner tb k 2).toNatClampNeg) (ys (r_corner tb k 2).toNatClampNeg))) :: _))
  exact rd_iret hx hb hr hlocks rfl dX2_areaOf_41
theorem hd_X2_far : yX2_far.cls = RX2 ∧ yX2_far.cls ≠ "java/lang/invoke/MethodHandle" ∧ yX2_far.cls ≠ "java/lang/invoke/VarHandle" ∧ (parseMethodDescriptor yX2_far.desc).map (fun d => d.parameters.length) = some 3 := by decide +kernel
set_option maxHeartbeats 4000000 in
set_option maxRecDepth 100000 in
theorem c_X2_far (l : Launch) (dC : Nat → ClassId) (dI : Nat → Nat → Nat) (cI cZ cY : ClassId) (h qx qy qh qt qs : Nat) (rw : Nat → Nat) (th : Int32) (n : Nat) (xs ys hs : Nat → Int32) (t : Nat) (tb : Nat → Int32) (sg : Nat → Nat → Int32) (fl : Int32) (k : Int32) (a : Int32) (b : Int32) (ik : vp_in k 36) : Met l yX2_far wsX2_far ({ frames := 2, cells := 0, slots := 0, locals := 44 }) (va_Pc [.ref h, .int k, .int a, .int b] (fun U => va_P (dC, dI) vwCl (wR cI cZ cY h qx qy qh qt qs rw th n xs ys hs t tb sg fl) U.heap ∧ va_K (dC, dI) vwCl (gTY cI cZ cY) U)) (vp_Si (fun r => r = r_far tb k a b)) 0 0 (fun _ => False) := by
  refine rd_start (cc := cX2_far) (maxL := 4) (ret := (some .int)) RX2 (by decide) rfl rfl (Nat.le_of_ble_eq_true rfl) ?_
  intro p e s m below meth c ⟨hx, hb, hr, hml, hown, hts, hlocks⟩ hP hK ls hl
  have F : CallFix p m c cX2_far 4 s ([.ref h, .int k, .int a, .int b] : List Value).toArray wsX2_far RX2 := ⟨hx, hb, hml, hown, hts⟩
  have hl : lv_has ls 4 [(0, .ref h), (1, .int k), (2, .int a), (3, .int b)] := hl
  refine lv_iload_n hx hb dX2_far_0 rfl (lv_at hl 2 rfl) ?_
  refine lv_iload_n hx hb dX2_far_1 rfl (lv_at hl 3 rfl) ?_
  refine lv_icmp_eq (tgt := 50) hx hb dX2_far_2 (by decide) (fun c_1 => ?_) (fun c_1 => ?_)
  · refine lv_iconst (v := (-1)) hx hb dX2_far_50 (by decide) ?_
    exact rd_iret hx hb hr hlocks (by first | (rw [r_far, if_pos c_1]; done) | (rw [r_far, if_pos c_1]; rfl) | (simp only [r_far, c_1]; done) | (simp only [r_far, c_1]; rfl) | (simp [r_far, c_1, bI]; done)) dX2_far_51
  · refine lv_aload_n hx hb dX2_far_5 rfl (lv_at hl 0 rfl) ?_
    refine lv_iload_n hx hb dX2_far_6 rfl (lv_at hl 1 rfl) ?_
    refine lv_iload_n hx hb dX2_far_7 rfl (lv_at hl 2 rfl) ?_
    refine rd_cVi (As := [.int k, .int a]) (rest := []) F (c_X2_has l dC dI cI cZ cY h qx qy qh qt qs rw th n xs ys hs t tb sg fl k a ik) (cwV 2 hts gX2_far_X2_has rfl rfl rfl hd_X2_has ⟨Nat.le_of_ble_eq_true rfl, Nat.le_of_ble_eq_true rfl⟩) hP hK (va_recv hK hP (ci := 2) (q0 := 0) rfl rfl) rfl hl.1 rfl (lv_room (Nat.le_of_ble_eq_true rfl)) dX2_far_8 ⟨Nat.zero_le _, Nat.zero_le _⟩ ?_
    refine lv_if_eqB (tgt := 50) hx hb dX2_far_11 (by decide) (fun c_2 => ?_) (fun c_2 => ?_)
    · refine lv_iconst (v := (-1)) hx hb dX2_far_50 (by decide) ?_
      exact rd_iret hx hb hr hlocks (by first | (rw [r_far, if_neg c_1, if_pos c_2]; done) | (rw [r_far, if_neg c_1, if_pos c_2]; rfl) | (simp only [r_far, c_1, c_2]; done) | (simp only [r_far, c_1, c_2]; rfl) | (simp [r_far, c_1, c_2, bI]; done)) dX2_far_51
    · refine lv_aload_n hx hb dX2_far_14 rfl (lv_at hl 0 rfl) ?_
      refine lv_iload_n hx hb dX2_far_15 rfl (lv_at hl 1 rfl) ?_
      refine lv_iload_n hx hb dX2_far_16 rfl (lv_at hl 3 rfl) ?_
      refine rd_cVi (As := [.int k, .int b]) (rest := []) F (c_X2_has l dC dI cI cZ cY h qx qy qh qt qs rw th n xs ys hs t tb sg fl k b ik) (cwV 2 hts gX2_far_X2_has rfl rfl rfl hd_X2_has ⟨Nat.le_of_ble_eq_true rfl, Nat.le_of_ble_eq_true rfl⟩) hP hK (va_recv hK hP (ci := 2) (q0 := 0) rfl rfl) rfl hl.1 rfl (lv_room (Nat.le_of_ble_eq_true rfl)) dX2_far_17 ⟨Nat.zero_le _, Nat.zero_le _⟩ ?_
      refine lv_if_eqB (tgt := 50) hx hb dX2_far_20 (by decide) (fun c_3 => ?_) (fun c_3 => ?_)
      · refine lv_iconst (v := (-1)) hx hb dX2_far_50 (by decide) ?_
        exact rd_iret hx hb hr hlocks (by first | (rw [r_far, if_neg c_1, if_pos c_2, if_pos c_3]; done) | (rw [r_far, if_neg c_1, if_pos c_2, if_pos c_3]; rfl) | (simp only [r_far, c_1, c_2, c_3]; done) | (simp only [r_far, c_1, c_2, c_3]; rfl) | (simp [r_far, c_1, c_2, c_3, bI]; done)) dX2_far_51
      · refine lv_aload_n hx hb dX2_far_23 rfl (lv_at hl 0 rfl) ?_
        refine lv_iload_n hx hb dX2_far_24 rfl (lv_at hl 1 rfl) ?_
        refine lv_iconst (v := 0) hx hb dX2_far_25 (by decide) ?_
        refine rd_cVi (As := [.int k, .int 0]) (rest := []) F (c_X2_corner l dC dI cI cZ cY h qx qy qh qt qs rw th n xs ys hs t tb sg fl k 0 ik) (cwV 2 hts gX2_far_X2_corner rfl rfl rfl hd_X2_corner ⟨Nat.le_of_ble_eq_true rfl, Nat.le_of_ble_eq_true rfl⟩) hP hK (va_recv hK hP (ci := 2) (q0 := 0) rfl rfl) rfl hl.1 rfl (lv_room (Nat.le_of_ble_eq_true rfl)) dX2_far_26 ⟨Nat.zero_le _, Nat.zero_le _⟩ ?_
        refine lv_aload_n hx hb dX2_far_29 rfl (lv_at hl 0 rfl) ?_
        refine lv_iload_n hx hb dX2_far_30 rfl (lv_at hl 1 rfl) ?_
        refine lv_iconst (v := 1) hx hb dX2_far_31 (by decide) ?_
        refine rd_cVi (As := [.int k, .int 1]) (rest := [.int (r_corner tb k 0)]) F (c_X2_corner l dC dI cI cZ cY h qx qy qh qt qs rw th n xs ys hs t tb sg fl k 1 ik) (cwV 2 hts gX2_far_X2_corner rfl rfl rfl hd_X2_corner ⟨Nat.le_of_ble_eq_true rfl, Nat.le_of_ble_eq_true rfl⟩) hP hK (va_recv hK hP (ci := 2) (q0 := 0) rfl rfl) rfl hl.1 rfl (lv_room (Nat.le_of_ble_eq_true rfl)) dX2_far_32 ⟨Nat.zero_le _, Nat.zero_le _⟩ ?_
        refine lv_iadd hx hb dX2_far_35 ?_
        refine lv_aload_n hx hb dX2_far_36 rfl (lv_at hl 0 rfl) ?_
        refine lv_iload_n hx hb dX2_far_37 rfl (lv_at hl 1 rfl) ?_
        refine lv_iconst (v := 2) hx hb dX2_far_38 (by decide) ?_
        refine rd_cVi (As := [.int k, .int 2]) (rest := [.int ((r_corner tb k 0) + (r_corner tb k 1))]) F (c_X2_corner l dC dI cI cZ cY h qx qy qh qt qs rw th n xs ys hs t tb sg fl k 2 ik) (cwV 2 hts gX2_far_X2_corner rfl rfl rfl hd_X2_corner ⟨Nat.le_of_ble_eq_true rfl, Nat.le_of_ble_eq_true rfl⟩) hP hK (va_recv hK hP (ci := 2) (q0 := 0) rfl rfl) rfl hl.1 rfl (lv_room (Nat.le_of_ble_eq_true rfl)) dX2_far_39 ⟨Nat.zero_le _, Nat.zero_le _⟩ ?_
        refine lv_iadd hx hb dX2_far_42 ?_
        refine lv_iload_n hx hb dX2_far_43 rfl (lv_at hl 2 rfl) ?_
        refine lv_isub hx hb dX2_far_44 ?_
        refine lv_iload_n hx hb dX2_far_45 rfl (lv_at hl 3 rfl) ?_
        refine lv_isub hx hb dX2_far_46 ?_
        refine lv_goto (tgt := 51) hx hb dX2_far_47 (by decide) ?_
        exact rd_iret hx hb hr hlocks (by first | (rw [r_far, if_neg c_1, if_pos c_2, if_pos c_3]; done) | (rw [r_far, if_neg c_1, if_pos c_2, if_pos c_3]; rfl) | (simp only [r_far, c_1, c_2, c_3]; done) | (simp only [r_far, c_1, c_2, c_3]; rfl) | (simp [r_far, c_1, c_2, c_3, bI]; done)) dX2_far_51
theorem hd_X2_sides : yX2_sides.cls = RX2 ∧ yX2_sides.cls ≠ "java/lang/invoke/MethodHandle" ∧ yX2_sides.cls ≠ "java/lang/invoke/VarHandle" ∧ (parseMethodDescriptor yX2_sides.desc).map (fun d => d.parameters.length) = some 2 := by decide +kernel
