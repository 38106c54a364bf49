theorem in_X2_fix_X2 : ∀ w ∈ wsX20, w ∈ wsX2_fix := by decide +kernel
theorem fl_X2_fix_35 : (Cond.fieldLink RX2 35 "MoorTrianglesModel" "thrown" "I") ∈ wsX2_fix := by decide +kernel
theorem fl_X2_fix_28 : (Cond.fieldLink RX2 28 "MoorTrianglesModel" "stays" "[[Z") ∈ wsX2_fix := by decide +kernel
set_option maxHeartbeats 4000000 in
set_option maxRecDepth 100000 in
theorem c_X2_fix (l : Launch) (dC : Nat → ClassId) (dI : Nat → Nat → Nat) (cI cZ cY : ClassId) (h qx qy qh qt qs : Nat) (rw : Nat → Nat) (th : Int32) (n : Nat) (xs ys hs : Nat → Int32) (t : Nat) (tb : Nat → Int32) (sg : Nat → Nat → Int32) (fl : Int32) (a : Int32) (b : Int32) (z : Int32) (sz : Nat) (ht : t ≤ 36) (hn : n ≤ 17) (hn1 : 1 ≤ n) (h01 : ∀ i j, i < 17 → j < 17 → sg i j = 0 ∨ sg i j = 1) (hz : vp_nar .boolean z = z) : Met l yX2_fix wsX2_fix ({ frames := 4, cells := 0, slots := 0, locals := 91 }) (va_Pc [.ref h, .int a, .int b, .int z] (wrP (dC, dI) (gTY cI cZ cY) (wR cI cZ cY h qx qy qh qt qs rw th n xs ys hs t tb sg fl) sz)) (wrQi (dC, dI) (gTY cI cZ cY) (bI (r_b3 (r_isIn a 0 (nI n - 1)) (r_isIn b 0 (nI n - 1)) (r_nz (r_sides t tb a b)) (r_nz (sg a.toNatClampNeg b.toNatClampNeg)) false)) (wR cI cZ cY h qx qy qh qt qs rw (r_b2 (r_isIn a 0 (nI n - 1)) (r_isIn b 0 (nI n - 1)) (r_b1 (r_nz (r_sides t tb a b)) 0 2) 1) n xs ys hs t tb (r_b3 (r_isIn a 0 (nI n - 1)) (r_isIn b 0 (nI n - 1)) (r_nz (r_sides t tb a b)) (r_let sg a b z) sg) fl) (va_A (wR cI cZ cY h qx qy qh qt qs rw th n xs ys hs t tb sg fl) sz)) 0 0 (va_A (wR cI cZ cY h qx qy qh qt qs rw th n xs ys hs t tb sg fl) sz) := by
  refine wr_start (cc := cX2_fix) (maxL := 5) (ret := (some .boolean)) (Q0 := wrQi (dC, dI) (gTY cI cZ cY) (bI (r_b3 (r_isIn a 0 (nI n - 1)) (r_isIn b 0 (nI n - 1)) (r_nz (r_sides t tb a b)) (r_nz (sg a.toNatClampNeg b.toNatClampNeg)) false)) (wR cI cZ cY h qx qy qh qt qs rw (r_b2 (r_isIn a 0 (nI n - 1)) (r_isIn b 0 (nI n - 1)) (r_b1 (r_nz (r_sides t tb a b)) 0 2) 1) n xs ys hs t tb (r_b3 (r_isIn a 0 (nI n - 1)) (r_isIn b 0 (nI n - 1)) (r_nz (r_sides t tb a b)) (r_let sg a b z) sg) fl)) RX2 (by decide) rfl rfl (Nat.le_of_ble_eq_true rfl) ?_
  intro p e s m below meth c ⟨hx, hb, hr, hml, hown, hts, hlocks, hin⟩ hP hK A hD hA hS ls hl
  have F : CallFix p m c cX2_fix 5 s ([.ref h, .int a, .int b, .int z] : List Value).toArray wsX2_fix RX2 := ⟨hx, hb, hml, hown, hts⟩
  have hl : lv_has ls 5 [(0, .ref h), (1, .int a), (2, .int b), (3, .int z)] := hl
  refine lv_aload_n hx hb dX2_fix_0 rfl (lv_at hl 0 rfl) ?_
  refine lv_aload_n hx hb dX2_fix_1 rfl (lv_at hl 0 rfl) ?_
  refine lv_iload_n hx hb dX2_fix_2 rfl (lv_at hl 1 rfl) ?_
  refine rd_cVi (As := [.int a]) (rest := [.ref h]) F (c_X2_isCairn l dC dI cI cZ cY h qx qy qh qt qs rw th n xs ys hs t tb sg fl a) (cwV 1 hts gX2_fix_X2_isCairn rfl rfl rfl hd_X2_isCairn ⟨Nat.le_of_ble_eq_true rfl, Nat.le_of_ble_eq_true rfl⟩) hP hK (va_recv hK hP (ci := 2) (q0 := 0) rfl rfl) rfl hl.1 rfl (lv_room (Nat.le_of_ble_eq_true rfl)) dX2_fix_3 ⟨Nat.zero_le _, Nat.zero_le _⟩ ?_
  refine lv_if_eqB (tgt := 17) hx hb dX2_fix_6 (by decide) (fun c_1 => ?_) (fun c_1 => ?_)
  · refine lv_iconst (v := 1) hx hb dX2_fix_17 (by decide) ?_
    refine lv_goto (tgt := 35) hx hb dX2_fix_18 (by decide) ?_
    refine va_put (D := (dC, dI)) (ci := 2) (v := .int 1) (ty := .int) (C := RX2) (T := TX2) (N := 9) hx hb hts in_X2_fix_X2 tyX2 tyX2_ok nmX2 hown hK hP hD hS 0 rfl rfl 0 (by decide) (hts (.fieldLink RX2 35 "MoorTrianglesModel" "thrown" "I") fl_X2_fix_35) (fun _ h9 => h9) rfl (by decide +kernel) rfl rfl (Nat.le_of_ble_eq_true rfl) dX2_fix_35 (fun H locs hP hD hS => ?_)
    have hP : va_P (dC, dI) vwCl (wR cI cZ cY h qx qy qh qt qs rw 1 n xs ys hs t tb sg fl) H := hP
    have hD : va_D A (wR cI cZ cY h qx qy qh qt qs rw 1 n xs ys hs t tb sg fl) := hD
    refine lv_aload_n hx hb dX2_fix_38 rfl (lv_at hl 0 rfl) ?_
    refine va_get (D := (dC, dI)) (ci := 2) (v := .int 1) (C := RX2) (T := TX2) (N := 9) hx hb hts in_X2_fix_X2 hown hK hP 0 rfl rfl 0 (by decide) (hts (.fieldLink RX2 35 "MoorTrianglesModel" "thrown" "I") fl_X2_fix_35) (fun _ h9 => h9) rfl dX2_fix_39 ?_
    refine lv_if_eq (tgt := 47) hx hb dX2_fix_42 (by decide) (fun c_2 => ?_) (fun c_2 => ?_)
    · exact absurd c_2 (by decide)
    · refine lv_iconst (v := 0) hx hb dX2_fix_45 (by decide) ?_
      have e_th : (r_b2 (r_isIn a 0 (nI n - 1)) (r_isIn b 0 (nI n - 1)) (r_b1 (r_nz (r_sides t tb a b)) 0 2) 1 : Int32) = 1 := by simp [r_b2, r_b1, r_nz, c_1, c_2]
      have e_sg : (r_b3 (r_isIn a 0 (nI n - 1)) (r_isIn b 0 (nI n - 1)) (r_nz (r_sides t tb a b)) (r_let sg a b z) sg : Nat → Nat → Int32) = sg := by first | (simp only [r_b3, r_b1, r_nz, c_1, c_2]; done) | (simp only [r_b3, r_b1, r_nz, c_1, c_2]; rfl) | (simp [r_b3, r_b1, r_nz, c_1, c_2]; done)
      have hP : va_P (dC, dI) vwCl (wR cI cZ cY h qx qy qh qt qs rw (r_b2 (r_isIn a 0 (nI n - 1)) (r_isIn b 0 (nI n - 1)) (r_b1 (r_nz (r_sides t tb a b)) 0 2) 1) n xs ys hs t tb (r_b3 (r_isIn a 0 (nI n - 1)) (r_isIn b 0 (nI n - 1)) (r_nz (r_sides t tb a b)) (r_let sg a b z) sg) fl) H := by rw [e_th, e_sg]; exact hP
      have hD : va_D A (wR cI cZ cY h qx qy qh qt qs rw (r_b2 (r_isIn a 0 (nI n - 1)) (r_isIn b 0 (nI n - 1)) (r_b1 (r_nz (r_sides t tb a b)) 0 2) 1) n xs ys hs t tb (r_b3 (r_isIn a 0 (nI n - 1)) (r_isIn b 0 (nI n - 1)) (r_nz (r_sides t tb a b)) (r_let sg a b z) sg) fl) := by rw [e_th, e_sg]; exact hD
      exact wr_zret hx hb hr hlocks (by simp [r_b3, r_nz, bI, c_1, c_2]) hP hK hD hS dX2_fix_46
  · refine lv_aload_n hx hb dX2_fix_9 rfl (lv_at hl 0 rfl) ?_
    refine lv_iload_n hx hb dX2_fix_10 rfl (lv_at hl 2 rfl) ?_
    refine rd_cVi (As := [.int b]) (rest := [.ref h]) F (c_X2_isCairn l dC dI cI cZ cY h qx qy qh qt qs rw th n xs ys hs t tb sg fl b) (cwV 1 hts gX2_fix_X2_isCairn rfl rfl rfl hd_X2_isCairn ⟨Nat.le_of_ble_eq_true rfl, Nat.le_of_ble_eq_true rfl⟩) hP hK (va_recv hK hP (ci := 2) (q0 := 0) rfl rfl) rfl hl.1 rfl (lv_room (Nat.le_of_ble_eq_true rfl)) dX2_fix_11 ⟨Nat.zero_le _, Nat.zero_le _⟩ ?_
    refine lv_if_neB (tgt := 21) hx hb dX2_fix_14 (by decide) (fun c_3 => ?_) (fun c_3 => ?_)
    · refine lv_aload_n hx hb dX2_fix_21 rfl (lv_at hl 0 rfl) ?_
      refine lv_iload_n hx hb dX2_fix_22 rfl (lv_at hl 1 rfl) ?_
      refine lv_iload_n hx hb dX2_fix_23 rfl (lv_at hl 2 rfl) ?_
      refine rd_cVi (As := [.int a, .int b]) (rest := [.ref h]) F (c_X2_sides l dC dI cI cZ cY h qx qy qh qt qs rw th n xs ys hs t tb sg fl a b ht) (cwV 2 hts gX2_fix_X2_sides rfl rfl rfl hd_X2_sides ⟨Nat.le_of_ble_eq_true rfl, Nat.le_of_ble_eq_true rfl⟩) hP hK (va_recv hK hP (ci := 2) (q0 := 0) rfl rfl) rfl hl.1 rfl (lv_room (Nat.le_of_ble_eq_true rfl)) dX2_fix_24 ⟨Nat.zero_le _, Nat.zero_le _⟩ ?_
      refine lv_if_ne (tgt := 34) hx hb dX2_fix_27 (by decide) (fun c_4 => ?_) (fun c_4 => ?_)
      · refine lv_iconst (v := 0) hx hb dX2_fix_34 (by decide) ?_
        refine va_put (D := (dC, dI)) (ci := 2) (v := .int 0) (ty := .int) (C := RX2) (T := TX2) (N := 9) hx hb hts in_X2_fix_X2 tyX2 tyX2_ok nmX2 hown hK hP hD hS 0 rfl rfl 0 (by decide) (hts (.fieldLink RX2 35 "MoorTrianglesModel" "thrown" "I") fl_X2_fix_35) (fun _ h9 => h9) rfl (by decide +kernel) rfl rfl (Nat.le_of_ble_eq_true rfl) dX2_fix_35 (fun H locs hP hD hS => ?_)
        have hP : va_P (dC, dI) vwCl (wR cI cZ cY h qx qy qh qt qs rw 0 n xs ys hs t tb sg fl) H := hP
        have hD : va_D A (wR cI cZ cY h qx qy qh qt qs rw 0 n xs ys hs t tb sg fl) := hD
        refine lv_aload_n hx hb dX2_fix_38 rfl (lv_at hl 0 rfl) ?_
        refine va_get (D := (dC, dI)) (ci := 2) (v := .int 0) (C := RX2) (T := TX2) (N := 9) hx hb hts in_X2_fix_X2 hown hK hP 0 rfl rfl 0 (by decide) (hts (.fieldLink RX2 35 "MoorTrianglesModel" "thrown" "I") fl_X2_fix_35) (fun _ h9 => h9) rfl dX2_fix_39 ?_
        refine lv_if_eq (tgt := 47) hx hb dX2_fix_42 (by decide) (fun c_5 => ?_) (fun c_5 => ?_)
        · refine lv_aload_n hx hb dX2_fix_47 rfl (lv_at hl 0 rfl) ?_
          refine va_get (D := (dC, dI)) (ci := 2) (v := .ref qs) (C := RX2) (T := TX2) (N := 9) hx hb hts in_X2_fix_X2 hown hK hP 0 rfl rfl 7 (by decide) (hts (.fieldLink RX2 28 "MoorTrianglesModel" "stays" "[[Z") fl_X2_fix_28) (fun _ h9 => h9) rfl dX2_fix_48 ?_
          refine lv_iload_n hx hb dX2_fix_51 rfl (lv_at hl 1 rfl) ?_
          refine rg_aald (D := (dC, dI)) hx hb hK hP 5 2 rfl rfl (in_isIn hn hn1 c_1) dX2_fix_52 ?_
          refine lv_iload_n hx hb dX2_fix_53 rfl (lv_at hl 2 rfl) ?_
          refine va_zald (D := (dC, dI)) hx hb hK hP (6 + a.toNatClampNeg) 1 (wR_row (in_lt (in_isIn hn hn1 c_1))) rfl (in_isIn hn hn1 c_3) dX2_fix_54 ?_
          refine lv_istore (lv' := [(4, .int (sg a.toNatClampNeg b.toNatClampNeg)), (0, .ref h), (1, .int a), (2, .int b), (3, .int z)]) hx hb dX2_fix_55 hl (by decide) rfl (fun ls hl => ?_)
          refine lv_aload_n hx hb dX2_fix_57 rfl (lv_at hl 1 rfl) ?_
          refine lv_iload_n hx hb dX2_fix_58 rfl (lv_at hl 2 rfl) ?_
          refine lv_iload_n hx hb dX2_fix_59 rfl (lv_at hl 3 rfl) ?_
          refine lv_iload_n hx hb dX2_fix_60 rfl (lv_at hl 4 rfl) ?_
          refine wx_cVv (As := [.int a, .int b, .int z]) (rest := []) F (c_X2_let l dC dI cI cZ cY h qx qy qh qt qs rw 0 n xs ys hs t tb sg fl a b z H.size (in_isIn hn hn1 c_1) (in_isIn hn hn1 c_3) hz) (cwV 3 hts gX2_fix_X2_let rfl rfl rfl hd_X2_let ⟨Nat.le_of_ble_eq_true rfl, Nat.le_of_ble_eq_true rfl⟩) hP hK hD hS hA (va_recv hK hP (ci := 2) (q0 := 0) rfl rfl) rfl hl.1 rfl (lv_room (Nat.le_of_ble_eq_true rfl)) dX2_fix_61 ⟨Nat.zero_le _, Nat.zero_le _⟩ (fun H locs hP hD hS => ?_)
          have hP : va_P (dC, dI) vwCl (wR cI cZ cY h qx qy qh qt qs rw 0 n xs ys hs t tb (r_let sg a b z) fl) H := hP
          have hD : va_D A (wR cI cZ cY h qx qy qh qt qs rw 0 n xs ys hs t tb (r_let sg a b z) fl) := hD
          refine lv_iload hx hb dX2_fix_64 (lv_at hl 0 rfl) ?_
          have e_th : (r_b2 (r_isIn a 0 (nI n - 1)) (r_isIn b 0 (nI n - 1)) (r_b1 (r_nz (r_sides t tb a b)) 0 2) 1 : Int32) = 0 := by simp [r_b2, r_b1, r_nz, c_1, c_3, c_4, c_5]
          have e_sg : (r_b3 (r_isIn a 0 (nI n - 1)) (r_isIn b 0 (nI n - 1)) (r_nz (r_sides t tb a b)) (r_let sg a b z) sg : Nat → Nat → Int32) = r_let sg a b z := by first | (simp only [r_b3, r_b1, r_nz, c_1, c_3, c_4, c_5]; done) | (simp only [r_b3, r_b1, r_nz, c_1, c_3, c_4, c_5]; rfl) | (simp [r_b3, r_b1, r_nz, c_1, c_3, c_4, c_5]; done)
          have hP : va_P (dC, dI) vwCl (wR cI cZ cY h qx qy qh qt qs rw (r_b2 (r_isIn a 0 (nI n - 1)) (r_isIn b 0 (nI n - 1)) (r_b1 (r_nz (r_sides t tb a b)) 0 2) 1) n xs ys hs t tb (r_b3 (r_isIn a 0 (nI n - 1)) (r_isIn b 0 (nI n - 1)) (r_nz (r_sides t tb a b)) (r_let sg a b z) sg) fl) H := by rw [e_th, e_sg]; exact hP
          have hD : va_D A (wR cI cZ cY h qx qy qh qt qs rw (r_b2 (r_isIn a 0 (nI n - 1)) (r_isIn b 0 (nI n - 1)) (r_b1 (r_nz (r_sides t tb a b)) 0 2) 1) n xs ys hs t tb (r_b3 (r_isIn a 0 (nI n - 1)) (r_isIn b 0 (nI n - 1)) (r_nz (r_sides t tb a b)) (r_let sg a b z) sg) fl) := by rw [e_th, e_sg]; exact hD
          exact wr_zret hx hb hr hlocks (by rw [show r_b3 (r_isIn a 0 (nI n - 1)) (r_isIn b 0 (nI n - 1)) (r_nz (r_sides t tb a b)) (r_nz (sg a.toNatClampNeg b.toNatClampNeg)) false = r_nz (sg a.toNatClampNeg b.toNatClampNeg) from by simp [r_b3, r_nz, c_1, c_3, c_4, c_5]]; exact r_nz_eq (h01 _ _ (in_lt (in_isIn hn hn1 c_1)) (in_lt (in_isIn hn hn1 c_3)))) hP hK hD hS dX2_fix_66
        · exact absurd c_5 (by decide)
      · refine lv_iconst (v := 2) hx hb dX2_fix_30 (by decide) ?_
        refine lv_goto (tgt := 35) hx hb dX2_fix_31 (by decide) ?_
        refine va_put (D := (dC, dI)) (ci := 2) (v := .int 2) (ty := .int) (C := RX2) (T := TX2) (N := 9) hx hb hts in_X2_fix_X2 tyX2 tyX2_ok nmX2 hown hK hP hD hS 0 rfl rfl 0 (by decide) (hts (.fieldLink RX2 35 "MoorTrianglesModel" "thrown" "I") fl_X2_fix_35) (fun _ h9 => h9) rfl (by decide +kernel) rfl rfl (Nat.le_of_ble_eq_true rfl) dX2_fix_35 (fun H locs hP hD hS => ?_)
        have hP : va_P (dC, dI) vwCl (wR cI cZ cY h qx qy qh qt qs rw 2 n xs ys hs t tb sg fl) H := hP
        have hD : va_D A (wR cI cZ cY h qx qy qh qt qs rw 2 n xs ys hs t tb sg fl) := hD
        refine lv_aload_n hx hb dX2_fix_38 rfl (lv_at hl 0 rfl) ?_
        refine va_get (D := (dC, dI)) (ci := 2) (v := .int 2) (C := RX2) (T := TX2) (N := 9) hx hb hts in_X2_fix_X2 hown hK hP 0 rfl rfl 0 (by decide) (hts (.fieldLink RX2 35 "MoorTrianglesModel" "thrown" "I") fl_X2_fix_35) (fun _ h9 => h9) rfl dX2_fix_39 ?_
        refine lv_if_eq (tgt := 47) hx hb dX2_fix_42 (by decide) (fun c_6 => ?_) (fun c_6 => ?_)
        · exact absurd c_6 (by decide)
        · refine lv_iconst (v := 0) hx hb dX2_fix_45 (by decide) ?_
          have e_th : (r_b2 (r_isIn a 0 (nI n - 1)) (r_isIn b 0 (nI n - 1)) (r_b1 (r_nz (r_sides t tb a b)) 0 2) 1 : Int32) = 2 := by simp [r_b2, r_b1, r_nz, c_1, c_3, c_4, c_6]
          have e_sg : (r_b3 (r_isIn a 0 (nI n - 1)) (r_isIn b 0 (nI n - 1)) (r_nz (r_sides t tb a b)) (r_let sg a b z) sg : Nat → Nat → Int32) = sg := by first | (simp only [r_b3, r_b1, r_nz, c_1, c_3, c_4, c_6]; done) | (simp only [r_b3, r_b1, r_nz, c_1, c_3, c_4, c_6]; rfl) | (simp [r_b3, r_b1, r_nz, c_1, c_3, c_4, c_6]; done)
          have hP : va_P (dC, dI) vwCl (wR cI cZ cY h qx qy qh qt qs rw (r_b2 (r_isIn a 0 (nI n - 1)) (r_isIn b 0 (nI n - 1)) (r_b1 (r_nz (r_sides t tb a b)) 0 2) 1) n xs ys hs t tb (r_b3 (r_isIn a 0 (nI n - 1)) (r_isIn b 0 (nI n - 1)) (r_nz (r_sides t tb a b)) (r_let sg a b z) sg) fl) H := by rw [e_th, e_sg]; exact hP
          have hD : va_D A (wR cI cZ cY h qx qy qh qt qs rw (r_b2 (r_isIn a 0 (nI n - 1)) (r_isIn b 0 (nI n - 1)) (r_b1 (r_nz (r_sides t tb a b)) 0 2) 1) n xs ys hs t tb (r_b3 (r_isIn a 0 (nI n - 1)) (r_isIn b 0 (nI n - 1)) (r_nz (r_sides t tb a b)) (r_let sg a b z) sg) fl) := by rw [e_th, e_sg]; exact hD
          exact wr_zret hx hb hr hlocks (by simp [r_b3, r_nz, bI, c_1, c_3, c_4, c_6]) hP hK hD hS dX2_fix_46
    · refine lv_iconst (v := 1) hx hb dX2_fix_17 (by decide) ?_
      refine lv_goto (tgt := 35) hx hb dX2_fix_18 (by decide) ?_
      refine va_put (D := (dC, dI)) (ci := 2) (v := .int 1) (ty := .int) (C := RX2) (T := TX2) (N := 9) hx hb hts in_X2_fix_X2 tyX2 tyX2_ok nmX2 hown hK hP hD hS 0 rfl rfl 0 (by decide) (hts (.fieldLink RX2 35 "MoorTrianglesModel" "thrown" "I") fl_X2_fix_35) (fun _ h9 => h9) rfl (by decide +kernel) rfl rfl (Nat.le_of_ble_eq_true rfl) dX2_fix_35 (fun H locs hP hD hS => ?_)
      have hP : va_P (dC, dI) vwCl (wR cI cZ cY h qx qy qh qt qs rw 1 n xs ys hs t tb sg fl) H := hP
      have hD : va_D A (wR cI cZ cY h qx qy qh qt qs rw 1 n xs ys hs t tb sg fl) := hD
      refine lv_aload_n hx hb dX2_fix_38 rfl (lv_at hl 0 rfl) ?_
      refine va_get (D := (dC, dI)) (ci := 2) (v := .int 1) (C := RX2) (T := TX2) (N := 9) hx hb hts in_X2_fix_X2 hown hK hP 0 rfl rfl 0 (by decide) (hts (.fieldLink RX2 35 "MoorTrianglesModel" "thrown" "I") fl_X2_fix_35) (fun _ h9 => h9) rfl dX2_fix_39 ?_
      refine lv_if_eq (tgt := 47) hx hb dX2_fix_42 (by decide) (fun c_7 => ?_) (fun c_7 => ?_)
      · exact absurd c_7 (by decide)
      · refine lv_iconst (v := 0) hx hb dX2_fix_45 (by decide) ?_
        have e_th : (r_b2 (r_isIn a 0 (nI n - 1)) (r_isIn b 0 (nI n - 1)) (r_b1 (r_nz (r_sides t tb a b)) 0 2) 1 : Int32) = 1 := by simp [r_b2, r_b1, r_nz, c_1, c_3, c_7]
        have e_sg : (r_b3 (r_isIn a 0 (nI n - 1)) (r_isIn b 0 (nI n - 1)) (r_nz (r_sides t tb a b)) (r_let sg a b z) sg : Nat → Nat → Int32) = sg := by first | (simp only [r_b3, r_b1, r_nz, c_1, c_3, c_7]; done) | (simp only [r_b3, r_b1, r_nz, c_1, c_3, c_7]; rfl) | (simp [r_b3, r_b1, r_nz, c_1, c_3, c_7]; done)
        have hP : va_P (dC, dI) vwCl (wR cI cZ cY h qx qy qh qt qs rw (r_b2 (r_isIn a 0 (nI n - 1)) (r_isIn b 0 (nI n - 1)) (r_b1 (r_nz (r_sides t tb a b)) 0 2) 1) n xs ys hs t tb (r_b3 (r_isIn a 0 (nI n - 1)) (r_isIn b 0 (nI n - 1)) (r_nz (r_sides t tb a b)) (r_let sg a b z) sg) fl) H := by rw [e_th, e_sg]; exact hP
        have hD : va_D A (wR cI cZ cY h qx qy qh qt qs rw (r_b2 (r_isIn a 0 (nI n - 1)) (r_isIn b 0 (nI n - 1)) (r_b1 (r_nz (r_sides t tb a b)) 0 2) 1) n xs ys hs t tb (r_b3 (r_isIn a 0 (nI n - 1)) (r_isIn b 0 (nI n - 1)) (r_nz (r_sides t tb a b)) (r_let sg a b z) sg) fl) := by rw [e_th, e_sg]; exact hD
        exact wr_zret hx hb hr hlocks (by simp [r_b3, r_nz, bI, c_1, c_3, c_7]) hP hK hD hS dX2_fix_46
theorem hd_X2_flip : yX2_flip.cls = RX2 ∧ yX2_flip.cls ≠ "java/lang/invoke/MethodHandle" ∧ yX2_flip.cls ≠ "java/lang/invoke/VarHandle" ∧ (parseMethodDescriptor yX2_flip.desc).map (fun d => d.parameters.length) = some 2 := by decide +kernel
theorem in_X2_flip_X2 : ∀ w ∈ wsX20, w ∈ wsX2_flip := by decide +kernel
theorem fl_X2_flip_35 : (Cond.fieldLink RX2 35 "MoorTrianglesModel" "thrown" "I") ∈ wsX2_flip := by decide +kernel
set_option maxHeartbeats 4000000 in
set_option maxRecDepth 100000 in
theorem c_X2_flip (l : Launch) (dC : Nat → ClassId) (dI : Nat → Nat → Nat) (cI cZ cY : ClassId) (h qx qy qh qt qs : Nat) (rw : Nat → Nat) (th : Int32) (n : Nat) (xs ys hs : Nat → Int32) (t : Nat) (tb : Nat → Int32) (sg : Nat → Nat → Int32) (fl : Int32) (a : Int32) (b : Int32) (sz : Nat) (u : Nat) (hu : u + 1 + 1 ≤ 36) (hn : n ≤ 17) (hn1 : 1 ≤ n) (hFF : ∀ a b, a < n → b < n → r_okF (u + 1 + 1) tb (nI a) (nI b)) (hfl : r_isIn a 0 (nI n - 1) = true → r_isIn b 0 (nI n - 1) = true → r_canFlip (u + 1 + 1) xs ys tb sg a b = true → r_okFl u tb a b (r_fr tb a b 1 (u + 1 + 1)) (r_fr tb a b 0 (u + 1 + 1))) : Met l yX2_flip wsX2_flip ({ frames := 5, cells := 0, slots := 0, locals := 126 }) (va_Pc [.ref h, .int a, .int b] (wrP (dC, dI) (gTY cI cZ cY) (wR cI cZ cY h qx qy qh qt qs rw th n xs ys hs (u + 1 + 1) tb sg fl) sz)) (wrQi (dC, dI) (gTY cI cZ cY) (r_b3 (r_isIn a 0 (nI n - 1)) (r_isIn b 0 (nI n - 1)) (r_canFlip (u + 1 + 1) xs ys tb sg a b) (16 * min32 (r_fr tb a b 1 (u + 1 + 1)) (r_fr tb a b 0 (u + 1 + 1)) + max32 (r_fr tb a b 1 (u + 1 + 1)) (r_fr tb a b 0 (u + 1 + 1))) 0) (wR cI cZ cY h qx qy qh qt qs rw (r_b2 (r_isIn a 0 (nI n - 1)) (r_isIn b 0 (nI n - 1)) (r_b1 (r_canFlip (u + 1 + 1) xs ys tb sg a b) 0 2) 1) n xs ys hs (u + 1 + 1) (r_b3 (r_isIn a 0 (nI n - 1)) (r_isIn b 0 (nI n - 1)) (r_canFlip (u + 1 + 1) xs ys tb sg a b) (r_flTb u tb a b (r_fr tb a b 1 (u + 1 + 1)) (r_fr tb a b 0 (u + 1 + 1))) tb) (r_b3 (r_isIn a 0 (nI n - 1)) (r_isIn b 0 (nI n - 1)) (r_canFlip (u + 1 + 1) xs ys tb sg a b) (r_let sg (r_fr tb a b 1 (u + 1 + 1)) (r_fr tb a b 0 (u + 1 + 1)) 0) sg) (r_b3 (r_isIn a 0 (nI n - 1)) (r_isIn b 0 (nI n - 1)) (r_canFlip (u + 1 + 1) xs ys tb sg a b) (fl + 1) fl)) (va_A (wR cI cZ cY h qx qy qh qt qs rw th n xs ys hs (u + 1 + 1) tb sg fl) sz)) 0 0 (va_A (wR cI cZ cY h qx qy qh qt qs rw th n xs ys hs (u + 1 + 1) tb sg fl) sz) := by
  refine wr_start (cc := cX2_flip) (maxL := 3) (ret := (some .int)) (Q0 := wrQi (dC, dI) (gTY cI cZ cY) (r_b3 (r_isIn a 0 (nI n - 1)) (r_isIn b 0 (nI n - 1)) (r_canFlip (u + 1 + 1) xs ys tb sg a b) (16 * min32 (r_fr tb a b 1 (u + 1 + 1)) (r_fr tb a b 0 (u + 1 + 1)) + max32 (r_fr tb a b 1 (u + 1 + 1)) (r_fr tb a b 0 (u + 1 + 1))) 0) (wR cI cZ cY h qx qy qh qt qs rw (r_b2 (r_isIn a 0 (nI n - 1)) (r_isIn b 0 (nI n - 1)) (r_b1 (r_canFlip (u + 1 + 1) xs ys tb sg a b) 0 2) 1) n xs ys hs (u + 1 + 1) (r_b3 (r_isIn a 0 (nI n - 1)) (r_isIn b 0 (nI n - 1)) (r_canFlip (u + 1 + 1) xs ys tb sg a b) (r_flTb u tb a b (r_fr tb a b 1 (u + 1 + 1)) (r_fr tb a b 0 (u + 1 + 1))) tb) (r_b3 (r_isIn a 0 (nI n - 1)) (r_isIn b 0 (nI n - 1)) (r_canFlip (u + 1 + 1) xs ys tb sg a b) (r_let sg (r_fr tb a b 1 (u + 1 + 1)) (r_fr tb a b 0 (u + 1 + 1)) 0) sg) (r_b3 (r_isIn a 0 (nI n - 1)) (r_isIn b 0 (nI n - 1)) (r_canFlip (u + 1 + 1) xs ys tb sg a b) (fl + 1) fl))) RX2 (by decide) rfl rfl (Nat.le_of_ble_eq_true rfl) ?_
  intro p e s m below meth c ⟨hx, hb, hr, hml, hown, hts, hlocks, hin⟩ hP hK A hD hA hS ls hl
  have F : CallFix p m c cX2_flip 3 s ([.ref h, .int a, .int b] : List Value).toArray wsX2_flip RX2 := ⟨hx, hb, hml, hown, hts⟩
  have hl : lv_has ls 3 [(0, .ref h), (1, .int a), (2, .int b)] := hl
  refine lv_aload_n hx hb dX2_flip_0 rfl (lv_at hl 0 rfl) ?_
  refine lv_iconst (v := 0) hx hb dX2_flip_1 (by decide) ?_
  refine va_put (D := (dC, dI)) (ci := 2) (v := .int 0) (ty := .int) (C := RX2) (T := TX2) (N := 9) hx hb hts in_X2_flip_X2 tyX2 tyX2_ok nmX2 hown hK hP hD hS 0 rfl rfl 0 (by decide) (hts (.fieldLink RX2 35 "MoorTrianglesModel" "thrown" "I") fl_X2_flip_35) (fun _ h9 => h9) rfl (by decide +kernel) rfl rfl (Nat.le_of_ble_eq_true rfl) dX2_flip_2 (fun H locs hP hD hS => ?_)
  have hP : va_P (dC, dI) vwCl (wR cI cZ cY h qx qy qh qt qs rw 0 n xs ys hs (u + 1 + 1) tb sg fl) H := hP
  have hD : va_D A (wR cI cZ cY h qx qy qh qt qs rw 0 n xs ys hs (u + 1 + 1) tb sg fl) := hD
  refine lv_aload_n hx hb dX2_flip_5 rfl (lv_at hl 0 rfl) ?_
  refine lv_iload_n hx hb dX2_flip_6 rfl (lv_at hl 1 rfl) ?_
  refine rd_cVi (As := [.int a]) (rest := []) F (c_X2_isCairn l dC dI cI cZ cY h qx qy qh qt qs rw 0 n xs ys hs (u + 1 + 1) tb sg fl a) (cwV 1 hts gX2_flip_X2_isCairn rfl rfl rfl hd_X2_isCairn ⟨Nat.le_of_ble_eq_true rfl, Nat.le_of_ble_eq_true rfl⟩) hP hK (va_recv hK hP (ci := 2) (q0 := 0) rfl rfl) rfl hl.1 rfl (lv_room (Nat.le_of_ble_eq_true rfl)) dX2_flip_7 ⟨Nat.zero_le _, Nat.zero_le _⟩ ?_
  refine lv_if_eqB (tgt := 21) hx hb dX2_flip_10 (by decide) (fun c_1 => ?_) (fun c_1 => ?_)
  · refine lv_aload_n hx hb dX2_flip_21 rfl (lv_at hl 0 rfl) ?_
    refine lv_iconst (v := 1) hx hb dX2_flip_22 (by decide) ?_
    refine wx_cVi (As := [.int 1]) (rest := []) F (c_X2_fail l dC dI cI cZ cY h qx qy qh qt qs rw 0 n xs ys hs (u + 1 + 1) tb sg fl 1 H.size) (cwV 1 hts gX2_flip_X2_fail rfl rfl rfl hd_X2_fail ⟨Nat.le_of_ble_eq_true rfl, Nat.le_of_ble_eq_true rfl⟩) hP hK hD hS hA (va_recv hK hP (ci := 2) (q0 := 0) rfl rfl) rfl hl.1 rfl (lv_room (Nat.le_of_ble_eq_true rfl)) dX2_flip_23 ⟨Nat.zero_le _, Nat.zero_le _⟩ (fun H locs hP hD hS => ?_)
    have hP : va_P (dC, dI) vwCl (wR cI cZ cY h qx qy qh qt qs rw 1 n xs ys hs (u + 1 + 1) tb sg fl) H := hP
    have hD : va_D A (wR cI cZ cY h qx qy qh qt qs rw 1 n xs ys hs (u + 1 + 1) tb sg fl) := hD
    have e_th : (r_b2 (r_isIn a 0 (nI n - 1)) (r_isIn b 0 (nI n - 1)) (r_b1 (r_canFlip (u + 1 + 1) xs ys tb sg a b) 0 2) 1 : Int32) = 1 := by first | (simp only [r_b1, r_b2, r_b3, c_1]; done) | (simp only [r_b1, r_b2, r_b3, c_1]; rfl) | (simp [r_b1, r_b2, r_b3, c_1]; done)
    have e_t : (u + 1 + 1 : Nat) = (u + 1 + 1) := by rfl
    have e_tb : (r_b3 (r_isIn a 0 (nI n - 1)) (r_isIn b 0 (nI n - 1)) (r_canFlip (u + 1 + 1) xs ys tb sg a b) (r_flTb u tb a b (r_fr tb a b 1 (u + 1 + 1)) (r_fr tb a b 0 (u + 1 + 1))) tb : Nat → Int32) = tb := by first | (simp only [r_b1, r_b2, r_b3, c_1]; done) | (simp only [r_b1, r_b2, r_b3, c_1]; rfl) | (simp [r_b1, r_b2, r_b3, c_1]; done)
    have e_sg : (r_b3 (r_isIn a 0 (nI n - 1)) (r_isIn b 0 (nI n - 1)) (r_canFlip (u + 1 + 1) xs ys tb sg a b) (r_let sg (r_fr tb a b 1 (u + 1 + 1)) (r_fr tb a b 0 (u + 1 + 1)) 0) sg : Nat → Nat → Int32) = sg := by first | (simp only [r_b1, r_b2, r_b3, c_1]; done) | (simp only [r_b1, r_b2, r_b3, c_1]; rfl) | (simp [r_b1, r_b2, r_b3, c_1]; done)
    have e_fl : (r_b3 (r_isIn a 0 (nI n - 1)) (r_isIn b 0 (nI n - 1)) (r_canFlip (u + 1 + 1) xs ys tb sg a b) (fl + 1) fl : Int32) = fl := by first | (simp only [r_b1, r_b2, r_b3, c_1]; done) | (simp only [r_b1, r_b2, r_b3, c_1]; rfl) | (simp [r_b1, r_b2, r_b3, c_1]; done)
    have hP : va_P (dC, dI) vwCl (wR cI cZ cY h qx qy qh qt qs rw (r_b2 (r_isIn a 0 (nI n - 1)) (r_isIn b 0 (nI n - 1)) (r_b1 (r_canFlip (u + 1 + 1) xs ys tb sg a b) 0 2) 1) n xs ys hs (u + 1 + 1) (r_b3 (r_isIn a 0 (nI n - 1)) (r_isIn b 0 (nI n - 1)) (r_canFlip (u + 1 + 1) xs ys tb sg a b) (r_flTb u tb a b (r_fr tb a b 1 (u + 1 + 1)) (r_fr tb a b 0 (u + 1 + 1))) tb) (r_b3 (r_isIn a 0 (nI n - 1)) (r_isIn b 0 (nI n - 1)) (r_canFlip (u + 1 + 1) xs ys tb sg a b) (r_let sg (r_fr tb a b 1 (u + 1 + 1)) (r_fr tb a b 0 (u + 1 + 1)) 0) sg) (r_b3 (r_isIn a 0 (nI n - 1)) (r_isIn b 0 (nI n - 1)) (r_canFlip (u + 1 + 1) xs ys tb sg a b) (fl + 1) fl)) H := by rw [e_th, e_t, e_tb, e_sg, e_fl]; exact hP
    have hD : va_D A (wR cI cZ cY h qx qy qh qt qs rw (r_b2 (r_isIn a 0 (nI n - 1)) (r_isIn b 0 (nI n - 1)) (r_b1 (r_canFlip (u + 1 + 1) xs ys tb sg a b) 0 2) 1) n xs ys hs (u + 1 + 1) (r_b3 (r_isIn a 0 (nI n - 1)) (r_isIn b 0 (nI n - 1)) (r_canFlip (u + 1 + 1) xs ys tb sg a b) (r_flTb u tb a b (r_fr tb a b 1 (u + 1 + 1)) (r_fr tb a b 0 (u + 1 + 1))) tb) (r_b3 (r_isIn a 0 (nI n - 1)) (r_isIn b 0 (nI n - 1)) (r_canFlip (u + 1 + 1) xs ys tb sg a b) (r_let sg (r_fr tb a b 1 (u + 1 + 1)) (r_fr tb a b 0 (u + 1 + 1)) 0) sg) (r_b3 (r_isIn a 0 (nI n - 1)) (r_isIn b 0 (nI n - 1)) (r_canFlip (u + 1 + 1) xs ys tb sg a b) (fl + 1) fl)) := by rw [e_th, e_t, e_tb, e_sg, e_fl]; exact hD
    exact wr_iret hx hb hr hlocks (by first | (simp only [r_b1, r_b2, r_b3, c_1]; done) | (simp only [r_b1, r_b2, r_b3, c_1]; rfl) | (simp [r_b1, r_b2, r_b3, c_1]; done)) hP hK hD hS dX2_flip_26
  · refine lv_aload_n hx hb dX2_flip_13 rfl (lv_at hl 0 rfl) ?_
    refine lv_iload_n hx hb dX2_flip_14 rfl (lv_at hl 2 rfl) ?_
    refine rd_cVi (As := [.int b]) (rest := []) F (c_X2_isCairn l dC dI cI cZ cY h qx qy qh qt qs rw 0 n xs ys hs (u + 1 + 1) tb sg fl b) (cwV 1 hts gX2_flip_X2_isCairn rfl rfl rfl hd_X2_isCairn ⟨Nat.le_of_ble_eq_true rfl, Nat.le_of_ble_eq_true rfl⟩) hP hK (va_recv hK hP (ci := 2) (q0 := 0) rfl rfl) rfl hl.1 rfl (lv_room (Nat.le_of_ble_eq_true rfl)) dX2_flip_15 ⟨Nat.zero_le _, Nat.zero_le _⟩ ?_
    refine lv_if_neB (tgt := 27) hx hb dX2_flip_18 (by decide) (fun c_2 => ?_) (fun c_2 => ?_)
    · refine lv_aload_n hx hb dX2_flip_27 rfl (lv_at hl 0 rfl) ?_
      refine lv_iload_n hx hb dX2_flip_28 rfl (lv_at hl 1 rfl) ?_
      refine lv_iload_n hx hb dX2_flip_29 rfl (lv_at hl 2 rfl) ?_
      refine rd_cVi (As := [.int a, .int b]) (rest := []) F (c_X2_canFlip l dC dI cI cZ cY h qx qy qh qt qs rw 0 n xs ys hs (u + 1 + 1) tb sg fl a b hu (in_isIn hn hn1 c_1) (in_isIn hn hn1 c_2) (fun h => (okF_of hn hn1 hFF c_1 c_2 h).1) (fun h => (okF_of hn hn1 hFF c_1 c_2 h).2)) (cwV 2 hts gX2_flip_X2_canFlip rfl rfl rfl hd_X2_canFlip ⟨Nat.le_of_ble_eq_true rfl, Nat.le_of_ble_eq_true rfl⟩) hP hK (va_recv hK hP (ci := 2) (q0 := 0) rfl rfl) rfl hl.1 rfl (lv_room (Nat.le_of_ble_eq_true rfl)) dX2_flip_30 ⟨Nat.zero_le _, Nat.zero_le _⟩ ?_
      refine lv_if_eqB (tgt := 45) hx hb dX2_flip_33 (by decide) (fun c_3 => ?_) (fun c_3 => ?_)
      · refine lv_aload_n hx hb dX2_flip_45 rfl (lv_at hl 0 rfl) ?_
        refine lv_iconst (v := 2) hx hb dX2_flip_46 (by decide) ?_
        refine wx_cVi (As := [.int 2]) (rest := []) F (c_X2_fail l dC dI cI cZ cY h qx qy qh qt qs rw 0 n xs ys hs (u + 1 + 1) tb sg fl 2 H.size) (cwV 1 hts gX2_flip_X2_fail rfl rfl rfl hd_X2_fail ⟨Nat.le_of_ble_eq_true rfl, Nat.le_of_ble_eq_true rfl⟩) hP hK hD hS hA (va_recv hK hP (ci := 2) (q0 := 0) rfl rfl) rfl hl.1 rfl (lv_room (Nat.le_of_ble_eq_true rfl)) dX2_flip_47 ⟨Nat.zero_le _, Nat.zero_le _⟩ (fun H locs hP hD hS => ?_)
        have hP : va_P (dC, dI) vwCl (wR cI cZ cY h qx qy qh qt qs rw 2 n xs ys hs (u + 1 + 1) tb sg fl) H := hP
        have hD : va_D A (wR cI cZ cY h qx qy qh qt qs rw 2 n xs ys hs (u + 1 + 1) tb sg fl) := hD
        have e_th : (r_b2 (r_isIn a 0 (nI n - 1)) (r_isIn b 0 (nI n - 1)) (r_b1 (r_canFlip (u + 1 + 1) xs ys tb sg a b) 0 2) 1 : Int32) = 2 := by first | (simp only [r_b1, r_b2, r_b3, c_1, c_2, c_3]; done) | (simp only [r_b1, r_b2, r_b3, c_1, c_2, c_3]; rfl) | (simp [r_b1, r_b2, r_b3, c_1, c_2, c_3]; done)
        have e_t : (u + 1 + 1 : Nat) = (u + 1 + 1) := by rfl
        have e_tb : (r_b3 (r_isIn a 0 (nI n - 1)) (r_isIn b 0 (nI n - 1)) (r_canFlip (u + 1 + 1) xs ys tb sg a b) (r_flTb u tb a b (r_fr tb a b 1 (u + 1 + 1)) (r_fr tb a b 0 (u + 1 + 1))) tb : Nat → Int32) = tb := by first | (simp only [r_b1, r_b2, r_b3, c_1, c_2, c_3]; done) | (simp only [r_b1, r_b2, r_b3, c_1, c_2, c_3]; rfl) | (simp [r_b1, r_b2, r_b3, c_1, c_2, c_3]; done)
        have e_sg : (r_b3 (r_isIn a 0 (nI n - 1)) (r_isIn b 0 (nI n - 1)) (r_canFlip (u + 1 + 1) xs ys tb sg a b) (r_let sg (r_fr tb a b 1 (u + 1 + 1)) (r_fr tb a b 0 (u + 1 + 1)) 0) sg : Nat → Nat → Int32) = sg := by first | (simp only [r_b1, r_b2, r_b3, c_1, c_2, c_3]; done) | (simp only [r_b1, r_b2, r_b3, c_1, c_2, c_3]; rfl) | (simp [r_b1, r_b2, r_b3, c_1, c_2, c_3]; done)
        have e_fl : (r_b3 (r_isIn a 0 (nI n - 1)) (r_isIn b 0 (nI n - 1)) (r_canFlip (u + 1 + 1) xs ys tb sg a b) (fl + 1) fl : Int32) = fl := by first | (simp only [r_b1, r_b2, r_b3, c_1, c_2, c_3]; done) | (simp only [r_b1, r_b2, r_b3, c_1, c_2, c_3]; rfl) | (simp [r_b1, r_b2, r_b3, c_1, c_2, c_3]; done)
        have hP : va_P (dC, dI) vwCl (wR cI cZ cY h qx qy qh qt qs rw (r_b2 (r_isIn a 0 (nI n - 1)) (r_isIn b 0 (nI n - 1)) (r_b1 (r_canFlip (u + 1 + 1) xs ys tb sg a b) 0 2) 1) n xs ys hs (u + 1 + 1) (r_b3 (r_isIn a 0 (nI n - 1)) (r_isIn b 0 (nI n - 1)) (r_canFlip (u + 1 + 1) xs ys tb sg a b) (r_flTb u tb a b (r_fr tb a b 1 (u + 1 + 1)) (r_fr tb a b 0 (u + 1 + 1))) tb) (r_b3 (r_isIn a 0 (nI n - 1)) (r_isIn b 0 (nI n - 1)) (r_canFlip (u + 1 + 1) xs ys tb sg a b) (r_let sg (r_fr tb a b 1 (u + 1 + 1)) (r_fr tb a b 0 (u + 1 + 1)) 0) sg) (r_b3 (r_isIn a 0 (nI n - 1)) (r_isIn b 0 (nI n - 1)) (r_canFlip (u + 1 + 1) xs ys tb sg a b) (fl + 1) fl)) H := by rw [e_th, e_t, e_tb, e_sg, e_fl]; exact hP
        have hD : va_D A (wR cI cZ cY h qx qy qh qt qs rw (r_b2 (r_isIn a 0 (nI n - 1)) (r_isIn b 0 (nI n - 1)) (r_b1 (r_canFlip (u + 1 + 1) xs ys tb sg a b) 0 2) 1) n xs ys hs (u + 1 + 1) (r_b3 (r_isIn a 0 (nI n - 1)) (r_isIn b 0 (nI n - 1)) (r_canFlip (u + 1 + 1) xs ys tb sg a b) (r_flTb u tb a b (r_fr tb a b 1 (u + 1 + 1)) (r_fr tb a b 0 (u + 1 + 1))) tb) (r_b3 (r_isIn a 0 (nI n - 1)) (r_isIn b 0 (nI n - 1)) (r_canFlip (u + 1 + 1) xs ys tb sg a b) (r_let sg (r_fr tb a b 1 (u + 1 + 1)) (r_fr tb a b 0 (u + 1 + 1)) 0) sg) (r_b3 (r_isIn a 0 (nI n - 1)) (r_isIn b 0 (nI n - 1)) (r_canFlip (u + 1 + 1) xs ys tb sg a b) (fl + 1) fl)) := by rw [e_th, e_t, e_tb, e_sg, e_fl]; exact hD
        exact wr_iret hx hb hr hlocks (by first | (simp only [r_b1, r_b2, r_b3, c_1, c_2, c_3]; done) | (simp only [r_b1, r_b2, r_b3, c_1, c_2, c_3]; rfl) | (simp [r_b1, r_b2, r_b3, c_1, c_2, c_3]; done)) hP hK hD hS dX2_flip_50
      · refine lv_aload_n hx hb dX2_flip_36 rfl (lv_at hl 0 rfl) ?_
        refine lv_iload_n hx hb dX2_flip_37 rfl (lv_at hl 1 rfl) ?_
        refine lv_iload_n hx hb dX2_flip_38 rfl (lv_at hl 2 rfl) ?_
        refine wx_cVi (As := [.int a, .int b]) (rest := []) F (c_X2_flipped l dC dI cI cZ cY h qx qy qh qt qs rw 0 n xs ys hs (u + 1 + 1) tb sg fl a b H.size u (r_fr tb a b 1 (u + 1 + 1)) (r_fr tb a b 0 (u + 1 + 1)) hu (in_isIn hn hn1 c_1) (in_isIn hn hn1 c_2) rfl rfl (hfl c_1 c_2 c_3)) (cwV 2 hts gX2_flip_X2_flipped rfl rfl rfl hd_X2_flipped ⟨Nat.le_of_ble_eq_true rfl, Nat.le_of_ble_eq_true rfl⟩) hP hK hD hS hA (va_recv hK hP (ci := 2) (q0 := 0) rfl rfl) rfl hl.1 rfl (lv_room (Nat.le_of_ble_eq_true rfl)) dX2_flip_39 ⟨Nat.zero_le _, Nat.zero_le _⟩ (fun H locs hP hD hS => ?_)
        have hP : va_P (dC, dI) vwCl (wR cI cZ cY h qx qy qh qt qs rw 0 n xs ys hs (u + 1 + 1) (r_flTb u tb a b (r_fr tb a b 1 (u + 1 + 1)) (r_fr tb a b 0 (u + 1 + 1))) (r_let sg (r_fr tb a b 1 (u + 1 + 1)) (r_fr tb a b 0 (u + 1 + 1)) 0) (fl + 1)) H := hP
        have hD : va_D A (wR cI cZ cY h qx qy qh qt qs rw 0 n xs ys hs (u + 1 + 1) (r_flTb u tb a b (r_fr tb a b 1 (u + 1 + 1)) (r_fr tb a b 0 (u + 1 + 1))) (r_let sg (r_fr tb a b 1 (u + 1 + 1)) (r_fr tb a b 0 (u + 1 + 1)) 0) (fl + 1)) := hD
        refine lv_goto (tgt := 50) hx hb dX2_flip_42 (by decide) ?_
        have e_th : (r_b2 (r_isIn a 0 (nI n - 1)) (r_isIn b 0 (nI n - 1)) (r_b1 (r_canFlip (u + 1 + 1) xs ys tb sg a b) 0 2) 1 : Int32) = 0 := by first | (simp only [r_b1, r_b2, r_b3, c_1, c_2, c_3]; done) | (simp only [r_b1, r_b2, r_b3, c_1, c_2, c_3]; rfl) | (simp [r_b1, r_b2, r_b3, c_1, c_2, c_3]; done)
        have e_tb : (r_b3 (r_isIn a 0 (nI n - 1)) (r_isIn b 0 (nI n - 1)) (r_canFlip (u + 1 + 1) xs ys tb sg a b) (r_flTb u tb a b (r_fr tb a b 1 (u + 1 + 1)) (r_fr tb a b 0 (u + 1 + 1))) tb : Nat → Int32) = r_flTb u tb a b (r_fr tb a b 1 (u + 1 + 1)) (r_fr tb a b 0 (u + 1 + 1)) := by first | (simp only [r_b1, r_b2, r_b3, c_1, c_2, c_3]; done) | (simp only [r_b1, r_b2, r_b3, c_1, c_2, c_3]; rfl) | (simp [r_b1, r_b2, r_b3, c_1, c_2, c_3]; done)
        have e_sg : (r_b3 (r_isIn a 0 (nI n - 1)) (r_isIn b 0 (nI n - 1)) (r_canFlip (u + 1 + 1) xs ys tb sg a b) (r_let sg (r_fr tb a b 1 (u + 1 + 1)) (r_fr tb a b 0 (u + 1 + 1)) 0) sg : Nat → Nat → Int32) = r_let sg (r_fr tb a b 1 (u + 1 + 1)) (r_fr tb a b 0 (u + 1 + 1)) 0 := by first | (simp only [r_b1, r_b2, r_b3, c_1, c_2, c_3]; done) | (simp only [r_b1, r_b2, r_b3, c_1, c_2, c_3]; rfl) | (simp [r_b1, r_b2, r_b3, c_1, c_2, c_3]; done)
        have e_fl : (r_b3 (r_isIn a 0 (nI n - 1)) (r_isIn b 0 (nI n - 1)) (r_canFlip (u + 1 + 1) xs ys tb sg a b) (fl + 1) fl : Int32) = (fl + 1) := by first | (simp only [r_b1, r_b2, r_b3, c_1, c_2, c_3]; done) | (simp only [r_b1, r_b2, r_b3, c_1, c_2, c_3]; rfl) | (simp [r_b1, r_b2, r_b3, c_1, c_2, c_3]; done)
        have hP : va_P (dC, dI) vwCl (wR cI cZ cY h qx qy qh qt qs rw (r_b2 (r_isIn a 0 (nI n - 1)) (r_isIn b 0 (nI n - 1)) (r_b1 (r_canFlip (u + 1 + 1) xs ys tb sg a b) 0 2) 1) n xs ys hs (u + 1 + 1) (r_b3 (r_isIn a 0 (nI n - 1)) (r_isIn b 0 (nI n - 1)) (r_canFlip (u + 1 + 1) xs ys tb sg a b) (r_flTb u tb a b (r_fr tb a b 1 (u + 1 + 1)) (r_fr tb a b 0 (u + 1 + 1))) tb) (r_b3 (r_isIn a 0 (nI n - 1)) (r_isIn b 0 (nI n - 1)) (r_canFlip (u + 1 + 1) xs ys tb sg a b) (r_let sg (r_fr tb a b 1 (u + 1 + 1)) (r_fr tb a b 0 (u + 1 + 1)) 0) sg) (r_b3 (r_isIn a 0 (nI n - 1)) (r_isIn b 0 (nI n - 1)) (r_canFlip (u + 1 + 1) xs ys tb sg a b) (fl + 1) fl)) H := by rw [e_th, e_tb, e_sg, e_fl]; exact hP
        have hD : va_D A (wR cI cZ cY h qx qy qh qt qs rw (r_b2 (r_isIn a 0 (nI n - 1)) (r_isIn b 0 (nI n - 1)) (r_b1 (r_canFlip (u + 1 + 1) xs ys tb sg a b) 0 2) 1) n xs ys hs (u + 1 + 1) (r_b3 (r_isIn a 0 (nI n - 1)) (r_isIn b 0 (nI n - 1)) (r_canFlip (u + 1 + 1) xs ys tb sg a b) (r_flTb u tb a b (r_fr tb a b 1 (u + 1 + 1)) (r_fr tb a b 0 (u + 1 + 1))) tb) (r_b3 (r_isIn a 0 (nI n - 1)) (r_isIn b 0 (nI n - 1)) (r_canFlip (u + 1 + 1) xs ys tb sg a b) (r_let sg (r_fr tb a b 1 (u + 1 + 1)) (r_fr tb a b 0 (u + 1 + 1)) 0) sg) (r_b3 (r_isIn a 0 (nI n - 1)) (r_isIn b 0 (nI n - 1)) (r_canFlip (u + 1 + 1) xs ys tb sg a b) (fl + 1) fl)) := by rw [e_th, e_tb, e_sg, e_fl]; exact hD
        exact wr_iret hx hb hr hlocks (by first | (simp only [r_b1, r_b2, r_b3, c_1, c_2, c_3]; done) | (simp only [r_b1, r_b2, r_b3, c_1, c_2, c_3]; rfl) | (simp [r_b1, r_b2, r_b3, c_1, c_2, c_3]; done)) hP hK hD hS dX2_flip_50
    · refine lv_aload_n hx hb dX2_flip_21 rfl (lv_at hl 0 rfl) ?_
      refine lv_iconst (v := 1) hx hb dX2_flip_22 (by decide) ?_
      refine wx_cVi (As := [.int 1]) (rest := []) F (c_X2_fail l dC dI cI cZ cY h qx qy qh qt qs rw 0 n xs ys hs (u + 1 + 1) tb sg fl 1 H.size) (cwV 1 hts gX2_flip_X2_fail rfl rfl rfl hd_X2_fail ⟨Nat.le_of_ble_eq_true rfl, Nat.le_of_ble_eq_true rfl⟩) hP hK hD hS hA (va_recv hK hP (ci := 2) (q0 := 0) rfl rfl) rfl hl.1 rfl (lv_room (Nat.le_of_ble_eq_true rfl)) dX2_flip_23 ⟨Nat.zero_le _, Nat.zero_le _⟩ (fun H locs hP hD hS => ?_)
      have hP : va_P (dC, dI) vwCl (wR cI cZ cY h qx qy qh qt qs rw 1 n xs ys hs (u + 1 + 1) tb sg fl) H := hP
      have hD : va_D A (wR cI cZ cY h qx qy qh qt qs rw 1 n xs ys hs (u + 1 + 1) tb sg fl) := hD
      have e_th : (r_b2 (r_isIn a 0 (nI n - 1)) (r_isIn b 0 (nI n - 1)) (r_b1 (r_canFlip (u + 1 + 1) xs ys tb sg a b) 0 2) 1 : Int32) = 1 := by first | (simp only [r_b1, r_b2, r_b3, c_1, c_2]; done) | (simp only [r_b1, r_b2, r_b3, c_1, c_2]; rfl) | (simp [r_b1, r_b2, r_b3, c_1, c_2]; done)
      have e_t : (u + 1 + 1 : Nat) = (u + 1 + 1) := by rfl
      have e_tb : (r_b3 (r_isIn a 0 (nI n - 1)) (r_isIn b 0 (nI n - 1)) (r_canFlip (u + 1 + 1) xs ys tb sg a b) (r_flTb u tb a b (r_fr tb a b 1 (u + 1 + 1)) (r_fr tb a b 0 (u + 1 + 1))) tb : Nat → Int32) = tb := by first | (simp only [r_b1, r_b2, r_b3, c_1, c_2]; done) | (simp only [r_b1, r_b2, r_b3, c_1, c_2]; rfl) | (simp [r_b1, r_b2, r_b3, c_1, c_2]; done)
      have e_sg : (r_b3 (r_isIn a 0 (nI n - 1)) (r_isIn b 0 (nI n - 1)) (r_canFlip (u + 1 + 1) xs ys tb sg a b) (r_let sg (r_fr tb a b 1 (u + 1 + 1)) (r_fr tb a b 0 (u + 1 + 1)) 0) sg : Nat → Nat → Int32) = sg := by first | (simp only [r_b1, r_b2, r_b3, c_1, c_2]; done) | (simp only [r_b1, r_b2, r_b3, c_1, c_2]; rfl) | (simp [r_b1, r_b2, r_b3, c_1, c_2]; done)
      have e_fl : (r_b3 (r_isIn a 0 (nI n - 1)) (r_isIn b 0 (nI n - 1)) (r_canFlip (u + 1 + 1) xs ys tb sg a b) (fl + 1) fl : Int32) = fl := by first | (simp only [r_b1, r_b2, r_b3, c_1, c_2]; done) | (simp only [r_b1, r_b2, r_b3, c_1, c_2]; rfl) | (simp [r_b1, r_b2, r_b3, c_1, c_2]; done)
      have hP : va_P (dC, dI) vwCl (wR cI cZ cY h qx qy qh qt qs rw (r_b2 (r_isIn a 0 (nI n - 1)) (r_isIn b 0 (nI n - 1)) (r_b1 (r_canFlip (u + 1 + 1) xs ys tb sg a b) 0 2) 1) n xs ys hs (u + 1 + 1) (r_b3 (r_isIn a 0 (nI n - 1)) (r_isIn b 0 (nI n - 1)) (r_canFlip (u + 1 + 1) xs ys tb sg a b) (r_flTb u tb a b (r_fr tb a b 1 (u + 1 + 1)) (r_fr tb a b 0 (u + 1 + 1))) tb) (r_b3 (r_isIn a 0 (nI n - 1)) (r_isIn b 0 (nI n - 1)) (r_canFlip (u + 1 + 1) xs ys tb sg a b) (r_let sg (r_fr tb a b 1 (u + 1 + 1)) (r_fr tb a b 0 (u + 1 + 1)) 0) sg) (r_b3 (r_isIn a 0 (nI n - 1)) (r_isIn b 0 (nI n - 1)) (r_canFlip (u + 1 + 1) xs ys tb sg a b) (fl + 1) fl)) H := by rw [e_th, e_t, e_tb, e_sg, e_fl]; exact hP
      have hD : va_D A (wR cI cZ cY h qx qy qh qt qs rw (r_b2 (r_isIn a 0 (nI n - 1)) (r_isIn b 0 (nI n - 1)) (r_b1 (r_canFlip (u + 1 + 1) xs ys tb sg a b) 0 2) 1) n xs ys hs (u + 1 + 1) (r_b3 (r_isIn a 0 (nI n - 1)) (r_isIn b 0 (nI n - 1)) (r_canFlip (u + 1 + 1) xs ys tb sg a b) (r_flTb u tb a b (r_fr tb a b 1 (u + 1 + 1)) (r_fr tb a b 0 (u + 1 + 1))) tb) (r_b3 (r_isIn a 0 (nI n - 1)) (r_isIn b 0 (nI n - 1)) (r_canFlip (u + 1 + 1) xs ys tb sg a b) (r_let sg (r_fr tb a b 1 (u + 1 + 1)) (r_fr tb a b 0 (u + 1 + 1)) 0) sg) (r_b3 (r_isIn a 0 (nI n - 1)) (r_isIn b 0 (nI n - 1)) (r_canFlip (u + 1 + 1) xs ys tb sg a b) (fl + 1) fl)) := by rw [e_th, e_t, e_tb, e_sg, e_fl]; exact hD
      exact wr_iret hx hb hr hlocks (by first | (simp only [r_b1, r_b2, r_b3, c_1, c_2]; done) | (simp only [r_b1, r_b2, r_b3, c_1, c_2]; rfl) | (simp [r_b1, r_b2, r_b3, c_1, c_2]; done)) hP hK hD hS dX2_flip_26
theorem hd_X2_settled : yX2_settled.cls = RX2 ∧ yX2_settled.cls ≠ "java/lang/invoke/MethodHandle" ∧ yX2_settled.cls ≠ "java/lang/invoke/VarHandle" ∧ (parseMethodDescriptor yX2_settled.desc).map (fun d => d.parameters.length) = some 0 := by decide +kernel
theorem in_X2_settled_X2 : ∀ w ∈ wsX20, w ∈ wsX2_settled := by decide +kernel
theorem fl_X2_settled_100 : (Cond.fieldLink RX2 100 "MoorTrianglesModel" "flips" "I") ∈ wsX2_settled := by decide +kernel
set_option maxHeartbeats 4000000 in
set_option maxRecDepth 100000 in
theorem c_X2_settled (l : Launch) (dC : Nat → ClassId) (dI : Nat → Nat → Nat) (cI cZ cY : ClassId) (h qx qy qh qt qs : Nat) (rw : Nat → Nat) (th : Int32) (n : Nat) (xs ys hs : Nat → Int32) (t : Nat) (tb : Nat → Int32) (sg : Nat → Nat → Int32) (fl : Int32) (sz : Nat) (u N : Nat) (hu : u + 1 + 1 ≤ 36) (hn : n ≤ 17) (hsome : ∀ k, k < N → (r_fu u n xs ys (r_tuS u n xs ys (tb, sg, fl) k)).isSome = true) (hno : r_fu u n xs ys (r_tuS u n xs ys (tb, sg, fl) N) = none) (hok : ∀ k, k ≤ N → r_okS u n xs ys (r_tuS u n xs ys (tb, sg, fl) k)) : Met l yX2_settled wsX2_settled ({ frames := 6, cells := 0, slots := 0, locals := 148 }) (va_Pc [.ref h] (wrP (dC, dI) (gTY cI cZ cY) (wR cI cZ cY h qx qy qh qt qs rw th n xs ys hs (u + 1 + 1) tb sg fl) sz)) (wrQi (dC, dI) (gTY cI cZ cY) ((r_tuS u n xs ys (tb, sg, fl) N).2.2 - fl) (wR cI cZ cY h qx qy qh qt qs rw th n xs ys hs (u + 1 + 1) ((r_tuS u n xs ys (tb, sg, fl) N).1) ((r_tuS u n xs ys (tb, sg, fl) N).2.1) ((r_tuS u n xs ys (tb, sg, fl) N).2.2)) (va_A (wR cI cZ cY h qx qy qh qt qs rw th n xs ys hs (u + 1 + 1) tb sg fl) sz)) 0 0 (va_A (wR cI cZ cY h qx qy qh qt qs rw th n xs ys hs (u + 1 + 1) tb sg fl) sz) := by
  refine wr_start (cc := cX2_settled) (maxL := 3) (ret := (some .int)) (Q0 := wrQi (dC, dI) (gTY cI cZ cY) ((r_tuS u n xs ys (tb, sg, fl) N).2.2 - fl) (wR cI cZ cY h qx qy qh qt qs rw th n xs ys hs (u + 1 + 1) ((r_tuS u n xs ys (tb, sg, fl) N).1) ((r_tuS u n xs ys (tb, sg, fl) N).2.1) ((r_tuS u n xs ys (tb, sg, fl) N).2.2))) RX2 (by decide) rfl rfl (Nat.le_of_ble_eq_true rfl) ?_
  intro p e s m below meth c ⟨hx, hb, hr, hml, hown, hts, hlocks, hin⟩ hP hK A hD hA hS ls hl
  have F : CallFix p m c cX2_settled 3 s ([.ref h] : List Value).toArray wsX2_settled RX2 := ⟨hx, hb, hml, hown, hts⟩
  have hl : lv_has ls 3 [(0, .ref h)] := hl
  refine lv_aload_n hx hb dX2_settled_0 rfl (lv_at hl 0 rfl) ?_
  refine va_get (D := (dC, dI)) (ci := 2) (v := .int fl) (C := RX2) (T := TX2) (N := 9) hx hb hts in_X2_settled_X2 hown hK hP 0 rfl rfl 8 (by decide) (hts (.fieldLink RX2 100 "MoorTrianglesModel" "flips" "I") fl_X2_settled_100) (fun _ h9 => h9) rfl dX2_settled_1 ?_
  refine lv_istore_n (lv' := [(1, .int fl), (0, .ref h)]) hx hb dX2_settled_4 rfl hl (by decide) rfl (fun ls hl => ?_)
  refine lv_iconst (v := 1) hx hb dX2_settled_5 (by decide) ?_
  refine lv_istore_n (lv' := [(2, .int 1), (1, .int fl), (0, .ref h)]) hx hb dX2_settled_6 rfl hl (by decide) rfl (fun ls hl => ?_)
  have hL7 : ∀ (k_1 : Nat) (k7 : Nat) (z7 : Nat), (N - k7 + z7) < k_1 → (k7 ≤ N) → (z7 = 1 ∨ (z7 = 0 ∧ k7 = N)) → ∀ ls : Array Slot, lv_has ls 3 [(2, .int (nI z7)), (1, .int fl), (0, .ref h)] → ∀ (H : Heap) (locs : List Loc), va_P (dC, dI) vwCl (wR cI cZ cY h qx qy qh qt qs rw th n xs ys hs (u + 1 + 1) ((r_tuS u n xs ys (tb, sg, fl) k7).1) ((r_tuS u n xs ys (tb, sg, fl) k7).2.1) ((r_tuS u n xs ys (tb, sg, fl) k7).2.2)) H → va_D A (wR cI cZ cY h qx qy qh qt qs rw th n xs ys hs (u + 1 + 1) ((r_tuS u n xs ys (tb, sg, fl) k7).1) ((r_tuS u n xs ys (tb, sg, fl) k7).2.1) ((r_tuS u n xs ys (tb, sg, fl) k7).2.2)) → va_S A s.heap H locs → W p l e ({ frames := 6, cells := 0, slots := 0, locals := 148 } : Room) s m ([.ref h] : List Value).toArray below meth c H locs 0 0 (MQ below (wrQi (dC, dI) (gTY cI cZ cY) ((r_tuS u n xs ys (tb, sg, fl) N).2.2 - fl) (wR cI cZ cY h qx qy qh qt qs rw th n xs ys hs (u + 1 + 1) ((r_tuS u n xs ys (tb, sg, fl) N).1) ((r_tuS u n xs ys (tb, sg, fl) N).2.1) ((r_tuS u n xs ys (tb, sg, fl) N).2.2)) A) ([.ref h] : List Value).toArray s 0 0 A) (F0 m 7 ls []) := by
    intro k_1
    induction k_1 with
    | zero => intro k7 z7 hk; exact absurd hk (Nat.not_lt_zero _)
    | succ k_1 ih_2 =>
      intro k7 z7 hk_7 hk7 hz7 ls hl H locs hP hD hS
      refine lv_iload_n hx hb dX2_settled_7 rfl (lv_at hl 0 rfl) ?_
      refine lv_if_eq (tgt := 19) hx hb dX2_settled_8 (by decide) (fun c_3 => ?_) (fun c_3 => ?_)
      · have hz0 : z7 = 0 := by
          rcases hz7 with q | q
          · rw [q] at c_3; exact absurd c_3 (by decide)
          · exact q.1
        have hkN : k7 = N := by omega
        have hP : va_P (dC, dI) vwCl (wR cI cZ cY h qx qy qh qt qs rw th n xs ys hs (u + 1 + 1) ((r_tuS u n xs ys (tb, sg, fl) N).1) ((r_tuS u n xs ys (tb, sg, fl) N).2.1) ((r_tuS u n xs ys (tb, sg, fl) N).2.2)) H := by rw [hkN] at hP; exact hP
        have hD : va_D A (wR cI cZ cY h qx qy qh qt qs rw th n xs ys hs (u + 1 + 1) ((r_tuS u n xs ys (tb, sg, fl) N).1) ((r_tuS u n xs ys (tb, sg, fl) N).2.1) ((r_tuS u n xs ys (tb, sg, fl) N).2.2)) := by rw [hkN] at hD; exact hD
        refine lv_aload_n hx hb dX2_settled_19 rfl (lv_at hl 2 rfl) ?_
        refine va_get (D := (dC, dI)) (ci := 2) (v := .int ((r_tuS u n xs ys (tb, sg, fl) N).2.2)) (C := RX2) (T := TX2) (N := 9) hx hb hts in_X2_settled_X2 hown hK hP 0 rfl rfl 8 (by decide) (hts (.fieldLink RX2 100 "MoorTrianglesModel" "flips" "I") fl_X2_settled_100) (fun _ h9 => h9) rfl dX2_settled_20 ?_
        refine lv_iload_n hx hb dX2_settled_23 rfl (lv_at hl 1 rfl) ?_
        refine lv_isub hx hb dX2_settled_24 ?_
        exact wr_iret hx hb hr hlocks (by rfl) hP hK hD hS dX2_settled_25
      · have hz1 : z7 = 1 := by
          rcases hz7 with q | q
          · exact q
          · rw [q.1] at c_3; exact absurd rfl c_3
        refine lv_aload_n hx hb dX2_settled_11 rfl (lv_at hl 2 rfl) ?_
        refine wx_cVi (As := []) (rest := []) F (c_X2_settleOne l dC dI cI cZ cY h qx qy qh qt qs rw th n xs ys hs (u + 1 + 1) ((r_tuS u n xs ys (tb, sg, fl) k7).1) ((r_tuS u n xs ys (tb, sg, fl) k7).2.1) ((r_tuS u n xs ys (tb, sg, fl) k7).2.2) H.size u hu hn (hok k7 hk7)) (cwV 0 hts gX2_settled_X2_settleOne rfl rfl rfl hd_X2_settleOne ⟨Nat.le_of_ble_eq_true rfl, Nat.le_of_ble_eq_true rfl⟩) hP hK hD hS hA (va_recv hK hP (ci := 2) (q0 := 0) rfl rfl) rfl hl.1 rfl (lv_room (Nat.le_of_ble_eq_true rfl)) dX2_settled_12 ⟨Nat.zero_le _, Nat.zero_le _⟩ (fun H locs hP hD hS => ?_)
        have hP : va_P (dC, dI) vwCl (wR cI cZ cY h qx qy qh qt qs rw th n xs ys hs (u + 1 + 1) ((r_fuSt u n xs ys (((r_tuS u n xs ys (tb, sg, fl) k7).1), ((r_tuS u n xs ys (tb, sg, fl) k7).2.1), ((r_tuS u n xs ys (tb, sg, fl) k7).2.2))).1) ((r_fuSt u n xs ys (((r_tuS u n xs ys (tb, sg, fl) k7).1), ((r_tuS u n xs ys (tb, sg, fl) k7).2.1), ((r_tuS u n xs ys (tb, sg, fl) k7).2.2))).2.1) ((r_fuSt u n xs ys (((r_tuS u n xs ys (tb, sg, fl) k7).1), ((r_tuS u n xs ys (tb, sg, fl) k7).2.1), ((r_tuS u n xs ys (tb, sg, fl) k7).2.2))).2.2)) H := hP
        have hD : va_D A (wR cI cZ cY h qx qy qh qt qs rw th n xs ys hs (u + 1 + 1) ((r_fuSt u n xs ys (((r_tuS u n xs ys (tb, sg, fl) k7).1), ((r_tuS u n xs ys (tb, sg, fl) k7).2.1), ((r_tuS u n xs ys (tb, sg, fl) k7).2.2))).1) ((r_fuSt u n xs ys (((r_tuS u n xs ys (tb, sg, fl) k7).1), ((r_tuS u n xs ys (tb, sg, fl) k7).2.1), ((r_tuS u n xs ys (tb, sg, fl) k7).2.2))).2.1) ((r_fuSt u n xs ys (((r_tuS u n xs ys (tb, sg, fl) k7).1), ((r_tuS u n xs ys (tb, sg, fl) k7).2.1), ((r_tuS u n xs ys (tb, sg, fl) k7).2.2))).2.2)) := hD
        rcases Nat.lt_or_ge k7 N with q7 | q7
        · refine lv_cvi (y := nI 1) (by rw [hsome k7 q7]; rfl) ?_
          refine lv_istore_n (lv' := [(2, .int (nI 1)), (1, .int fl), (0, .ref h)]) hx hb dX2_settled_15 rfl hl (by decide) rfl (fun ls hl => ?_)
          refine lv_goto (tgt := 7) hx hb dX2_settled_16 (by decide) ?_
          have hl := lv_sub (l' := [(2, .int (nI 1)), (1, .int fl), (0, .ref h)]) hl [0, 1, 2] rfl
          have hl : lv_has ls 3 [(2, .int (nI 1)), (1, .int fl), (0, .ref h)] := by
            have e9 : [(2, .int (nI 1)), (1, .int fl), (0, .ref h)] = ([(2, .int (nI 1)), (1, .int fl), (0, .ref h)] : List (Nat × Value)) := by rfl
            rw [← e9]; exact hl
          have e_tb : ((r_tuS u n xs ys (tb, sg, fl) (k7 + 1)).1 : Nat → Int32) = (r_fuSt u n xs ys (((r_tuS u n xs ys (tb, sg, fl) k7).1), ((r_tuS u n xs ys (tb, sg, fl) k7).2.1), ((r_tuS u n xs ys (tb, sg, fl) k7).2.2))).1 := by rfl
          have e_sg : ((r_tuS u n xs ys (tb, sg, fl) (k7 + 1)).2.1 : Nat → Nat → Int32) = (r_fuSt u n xs ys (((r_tuS u n xs ys (tb, sg, fl) k7).1), ((r_tuS u n xs ys (tb, sg, fl) k7).2.1), ((r_tuS u n xs ys (tb, sg, fl) k7).2.2))).2.1 := by rfl
          have e_fl : ((r_tuS u n xs ys (tb, sg, fl) (k7 + 1)).2.2 : Int32) = (r_fuSt u n xs ys (((r_tuS u n xs ys (tb, sg, fl) k7).1), ((r_tuS u n xs ys (tb, sg, fl) k7).2.1), ((r_tuS u n xs ys (tb, sg, fl) k7).2.2))).2.2 := by rfl
          have hP : va_P (dC, dI) vwCl (wR cI cZ cY h qx qy qh qt qs rw th n xs ys hs (u + 1 + 1) ((r_tuS u n xs ys (tb, sg, fl) (k7 + 1)).1) ((r_tuS u n xs ys (tb, sg, fl) (k7 + 1)).2.1) ((r_tuS u n xs ys (tb, sg, fl) (k7 + 1)).2.2)) H := by rw [e_tb, e_sg, e_fl]; exact hP
          have hD : va_D A (wR cI cZ cY h qx qy qh qt qs rw th n xs ys hs (u + 1 + 1) ((r_tuS u n xs ys (tb, sg, fl) (k7 + 1)).1) ((r_tuS u n xs ys (tb, sg, fl) (k7 + 1)).2.1) ((r_tuS u n xs ys (tb, sg, fl) (k7 + 1)).2.2)) := by rw [e_tb, e_sg, e_fl]; exact hD
          exact ih_2 (k7 + 1) 1 (by omega) (by omega) (Or.inl rfl) _ hl _ _ hP hD hS
        · have e7 : k7 = N := by omega
          have hno7 : r_fu u n xs ys (r_tuS u n xs ys (tb, sg, fl) k7) = none := by rw [e7]; exact hno
          refine lv_cvi (y := nI 0) (by rw [show r_fu u n xs ys ((r_tuS u n xs ys (tb, sg, fl) k7).1, (r_tuS u n xs ys (tb, sg, fl) k7).2.1, (r_tuS u n xs ys (tb, sg, fl) k7).2.2) = none from hno7]; rfl) ?_
          rw [show r_fuSt u n xs ys ((r_tuS u n xs ys (tb, sg, fl) k7).1, (r_tuS u n xs ys (tb, sg, fl) k7).2.1, (r_tuS u n xs ys (tb, sg, fl) k7).2.2) = r_tuS u n xs ys (tb, sg, fl) k7 from r_fuSt_none hno7] at hP hD
          refine lv_istore_n (lv' := [(2, .int (nI 0)), (1, .int fl), (0, .ref h)]) hx hb dX2_settled_15 rfl hl (by decide) rfl (fun ls hl => ?_)
          refine lv_goto (tgt := 7) hx hb dX2_settled_16 (by decide) ?_
          have hl := lv_sub (l' := [(2, .int (nI 0)), (1, .int fl), (0, .ref h)]) hl [0, 1, 2] rfl
          have hl : lv_has ls 3 [(2, .int (nI 0)), (1, .int fl), (0, .ref h)] := by
            have e9 : [(2, .int (nI 0)), (1, .int fl), (0, .ref h)] = ([(2, .int (nI 0)), (1, .int fl), (0, .ref h)] : List (Nat × Value)) := by rfl
            rw [← e9]; exact hl
          exact ih_2 k7 0 (by omega) (by omega) (Or.inr ⟨rfl, e7⟩) _ hl _ _ hP hD hS
  have hl := lv_sub (l' := [(2, .int 1), (1, .int fl), (0, .ref h)]) hl [0, 1, 2] rfl
  have hl : lv_has ls 3 [(2, .int (nI 1)), (1, .int fl), (0, .ref h)] := by
    have e9 : [(2, .int 1), (1, .int fl), (0, .ref h)] = ([(2, .int (nI 1)), (1, .int fl), (0, .ref h)] : List (Nat × Value)) := by rfl
    rw [← e9]; exact hl
  have e_tb : ((r_tuS u n xs ys (tb, sg, fl) 0).1 : Nat → Int32) = tb := by rfl
  have e_sg : ((r_tuS u n xs ys (tb, sg, fl) 0).2.1 : Nat → Nat → Int32) = sg := by rfl
  have e_fl : ((r_tuS u n xs ys (tb, sg, fl) 0).2.2 : Int32) = fl := by rfl
  have hP : va_P (dC, dI) vwCl (wR cI cZ cY h qx qy qh qt qs rw th n xs ys hs (u + 1 + 1) ((r_tuS u n xs ys (tb, sg, fl) 0).1) ((r_tuS u n xs ys (tb, sg, fl) 0).2.1) ((r_tuS u n xs ys (tb, sg, fl) 0).2.2)) s.heap := by rw [e_tb, e_sg, e_fl]; exact hP
  have hD : va_D A (wR cI cZ cY h qx qy qh qt qs rw th n xs ys hs (u + 1 + 1) ((r_tuS u n xs ys (tb, sg, fl) 0).1) ((r_tuS u n xs ys (tb, sg, fl) 0).2.1) ((r_tuS u n xs ys (tb, sg, fl) 0).2.2)) := by rw [e_tb, e_sg, e_fl]; exact hD
  exact hL7 _ 0 1 (Nat.lt_succ_self _) (Nat.zero_le _) (Or.inl rfl) _ hl _ _ hP hD hS
theorem hd_X2_settle : yX2_settle.cls = RX2 ∧ yX2_settle.cls ≠ "java/lang/invoke/MethodHandle" ∧ yX2_settle.cls ≠ "java/lang/invoke/VarHandle" ∧ (parseMethodDescriptor yX2_settle.desc).map (fun d => d.parameters.length) = some 0 := by decide +kernel
theorem in_X2_settle_X2 : ∀ w ∈ wsX20, w ∈ wsX2_settle := by decide +kernel
theorem fl_X2_settle_35 : (Cond.fieldLink RX2 35 "MoorTrianglesModel" "thrown" "I") ∈ wsX2_settle := by decide +kernel
set_option maxHeartbeats 4000000 in
set_option maxRecDepth 100000 in
theorem c_X2_settle (l : Launch) (dC : Nat → ClassId) (dI : Nat → Nat → Nat) (cI cZ cY : ClassId) (h qx qy qh qt qs : Nat) (rw : Nat → Nat) (th : Int32) (n : Nat) (xs ys hs : Nat → Int32) (t : Nat) (tb : Nat → Int32) (sg : Nat → Nat → Int32) (fl : Int32) (sz : Nat) (u N : Nat) (hu : u + 1 + 1 ≤ 36) (hn : n ≤ 17) (hsome : ∀ k, k < N → (r_fu u n xs ys (r_tuS u n xs ys (tb, sg, fl) k)).isSome = true) (hno : r_fu u n xs ys (r_tuS u n xs ys (tb, sg, fl) N) = none) (hok : ∀ k, k ≤ N → r_okS u n xs ys (r_tuS u n xs ys (tb, sg, fl) k)) : Met l yX2_settle wsX2_settle ({ frames := 7, cells := 0, slots := 0, locals := 170 }) (va_Pc [.ref h] (wrP (dC, dI) (gTY cI cZ cY) (wR cI cZ cY h qx qy qh qt qs rw th n xs ys hs (u + 1 + 1) tb sg fl) sz)) (wrQi (dC, dI) (gTY cI cZ cY) ((r_tuS u n xs ys (tb, sg, fl) N).2.2 - fl) (wR cI cZ cY h qx qy qh qt qs rw 0 n xs ys hs (u + 1 + 1) ((r_tuS u n xs ys (tb, sg, fl) N).1) ((r_tuS u n xs ys (tb, sg, fl) N).2.1) ((r_tuS u n xs ys (tb, sg, fl) N).2.2)) (va_A (wR cI cZ cY h qx qy qh qt qs rw th n xs ys hs (u + 1 + 1) tb sg fl) sz)) 0 0 (va_A (wR cI cZ cY h qx qy qh qt qs rw th n xs ys hs (u + 1 + 1) tb sg fl) sz) := by
  refine wr_start (cc := cX2_settle) (maxL := 1) (ret := (some .int)) (Q0 := wrQi (dC, dI) (gTY cI cZ cY) ((r_tuS u n xs ys (tb, sg, fl) N).2.2 - fl) (wR cI cZ cY h qx qy qh qt qs rw 0 n xs ys hs (u + 1 + 1) ((r_tuS u n xs ys (tb, sg, fl) N).1) ((r_tuS u n xs ys (tb, sg, fl) N).2.1) ((r_tuS u n xs ys (tb, sg, fl) N).2.2))) RX2 (by decide) rfl rfl (Nat.le_of_ble_eq_true rfl) ?_
  intro p e s m below meth c ⟨hx, hb, hr, hml, hown, hts, hlocks, hin⟩ hP hK A hD hA hS ls hl
  have F : CallFix p m c cX2_settle 1 s ([.ref h] : List Value).toArray wsX2_settle RX2 := ⟨hx, hb, hml, hown, hts⟩
  have hl : lv_has ls 1 [(0, .ref h)] := hl
  refine lv_aload_n hx hb dX2_settle_0 rfl (lv_at hl 0 rfl) ?_
  refine lv_iconst (v := 0) hx hb dX2_settle_1 (by decide) ?_
  refine va_put (D := (dC, dI)) (ci := 2) (v := .int 0) (ty := .int) (C := RX2) (T := TX2) (N := 9) hx hb hts in_X2_settle_X2 tyX2 tyX2_ok nmX2 hown hK hP hD hS 0 rfl rfl 0 (by decide) (hts (.fieldLink RX2 35 "MoorTrianglesModel" "thrown" "I") fl_X2_settle_35) (fun _ h9 => h9) rfl (by decide +kernel) rfl rfl (Nat.le_of_ble_eq_true rfl) dX2_settle_2 (fun H locs hP hD hS => ?_)
  have hP : va_P (dC, dI) vwCl (wR cI cZ cY h qx qy qh qt qs rw 0 n xs ys hs (u + 1 + 1) tb sg fl) H := hP
  have hD : va_D A (wR cI cZ cY h qx qy qh qt qs rw 0 n xs ys hs (u + 1 + 1) tb sg fl) := hD
  refine lv_aload_n hx hb dX2_settle_5 rfl (lv_at hl 0 rfl) ?_
  refine wx_cVi (As := []) (rest := []) F (c_X2_settled l dC dI cI cZ cY h qx qy qh qt qs rw 0 n xs ys hs (u + 1 + 1) tb sg fl H.size u N hu hn hsome hno hok) (cwV 0 hts gX2_settle_X2_settled rfl rfl rfl hd_X2_settled ⟨Nat.le_of_ble_eq_true rfl, Nat.le_of_ble_eq_true rfl⟩) hP hK hD hS hA (va_recv hK hP (ci := 2) (q0 := 0) rfl rfl) rfl hl.1 rfl (lv_room (Nat.le_of_ble_eq_true rfl)) dX2_settle_6 ⟨Nat.zero_le _, Nat.zero_le _⟩ (fun H locs hP hD hS => ?_)
  have hP : va_P (dC, dI) vwCl (wR cI cZ cY h qx qy qh qt qs rw 0 n xs ys hs (u + 1 + 1) ((r_tuS u n xs ys (tb, sg, fl) N).1) ((r_tuS u n xs ys (tb, sg, fl) N).2.1) ((r_tuS u n xs ys (tb, sg, fl) N).2.2)) H := hP
  have hD : va_D A (wR cI cZ cY h qx qy qh qt qs rw 0 n xs ys hs (u + 1 + 1) ((r_tuS u n xs ys (tb, sg, fl) N).1) ((r_tuS u n xs ys (tb, sg, fl) N).2.1) ((r_tuS u n xs ys (tb, sg, fl) N).2.2)) := hD
  exact wr_iret hx hb hr hlocks (by rfl) hP hK hD hS dX2_settle_9
theorem hd_X2_split : yX2_split.cls = RX2 ∧ yX2_split.cls ≠ "java/lang/invoke/MethodHandle" ∧ yX2_split.cls ≠ "java/lang/invoke/VarHandle" ∧ (parseMethodDescriptor yX2_split.desc).map (fun d => d.parameters.length) = some 3 := by decide +kernel
