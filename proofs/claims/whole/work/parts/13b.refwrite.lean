theorem in_X2_put_X2 : ∀ w ∈ wsX20, w ∈ wsX2_put := by decide +kernel
theorem fl_X2_put_55 : (Cond.fieldLink RX2 55 "MoorTrianglesModel" "triangles" "I") ∈ wsX2_put := by decide +kernel
theorem fl_X2_put_23 : (Cond.fieldLink RX2 23 "MoorTrianglesModel" "told" "[I") ∈ wsX2_put := by decide +kernel
set_option maxHeartbeats 4000000 in
set_option maxRecDepth 100000 in
theorem c_X2_put (l : Launch) (dC : Nat → ClassId) (dI : Nat → Nat → Nat) (cI cZ cY : ClassId) (h qx qy qh qt qs : Nat) (rw : Nat → Nat) (th : Int32) (n : Nat) (xs ys hs : Nat → Int32) (t : Nat) (tb : Nat → Int32) (sg : Nat → Nat → Int32) (fl : Int32) (a : Int32) (b : Int32) (k : Int32) (sz : Nat) (ht : t < 36) : Met l yX2_put wsX2_put ({ frames := 2, cells := 0, slots := 0, locals := 38 }) (va_Pc [.ref h, .int a, .int b, .int k] (wrP (dC, dI) (gTY cI cZ cY) (wR cI cZ cY h qx qy qh qt qs rw th n xs ys hs t tb sg fl) sz)) (wrQv (dC, dI) (gTY cI cZ cY) (wR cI cZ cY h qx qy qh qt qs rw th n xs ys hs (t + 1) (r_put t tb a b k) sg fl) (va_A (wR cI cZ cY h qx qy qh qt qs rw th n xs ys hs t tb sg fl) sz)) 0 0 (va_A (wR cI cZ cY h qx qy qh qt qs rw th n xs ys hs t tb sg fl) sz) := by
  refine wr_start (cc := cX2_put) (maxL := 6) (ret := none) (Q0 := wrQv (dC, dI) (gTY cI cZ cY) (wR cI cZ cY h qx qy qh qt qs rw th n xs ys hs (t + 1) (r_put t tb a b k) sg fl)) RX2 (by decide) rfl rfl (Nat.le_of_ble_eq_true rfl) ?_
  intro p e s m below meth c ⟨hx, hb, hr, hml, hown, hts, hlocks, hin⟩ hP hK A hD hA hS ls hl
  have F : CallFix p m c cX2_put 6 s ([.ref h, .int a, .int b, .int k] : List Value).toArray wsX2_put RX2 := ⟨hx, hb, hml, hown, hts⟩
  have hl : lv_has ls 6 [(0, .ref h), (1, .int a), (2, .int b), (3, .int k)] := hl
  refine lv_iload_n hx hb dX2_put_0 rfl (lv_at hl 1 rfl) ?_
  refine lv_iload_n hx hb dX2_put_1 rfl (lv_at hl 2 rfl) ?_
  refine lv_iload_n hx hb dX2_put_2 rfl (lv_at hl 3 rfl) ?_
  refine rd_cSi (As := [.int a, .int b, .int k]) (rest := []) F (c_X2_code l dC dI cI cZ cY a b k) (cwS 3 hts gX2_put_X2_code rfl rfl rfl hd_X2_code ⟨Nat.le_of_ble_eq_true rfl, Nat.le_of_ble_eq_true rfl⟩) va_P0 hK rfl hl.1 rfl (lv_room (Nat.le_of_ble_eq_true rfl)) dX2_put_3 ⟨Nat.zero_le _, Nat.zero_le _⟩ ?_
  refine lv_istore (lv' := [(4, .int (r_code a b k)), (0, .ref h), (1, .int a), (2, .int b), (3, .int k)]) hx hb dX2_put_6 hl (by decide) rfl (fun ls hl => ?_)
  refine lv_aload_n hx hb dX2_put_8 rfl (lv_at hl 1 rfl) ?_
  refine va_get (D := (dC, dI)) (ci := 2) (v := .int (nI t)) (C := RX2) (T := TX2) (N := 9) hx hb hts in_X2_put_X2 hown hK hP 0 rfl rfl 5 (by decide) (hts (.fieldLink RX2 55 "MoorTrianglesModel" "triangles" "I") fl_X2_put_55) (fun _ h9 => h9) rfl dX2_put_9 ?_
  refine lv_istore (lv' := [(5, .int (nI t)), (4, .int (r_code a b k)), (0, .ref h), (1, .int a), (2, .int b), (3, .int k)]) hx hb dX2_put_12 hl (by decide) rfl (fun ls hl => ?_)
  have hL14 : ∀ (k_1 : Nat) (k9 : Nat) (tc : Nat → Int32), k9 < k_1 → (k9 ≤ t) → (r_ins tc (r_code a b k) k9 = r_ins tb (r_code a b k) t) → ∀ ls : Array Slot, lv_has ls 6 [(5, .int (nI k9)), (4, .int (r_code a b k)), (0, .ref h), (1, .int a), (2, .int b), (3, .int k)] → ∀ (H : Heap) (locs : List Loc), va_P (dC, dI) vwCl (wR cI cZ cY h qx qy qh qt qs rw th n xs ys hs t tc sg fl) H → va_D A (wR cI cZ cY h qx qy qh qt qs rw th n xs ys hs t tc sg fl) → va_S A s.heap H locs → W p l e ({ frames := 2, cells := 0, slots := 0, locals := 38 } : Room) s m ([.ref h, .int a, .int b, .int k] : List Value).toArray below meth c H locs 0 0 (MQ below (wrQv (dC, dI) (gTY cI cZ cY) (wR cI cZ cY h qx qy qh qt qs rw th n xs ys hs (t + 1) (r_put t tb a b k) sg fl) A) ([.ref h, .int a, .int b, .int k] : List Value).toArray s 0 0 A) (F0 m 14 ls []) := by
    intro k_1
    induction k_1 with
    | zero => intro k9 tc hk; exact absurd hk (Nat.not_lt_zero _)
    | succ k_1 ih_2 =>
      intro k9 tc hk_14 hi hins ls hl H locs hP hD hS
      refine lv_iload hx hb dX2_put_14 (lv_at hl 0 rfl) ?_
      refine lv_if_le (tgt := 55) hx hb dX2_put_16 (by decide) (fun c_3 => ?_) (fun c_3 => ?_)
      · have hk0 : k9 = 0 := by
          have := (nI_leI (a := k9) (b := 0) (by omega) (by decide)).mp c_3
          omega
        subst hk0
        refine lv_aload_n hx hb dX2_put_55 rfl (lv_at hl 2 rfl) ?_
        refine va_get (D := (dC, dI)) (ci := 2) (v := .ref qt) (C := RX2) (T := TX2) (N := 9) hx hb hts in_X2_put_X2 hown hK hP 0 rfl rfl 6 (by decide) (hts (.fieldLink RX2 23 "MoorTrianglesModel" "told" "[I") fl_X2_put_23) (fun _ h9 => h9) rfl dX2_put_56 ?_
        refine lv_iload hx hb dX2_put_59 (lv_at hl 0 rfl) ?_
        refine lv_iload hx hb dX2_put_61 (lv_at hl 1 rfl) ?_
        refine va_iast (D := (dC, dI)) hx hb hK hP hD hS 4 0 rfl rfl (vp_in_nI (by omega) (by decide)) dX2_put_63 (fun H locs hP hD hS => ?_)
        have hP : va_P (dC, dI) vwCl (wR cI cZ cY h qx qy qh qt qs rw th n xs ys hs t (upd tc (nI 0).toNatClampNeg (r_code a b k)) sg fl) H := hP
        have hD : va_D A (wR cI cZ cY h qx qy qh qt qs rw th n xs ys hs t (upd tc (nI 0).toNatClampNeg (r_code a b k)) sg fl) := hD
        refine lv_aload_n hx hb dX2_put_64 rfl (lv_at hl 2 rfl) ?_
        refine lv_dup hx hb dX2_put_65 rfl ?_
        refine va_get (D := (dC, dI)) (ci := 2) (v := .int (nI t)) (C := RX2) (T := TX2) (N := 9) hx hb hts in_X2_put_X2 hown hK hP 0 rfl rfl 5 (by decide) (hts (.fieldLink RX2 55 "MoorTrianglesModel" "triangles" "I") fl_X2_put_55) (fun _ h9 => h9) rfl dX2_put_66 ?_
        refine lv_iconst (v := 1) hx hb dX2_put_69 (by decide) ?_
        refine lv_iadd hx hb dX2_put_70 ?_
        refine lv_cvi (nI_1 _) ?_
        refine va_put (D := (dC, dI)) (ci := 2) (v := .int (nI (t + 1))) (ty := .int) (C := RX2) (T := TX2) (N := 9) hx hb hts in_X2_put_X2 tyX2 tyX2_ok nmX2 hown hK hP hD hS 0 rfl rfl 5 (by decide) (hts (.fieldLink RX2 55 "MoorTrianglesModel" "triangles" "I") fl_X2_put_55) (fun _ h9 => h9) rfl (by decide +kernel) rfl rfl (Nat.le_of_ble_eq_true rfl) dX2_put_71 (fun H locs hP hD hS => ?_)
        have hP : va_P (dC, dI) vwCl (wR cI cZ cY h qx qy qh qt qs rw th n xs ys hs (t + 1) (upd tc (nI 0).toNatClampNeg (r_code a b k)) sg fl) H := hP
        have hD : va_D A (wR cI cZ cY h qx qy qh qt qs rw th n xs ys hs (t + 1) (upd tc (nI 0).toNatClampNeg (r_code a b k)) sg fl) := hD
        have e_t : (t + 1 : Nat) = (t + 1) := by rfl
        have e_tb : (r_put t tb a b k : Nat → Int32) = (upd tc (nI 0).toNatClampNeg (r_code a b k)) := by unfold r_put; rw [← hins, nI_clamp (by omega)]; rfl
        have hP : va_P (dC, dI) vwCl (wR cI cZ cY h qx qy qh qt qs rw th n xs ys hs (t + 1) (r_put t tb a b k) sg fl) H := by rw [e_t, e_tb]; exact hP
        have hD : va_D A (wR cI cZ cY h qx qy qh qt qs rw th n xs ys hs (t + 1) (r_put t tb a b k) sg fl) := by rw [e_t, e_tb]; exact hD
        exact wr_vret hx hb hr hlocks hP hK hD hS dX2_put_74
      · obtain ⟨k8, rfl⟩ : ∃ k8, k9 = k8 + 1 := ⟨k9 - 1, by
          rcases Nat.eq_zero_or_pos k9 with q | q
          · rw [q] at c_3; exact absurd (show nI 0 ≤ 0 by decide) c_3
          · omega⟩
        refine lv_aload_n hx hb dX2_put_19 rfl (lv_at hl 2 rfl) ?_
        refine va_get (D := (dC, dI)) (ci := 2) (v := .ref qt) (C := RX2) (T := TX2) (N := 9) hx hb hts in_X2_put_X2 hown hK hP 0 rfl rfl 6 (by decide) (hts (.fieldLink RX2 23 "MoorTrianglesModel" "told" "[I") fl_X2_put_23) (fun _ h9 => h9) rfl dX2_put_20 ?_
        refine lv_iload hx hb dX2_put_23 (lv_at hl 0 rfl) ?_
        refine lv_iconst (v := 1) hx hb dX2_put_25 (by decide) ?_
        refine lv_isub hx hb dX2_put_26 ?_
        refine lv_cvi (nI_pred _) ?_
        refine va_iald (D := (dC, dI)) hx hb hK hP 4 0 rfl rfl (vp_in_nI (by omega) (by decide)) dX2_put_27 ?_
        refine lv_cvi (congrArg tc (nI_clamp (by omega))) ?_
        refine lv_iload hx hb dX2_put_28 (lv_at hl 1 rfl) ?_
        refine lv_icmp_le (tgt := 55) hx hb dX2_put_30 (by decide) (fun c_4 => ?_) (fun c_4 => ?_)
        · refine lv_aload_n hx hb dX2_put_55 rfl (lv_at hl 2 rfl) ?_
          refine va_get (D := (dC, dI)) (ci := 2) (v := .ref qt) (C := RX2) (T := TX2) (N := 9) hx hb hts in_X2_put_X2 hown hK hP 0 rfl rfl 6 (by decide) (hts (.fieldLink RX2 23 "MoorTrianglesModel" "told" "[I") fl_X2_put_23) (fun _ h9 => h9) rfl dX2_put_56 ?_
          refine lv_iload hx hb dX2_put_59 (lv_at hl 0 rfl) ?_
          refine lv_iload hx hb dX2_put_61 (lv_at hl 1 rfl) ?_
          refine va_iast (D := (dC, dI)) hx hb hK hP hD hS 4 0 rfl rfl (vp_in_nI (by omega) (by decide)) dX2_put_63 (fun H locs hP hD hS => ?_)
          have hP : va_P (dC, dI) vwCl (wR cI cZ cY h qx qy qh qt qs rw th n xs ys hs t (upd tc (nI (k8 + 1)).toNatClampNeg (r_code a b k)) sg fl) H := hP
          have hD : va_D A (wR cI cZ cY h qx qy qh qt qs rw th n xs ys hs t (upd tc (nI (k8 + 1)).toNatClampNeg (r_code a b k)) sg fl) := hD
          refine lv_aload_n hx hb dX2_put_64 rfl (lv_at hl 2 rfl) ?_
          refine lv_dup hx hb dX2_put_65 rfl ?_
          refine va_get (D := (dC, dI)) (ci := 2) (v := .int (nI t)) (C := RX2) (T := TX2) (N := 9) hx hb hts in_X2_put_X2 hown hK hP 0 rfl rfl 5 (by decide) (hts (.fieldLink RX2 55 "MoorTrianglesModel" "triangles" "I") fl_X2_put_55) (fun _ h9 => h9) rfl dX2_put_66 ?_
          refine lv_iconst (v := 1) hx hb dX2_put_69 (by decide) ?_
          refine lv_iadd hx hb dX2_put_70 ?_
          refine lv_cvi (nI_1 _) ?_
          refine va_put (D := (dC, dI)) (ci := 2) (v := .int (nI (t + 1))) (ty := .int) (C := RX2) (T := TX2) (N := 9) hx hb hts in_X2_put_X2 tyX2 tyX2_ok nmX2 hown hK hP hD hS 0 rfl rfl 5 (by decide) (hts (.fieldLink RX2 55 "MoorTrianglesModel" "triangles" "I") fl_X2_put_55) (fun _ h9 => h9) rfl (by decide +kernel) rfl rfl (Nat.le_of_ble_eq_true rfl) dX2_put_71 (fun H locs hP hD hS => ?_)
          have hP : va_P (dC, dI) vwCl (wR cI cZ cY h qx qy qh qt qs rw th n xs ys hs (t + 1) (upd tc (nI (k8 + 1)).toNatClampNeg (r_code a b k)) sg fl) H := hP
          have hD : va_D A (wR cI cZ cY h qx qy qh qt qs rw th n xs ys hs (t + 1) (upd tc (nI (k8 + 1)).toNatClampNeg (r_code a b k)) sg fl) := hD
          have e_t : (t + 1 : Nat) = (t + 1) := by rfl
          have e_tb : (r_put t tb a b k : Nat → Int32) = (upd tc (nI (k8 + 1)).toNatClampNeg (r_code a b k)) := by unfold r_put; rw [← hins, nI_clamp (by omega)]; show (if tc k8 ≤ _ then _ else _) = _; rw [if_pos c_4]
          have hP : va_P (dC, dI) vwCl (wR cI cZ cY h qx qy qh qt qs rw th n xs ys hs (t + 1) (r_put t tb a b k) sg fl) H := by rw [e_t, e_tb]; exact hP
          have hD : va_D A (wR cI cZ cY h qx qy qh qt qs rw th n xs ys hs (t + 1) (r_put t tb a b k) sg fl) := by rw [e_t, e_tb]; exact hD
          exact wr_vret hx hb hr hlocks hP hK hD hS dX2_put_74
        · refine lv_aload_n hx hb dX2_put_33 rfl (lv_at hl 2 rfl) ?_
          refine va_get (D := (dC, dI)) (ci := 2) (v := .ref qt) (C := RX2) (T := TX2) (N := 9) hx hb hts in_X2_put_X2 hown hK hP 0 rfl rfl 6 (by decide) (hts (.fieldLink RX2 23 "MoorTrianglesModel" "told" "[I") fl_X2_put_23) (fun _ h9 => h9) rfl dX2_put_34 ?_
          refine lv_iload hx hb dX2_put_37 (lv_at hl 0 rfl) ?_
          refine lv_aload_n hx hb dX2_put_39 rfl (lv_at hl 2 rfl) ?_
          refine va_get (D := (dC, dI)) (ci := 2) (v := .ref qt) (C := RX2) (T := TX2) (N := 9) hx hb hts in_X2_put_X2 hown hK hP 0 rfl rfl 6 (by decide) (hts (.fieldLink RX2 23 "MoorTrianglesModel" "told" "[I") fl_X2_put_23) (fun _ h9 => h9) rfl dX2_put_40 ?_
          refine lv_iload hx hb dX2_put_43 (lv_at hl 0 rfl) ?_
          refine lv_iconst (v := 1) hx hb dX2_put_45 (by decide) ?_
          refine lv_isub hx hb dX2_put_46 ?_
          refine lv_cvi (nI_pred _) ?_
          refine va_iald (D := (dC, dI)) hx hb hK hP 4 0 rfl rfl (vp_in_nI (by omega) (by decide)) dX2_put_47 ?_
          refine lv_cvi (congrArg tc (nI_clamp (by omega))) ?_
          refine va_iast (D := (dC, dI)) hx hb hK hP hD hS 4 0 rfl rfl (vp_in_nI (by omega) (by decide)) dX2_put_48 (fun H locs hP hD hS => ?_)
          have hP : va_P (dC, dI) vwCl (wR cI cZ cY h qx qy qh qt qs rw th n xs ys hs t (upd tc (nI (k8 + 1)).toNatClampNeg (tc k8)) sg fl) H := hP
          have hD : va_D A (wR cI cZ cY h qx qy qh qt qs rw th n xs ys hs t (upd tc (nI (k8 + 1)).toNatClampNeg (tc k8)) sg fl) := hD
          refine lv_iinc (v := nI k8) (lv' := [(5, .int (nI k8)), (4, .int (r_code a b k)), (0, .ref h), (1, .int a), (2, .int b), (3, .int k)]) hx hb dX2_put_49 hl (k := 0) rfl (pk_m1 _) (by decide) rfl (fun ls hl => ?_)
          refine lv_goto (tgt := 14) hx hb dX2_put_52 (by decide) ?_
          have hl := lv_sub (l' := [(5, .int (nI k8)), (4, .int (r_code a b k)), (0, .ref h), (1, .int a), (2, .int b), (3, .int k)]) hl [0, 1, 2, 3, 4, 5] rfl
          have hl : lv_has ls 6 [(5, .int (nI k8)), (4, .int (r_code a b k)), (0, .ref h), (1, .int a), (2, .int b), (3, .int k)] := by
            have e9 : [(5, .int (nI k8)), (4, .int (r_code a b k)), (0, .ref h), (1, .int a), (2, .int b), (3, .int k)] = ([(5, .int (nI k8)), (4, .int (r_code a b k)), (0, .ref h), (1, .int a), (2, .int b), (3, .int k)] : List (Nat × Value)) := by rfl
            rw [← e9]; exact hl
          exact ih_2 k8 (upd tc (nI (k8 + 1)).toNatClampNeg (tc k8)) (by omega) (by omega) (by rw [← hins]; show r_ins (upd tc (nI (k8 + 1)).toNatClampNeg (tc k8)) _ k8 = (if tc k8 ≤ _ then _ else r_ins (upd tc (k8 + 1) (tc k8)) _ k8); rw [if_neg c_4, nI_clamp (by omega)]) _ hl _ _ hP hD hS
  have hl := lv_sub (l' := [(5, .int (nI t)), (4, .int (r_code a b k)), (0, .ref h), (1, .int a), (2, .int b), (3, .int k)]) hl [0, 1, 2, 3, 4, 5] rfl
  have hl : lv_has ls 6 [(5, .int (nI t)), (4, .int (r_code a b k)), (0, .ref h), (1, .int a), (2, .int b), (3, .int k)] := by
    have e9 : [(5, .int (nI t)), (4, .int (r_code a b k)), (0, .ref h), (1, .int a), (2, .int b), (3, .int k)] = ([(5, .int (nI t)), (4, .int (r_code a b k)), (0, .ref h), (1, .int a), (2, .int b), (3, .int k)] : List (Nat × Value)) := by rfl
    rw [← e9]; exact hl
  exact hL14 _ t tb (Nat.lt_succ_self _) (Nat.le_refl _) rfl _ hl _ _ hP hD hS
theorem hd_X2_takeOut : yX2_takeOut.cls = RX2 ∧ yX2_takeOut.cls ≠ "java/lang/invoke/MethodHandle" ∧ yX2_takeOut.cls ≠ "java/lang/invoke/VarHandle" ∧ (parseMethodDescriptor yX2_takeOut.desc).map (fun d => d.parameters.length) = some 1 := by decide +kernel
theorem in_X2_takeOut_X2 : ∀ w ∈ wsX20, w ∈ wsX2_takeOut := by decide +kernel
theorem fl_X2_takeOut_23 : (Cond.fieldLink RX2 23 "MoorTrianglesModel" "told" "[I") ∈ wsX2_takeOut := by decide +kernel
theorem fl_X2_takeOut_55 : (Cond.fieldLink RX2 55 "MoorTrianglesModel" "triangles" "I") ∈ wsX2_takeOut := by decide +kernel
theorem ac0_X2_takeOut : (Cond.methodLink RX2 58 arraycopyName) ∈ wsX2_takeOut := by decide +kernel
theorem ac1_X2_takeOut : (Cond.native arraycopyName) ∈ wsX2_takeOut := by decide +kernel
theorem ac2_X2_takeOut : (Cond.static arraycopyName) ∈ wsX2_takeOut := by decide +kernel
theorem ac3_X2_takeOut : (Cond.initialized "java/lang/System") ∈ wsX2_takeOut := by decide +kernel
set_option maxHeartbeats 4000000 in
set_option maxRecDepth 100000 in
theorem c_X2_takeOut (l : Launch) (dC : Nat → ClassId) (dI : Nat → Nat → Nat) (cI cZ cY : ClassId) (h qx qy qh qt qs : Nat) (rw : Nat → Nat) (th : Int32) (n : Nat) (xs ys hs : Nat → Int32) (t : Nat) (tb : Nat → Int32) (sg : Nat → Nat → Int32) (fl : Int32) (z : Int32) (sz : Nat) (u i9 : Nat) (hu : u < 36) (hi9 : i9 ≤ u) (hat : tb i9 = z) (hbef : ∀ j, j < i9 → ¬ tb j = z) : Met l yX2_takeOut wsX2_takeOut ({ frames := 1, cells := 0, slots := 0, locals := 80 }) (va_Pc [.ref h, .int z] (wrP (dC, dI) (gTY cI cZ cY) (wR cI cZ cY h qx qy qh qt qs rw th n xs ys hs (u + 1) tb sg fl) sz)) (wrQv (dC, dI) (gTY cI cZ cY) (wR cI cZ cY h qx qy qh qt qs rw th n xs ys hs u (r_take u i9 tb) sg fl) (va_A (wR cI cZ cY h qx qy qh qt qs rw th n xs ys hs (u + 1) tb sg fl) sz)) 0 0 (va_A (wR cI cZ cY h qx qy qh qt qs rw th n xs ys hs (u + 1) tb sg fl) sz) := by
  refine wr_start (cc := cX2_takeOut) (maxL := 3) (ret := none) (Q0 := wrQv (dC, dI) (gTY cI cZ cY) (wR cI cZ cY h qx qy qh qt qs rw th n xs ys hs u (r_take u i9 tb) sg fl)) RX2 (by decide) rfl rfl (Nat.le_of_ble_eq_true rfl) ?_
  intro p e s m below meth c ⟨hx, hb, hr, hml, hown, hts, hlocks, hin⟩ hP hK A hD hA hS ls hl
  have F : CallFix p m c cX2_takeOut 3 s ([.ref h, .int z] : List Value).toArray wsX2_takeOut RX2 := ⟨hx, hb, hml, hown, hts⟩
  have hl : lv_has ls 3 [(0, .ref h), (1, .int z)] := hl
  refine lv_iconst (v := 0) hx hb dX2_takeOut_0 (by decide) ?_
  refine lv_istore_n (lv' := [(2, .int 0), (0, .ref h), (1, .int z)]) hx hb dX2_takeOut_1 rfl hl (by decide) rfl (fun ls hl => ?_)
  have hL2 : ∀ (k_1 : Nat) (i : Nat), (i9 - i) < k_1 → (i ≤ i9) → ∀ ls : Array Slot, lv_has ls 3 [(2, .int (nI i)), (0, .ref h), (1, .int z)] → W p l e ({ frames := 1, cells := 0, slots := 0, locals := 80 } : Room) s m ([.ref h, .int z] : List Value).toArray below meth c s.heap [] 0 0 (MQ below (wrQv (dC, dI) (gTY cI cZ cY) (wR cI cZ cY h qx qy qh qt qs rw th n xs ys hs u (r_take u i9 tb) sg fl) A) ([.ref h, .int z] : List Value).toArray s 0 0 A) (F0 m 2 ls []) := by
    intro k_1
    induction k_1 with
    | zero => intro i hk; exact absurd hk (Nat.not_lt_zero _)
    | succ k_1 ih_2 =>
      intro i hk_2 hi_i ls hl
      refine lv_aload_n hx hb dX2_takeOut_2 rfl (lv_at hl 1 rfl) ?_
      refine va_get (D := (dC, dI)) (ci := 2) (v := .ref qt) (C := RX2) (T := TX2) (N := 9) hx hb hts in_X2_takeOut_X2 hown hK hP 0 rfl rfl 6 (by decide) (hts (.fieldLink RX2 23 "MoorTrianglesModel" "told" "[I") fl_X2_takeOut_23) (fun _ h9 => h9) rfl dX2_takeOut_3 ?_
      refine lv_iload_n hx hb dX2_takeOut_6 rfl (lv_at hl 0 rfl) ?_
      refine va_iald (D := (dC, dI)) hx hb hK hP 4 0 rfl rfl (vp_in_nI (by omega) (by decide)) dX2_takeOut_7 ?_
      refine lv_cvi (congrArg tb (nI_clamp (by omega))) ?_
      refine lv_iload_n hx hb dX2_takeOut_8 rfl (lv_at hl 2 rfl) ?_
      refine lv_icmp_eq (tgt := 18) hx hb dX2_takeOut_9 (by decide) (fun c_3 => ?_) (fun c_3 => ?_)
      · have heq : i9 = i := by
          rcases Nat.lt_or_ge i i9 with q | q
          · exact absurd c_3 (hbef i q)
          · omega
        subst heq
        refine lv_aload_n hx hb dX2_takeOut_18 rfl (lv_at hl 1 rfl) ?_
        refine lv_dup hx hb dX2_takeOut_19 rfl ?_
        refine va_get (D := (dC, dI)) (ci := 2) (v := .int (nI (u + 1))) (C := RX2) (T := TX2) (N := 9) hx hb hts in_X2_takeOut_X2 hown hK hP 0 rfl rfl 5 (by decide) (hts (.fieldLink RX2 55 "MoorTrianglesModel" "triangles" "I") fl_X2_takeOut_55) (fun _ h9 => h9) rfl dX2_takeOut_20 ?_
        refine lv_iconst (v := 1) hx hb dX2_takeOut_23 (by decide) ?_
        refine lv_isub hx hb dX2_takeOut_24 ?_
        refine lv_cvi (nI_pred _) ?_
        refine va_put (D := (dC, dI)) (ci := 2) (v := .int (nI u)) (ty := .int) (C := RX2) (T := TX2) (N := 9) hx hb hts in_X2_takeOut_X2 tyX2 tyX2_ok nmX2 hown hK hP hD hS 0 rfl rfl 5 (by decide) (hts (.fieldLink RX2 55 "MoorTrianglesModel" "triangles" "I") fl_X2_takeOut_55) (fun _ h9 => h9) rfl (by decide +kernel) rfl rfl (Nat.le_of_ble_eq_true rfl) dX2_takeOut_25 (fun H locs hP hD hS => ?_)
        have hP : va_P (dC, dI) vwCl (wR cI cZ cY h qx qy qh qt qs rw th n xs ys hs u tb sg fl) H := hP
        have hD : va_D A (wR cI cZ cY h qx qy qh qt qs rw th n xs ys hs u tb sg fl) := hD
        refine lv_aload_n hx hb dX2_takeOut_28 rfl (lv_at hl 1 rfl) ?_
        refine va_get (D := (dC, dI)) (ci := 2) (v := .ref qt) (C := RX2) (T := TX2) (N := 9) hx hb hts in_X2_takeOut_X2 hown hK hP 0 rfl rfl 6 (by decide) (hts (.fieldLink RX2 23 "MoorTrianglesModel" "told" "[I") fl_X2_takeOut_23) (fun _ h9 => h9) rfl dX2_takeOut_29 ?_
        refine lv_iload_n hx hb dX2_takeOut_32 rfl (lv_at hl 0 rfl) ?_
        refine lv_iconst (v := 1) hx hb dX2_takeOut_33 (by decide) ?_
        refine lv_iadd hx hb dX2_takeOut_34 ?_
        refine lv_cvi (nI_1 _) ?_
        refine lv_aload_n hx hb dX2_takeOut_35 rfl (lv_at hl 1 rfl) ?_
        refine va_get (D := (dC, dI)) (ci := 2) (v := .ref qt) (C := RX2) (T := TX2) (N := 9) hx hb hts in_X2_takeOut_X2 hown hK hP 0 rfl rfl 6 (by decide) (hts (.fieldLink RX2 23 "MoorTrianglesModel" "told" "[I") fl_X2_takeOut_23) (fun _ h9 => h9) rfl dX2_takeOut_36 ?_
        refine lv_iload_n hx hb dX2_takeOut_39 rfl (lv_at hl 0 rfl) ?_
        refine lv_aload_n hx hb dX2_takeOut_40 rfl (lv_at hl 1 rfl) ?_
        refine va_get (D := (dC, dI)) (ci := 2) (v := .int (nI u)) (C := RX2) (T := TX2) (N := 9) hx hb hts in_X2_takeOut_X2 hown hK hP 0 rfl rfl 5 (by decide) (hts (.fieldLink RX2 55 "MoorTrianglesModel" "triangles" "I") fl_X2_takeOut_55) (fun _ h9 => h9) rfl dX2_takeOut_41 ?_
        refine lv_iload_n hx hb dX2_takeOut_44 rfl (lv_at hl 0 rfl) ?_
        refine lv_isub hx hb dX2_takeOut_45 ?_
        refine lv_cvi (pk_sub (by omega)) ?_
        refine va_copyi hx hb (hml.trans hl.1.symm) hown (hts _ ac0_X2_takeOut) (hts _ ac1_X2_takeOut) (hts _ ac2_X2_takeOut) (hts _ ac3_X2_takeOut) hK hP hD hS 4 4 0 0 rfl rfl rfl rfl rfl (nI_pos (by omega)) (nI_pos (by omega)) (nI_pos (by omega)) (by rw [nI_clamp (by omega), nI_clamp (by omega)]; omega) (by rw [nI_clamp (by omega), nI_clamp (by omega)]; omega) (fun _ _ => rfl) (Nat.le_of_ble_eq_true rfl) (Nat.le_of_ble_eq_true rfl) dX2_takeOut_46 (fun H locs hP hD hS => ?_)
        have hP : va_P (dC, dI) vwCl (wR cI cZ cY h qx qy qh qt qs rw th n xs ys hs u (va_cpy tb tb (nI (i9 + 1)).toNatClampNeg (nI i9).toNatClampNeg (nI (u - i9)).toNatClampNeg) sg fl) H := hP
        have hD : va_D A (wR cI cZ cY h qx qy qh qt qs rw th n xs ys hs u (va_cpy tb tb (nI (i9 + 1)).toNatClampNeg (nI i9).toNatClampNeg (nI (u - i9)).toNatClampNeg) sg fl) := hD
        have e_tb : (r_take u i9 tb : Nat → Int32) = (va_cpy tb tb (nI (i9 + 1)).toNatClampNeg (nI i9).toNatClampNeg (nI (u - i9)).toNatClampNeg) := by rw [nI_clamp (by omega), nI_clamp (by omega), nI_clamp (by omega)]; rfl
        have hP : va_P (dC, dI) vwCl (wR cI cZ cY h qx qy qh qt qs rw th n xs ys hs u (r_take u i9 tb) sg fl) H := by rw [e_tb]; exact hP
        have hD : va_D A (wR cI cZ cY h qx qy qh qt qs rw th n xs ys hs u (r_take u i9 tb) sg fl) := by rw [e_tb]; exact hD
        exact wr_vret hx hb hr hlocks hP hK hD hS dX2_takeOut_49
      · have hlt : i < i9 := by
          rcases Nat.lt_or_ge i i9 with q | q
          · exact q
          · have e : i = i9 := by omega
            subst e
            exact absurd hat c_3
        refine lv_iinc (v := nI (i + 1)) (lv' := [(2, .int (nI (i + 1))), (0, .ref h), (1, .int z)]) hx hb dX2_takeOut_12 hl (k := 0) rfl (nI_1 _) (by decide) rfl (fun ls hl => ?_)
        refine lv_goto (tgt := 2) hx hb dX2_takeOut_15 (by decide) ?_
        have hl := lv_sub (l' := [(2, .int (nI (i + 1))), (0, .ref h), (1, .int z)]) hl [0, 1, 2] rfl
        have hl : lv_has ls 3 [(2, .int (nI (i + 1))), (0, .ref h), (1, .int z)] := by
          have e9 : [(2, .int (nI (i + 1))), (0, .ref h), (1, .int z)] = ([(2, .int (nI (i + 1))), (0, .ref h), (1, .int z)] : List (Nat × Value)) := by rfl
          rw [← e9]; exact hl
        exact ih_2 (i + 1) (by omega) (by omega) _ hl
  have hl := lv_sub (l' := [(2, .int 0), (0, .ref h), (1, .int z)]) hl [0, 1, 2] rfl
  have hl : lv_has ls 3 [(2, .int (nI 0)), (0, .ref h), (1, .int z)] := by
    have e9 : [(2, .int 0), (0, .ref h), (1, .int z)] = ([(2, .int (nI 0)), (0, .ref h), (1, .int z)] : List (Nat × Value)) := by rfl
    rw [← e9]; exact hl
  exact hL2 _ 0 (Nat.lt_succ_self _) (Nat.zero_le _) _ hl
theorem hd_X2_flipped : yX2_flipped.cls = RX2 ∧ yX2_flipped.cls ≠ "java/lang/invoke/MethodHandle" ∧ yX2_flipped.cls ≠ "java/lang/invoke/VarHandle" ∧ (parseMethodDescriptor yX2_flipped.desc).map (fun d => d.parameters.length) = some 2 := by decide +kernel
