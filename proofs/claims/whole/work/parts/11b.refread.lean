theorem in_X2_sides_X2 : ∀ w ∈ wsX20, w ∈ wsX2_sides := by decide +kernel
theorem fl_X2_sides_55 : (Cond.fieldLink RX2 55 "MoorTrianglesModel" "triangles" "I") ∈ wsX2_sides := by decide +kernel
set_option maxHeartbeats 4000000 in
set_option maxRecDepth 100000 in
theorem c_X2_sides (l : Launch) (dC : Nat → ClassId) (dI : Nat → Nat → Nat) (cI cZ cY : ClassId) (h qx qy qh qt qs : Nat) (rw : Nat → Nat) (th : Int32) (n : Nat) (xs ys hs : Nat → Int32) (t : Nat) (tb : Nat → Int32) (sg : Nat → Nat → Int32) (fl : Int32) (a : Int32) (b : Int32) (ht : t ≤ 36) : Met l yX2_sides wsX2_sides ({ frames := 3, cells := 0, slots := 0, locals := 67 }) (va_Pc [.ref h, .int a, .int b] (fun U => va_P (dC, dI) vwCl (wR cI cZ cY h qx qy qh qt qs rw th n xs ys hs t tb sg fl) U.heap ∧ va_K (dC, dI) vwCl (gTY cI cZ cY) U)) (vp_Si (fun r => r = r_sides t tb a b)) 0 0 (fun _ => False) := by
  refine rd_start (cc := cX2_sides) (maxL := 5) (ret := (some .int)) RX2 (by decide) rfl rfl (Nat.le_of_ble_eq_true rfl) ?_
  intro p e s m below meth c ⟨hx, hb, hr, hml, hown, hts, hlocks⟩ hP hK ls hl
  have F : CallFix p m c cX2_sides 5 s ([.ref h, .int a, .int b] : List Value).toArray wsX2_sides RX2 := ⟨hx, hb, hml, hown, hts⟩
  have hl : lv_has ls 5 [(0, .ref h), (1, .int a), (2, .int b)] := hl
  refine lv_iconst (v := 0) hx hb dX2_sides_0 (by decide) ?_
  refine lv_istore_n (lv' := [(3, .int 0), (0, .ref h), (1, .int a), (2, .int b)]) hx hb dX2_sides_1 rfl hl (by decide) rfl (fun ls hl => ?_)
  refine lv_iconst (v := 0) hx hb dX2_sides_2 (by decide) ?_
  refine lv_istore (lv' := [(4, .int 0), (3, .int 0), (0, .ref h), (1, .int a), (2, .int b)]) hx hb dX2_sides_3 hl (by decide) rfl (fun ls hl => ?_)
  have hL5 : ∀ (k_1 : Nat) (i : Nat), (t - i) < k_1 → (i ≤ t) → ∀ ls : Array Slot, lv_has ls 5 [(4, .int (nI i)), (3, .int (nI (rg_ct (r_pS tb a b) i))), (0, .ref h), (1, .int a), (2, .int b)] → W p l e ({ frames := 3, cells := 0, slots := 0, locals := 67 } : Room) s m ([.ref h, .int a, .int b] : List Value).toArray below meth c s.heap [] 0 0 (MQ below (vp_Si (fun r => r = r_sides t tb a b)) ([.ref h, .int a, .int b] : List Value).toArray s 0 0 (fun _ => False)) (F0 m 5 ls []) := by
    intro k_1
    induction k_1 with
    | zero => intro i hk; exact absurd hk (Nat.not_lt_zero _)
    | succ k_1 ih_2 =>
      intro i hk_5 hi_i ls hl
      refine lv_iload hx hb dX2_sides_5 (lv_at hl 0 rfl) ?_
      refine lv_aload_n hx hb dX2_sides_7 rfl (lv_at hl 2 rfl) ?_
      refine va_get (D := (dC, dI)) (ci := 2) (v := .int (nI t)) (C := RX2) (T := TX2) (N := 9) hx hb hts in_X2_sides_X2 hown hK hP 0 rfl rfl 5 (by decide) (hts (.fieldLink RX2 55 "MoorTrianglesModel" "triangles" "I") fl_X2_sides_55) (fun _ h9 => h9) rfl dX2_sides_8 ?_
      refine lv_icmp_ge (tgt := 40) hx hb dX2_sides_11 (by decide) (fun c_3 => ?_) (fun c_3 => ?_)
      · have hge_i : t ≤ i := nI_le_le (by omega) (by omega) c_3
        have heq_i : i = t := by omega
        have hl : lv_has ls 5 [(4, .int (nI t)), (3, .int (nI (rg_ct (r_pS tb a b) t))), (0, .ref h), (1, .int a), (2, .int b)] := by rw [heq_i] at hl; exact hl
        refine lv_iload_n hx hb dX2_sides_40 rfl (lv_at hl 1 rfl) ?_
        exact rd_iret hx hb hr hlocks (by rfl) dX2_sides_41
      · have hlt_i : i < t := nI_nle_lt (by omega) (by omega) c_3
        refine lv_iload_n hx hb dX2_sides_14 rfl (lv_at hl 1 rfl) ?_
        refine lv_aload_n hx hb dX2_sides_15 rfl (lv_at hl 2 rfl) ?_
        refine lv_iload hx hb dX2_sides_16 (lv_at hl 0 rfl) ?_
        refine lv_iload_n hx hb dX2_sides_18 rfl (lv_at hl 3 rfl) ?_
        refine lv_iload_n hx hb dX2_sides_19 rfl (lv_at hl 4 rfl) ?_
        refine rd_cVi (As := [.int (nI i), .int a, .int b]) (rest := [.int (nI (rg_ct (r_pS tb a b) i))]) F (c_X2_far l dC dI cI cZ cY h qx qy qh qt qs rw th n xs ys hs t tb sg fl (nI i) a b (vp_in_nI (by omega) (by decide))) (cwV 3 hts gX2_sides_X2_far rfl rfl rfl hd_X2_far ⟨Nat.le_of_ble_eq_true rfl, Nat.le_of_ble_eq_true rfl⟩) hP hK (va_recv hK hP (ci := 2) (q0 := 0) rfl rfl) rfl hl.1 rfl (lv_room (Nat.le_of_ble_eq_true rfl)) dX2_sides_20 ⟨Nat.zero_le _, Nat.zero_le _⟩ ?_
        refine lv_iconst (v := (-1)) hx hb dX2_sides_23 (by decide) ?_
        refine lv_icmp_ne (tgt := 31) hx hb dX2_sides_24 (by decide) (fun c_4 => ?_) (fun c_4 => ?_)
        · refine lv_iconst (v := 1) hx hb dX2_sides_31 (by decide) ?_
          refine lv_iadd hx hb dX2_sides_32 ?_
          refine lv_cvi (nI_1 _) ?_
          refine lv_istore_n (lv' := [(3, .int (nI ((rg_ct (r_pS tb a b) i) + 1))), (4, .int (nI i)), (0, .ref h), (1, .int a), (2, .int b)]) hx hb dX2_sides_33 rfl hl (by decide) rfl (fun ls hl => ?_)
          refine lv_iinc (v := nI (i + 1)) (lv' := [(4, .int (nI (i + 1))), (3, .int (nI ((rg_ct (r_pS tb a b) i) + 1))), (0, .ref h), (1, .int a), (2, .int b)]) hx hb dX2_sides_34 hl (k := 1) rfl (nI_1 _) (by decide) rfl (fun ls hl => ?_)
          refine lv_goto (tgt := 5) hx hb dX2_sides_37 (by decide) ?_
          have hl := lv_sub (l' := [(4, .int (nI (i + 1))), (3, .int (nI ((rg_ct (r_pS tb a b) i) + 1))), (0, .ref h), (1, .int a), (2, .int b)]) hl [0, 1, 2, 3, 4] rfl
          have hl : lv_has ls 5 [(4, .int (nI (i + 1))), (3, .int (nI (rg_ct (r_pS tb a b) (i + 1)))), (0, .ref h), (1, .int a), (2, .int b)] := by
            have e9 : [(4, .int (nI (i + 1))), (3, .int (nI ((rg_ct (r_pS tb a b) i) + 1))), (0, .ref h), (1, .int a), (2, .int b)] = ([(4, .int (nI (i + 1))), (3, .int (nI (rg_ct (r_pS tb a b) (i + 1)))), (0, .ref h), (1, .int a), (2, .int b)] : List (Nat × Value)) := by rw [rg_ct_t (show r_pS tb a b i = true from by simp only [r_pS, c_4]; rfl)]
            rw [← e9]; exact hl
          exact ih_2 (i + 1) (by omega) (by omega) _ hl
        · refine lv_iconst (v := 0) hx hb dX2_sides_27 (by decide) ?_
          refine lv_goto (tgt := 32) hx hb dX2_sides_28 (by decide) ?_
          refine lv_iadd hx hb dX2_sides_32 ?_
          refine lv_cvi (Int32.add_zero _) ?_
          refine lv_istore_n (lv' := [(3, .int (nI (rg_ct (r_pS tb a b) i))), (4, .int (nI i)), (0, .ref h), (1, .int a), (2, .int b)]) hx hb dX2_sides_33 rfl hl (by decide) rfl (fun ls hl => ?_)
          refine lv_iinc (v := nI (i + 1)) (lv' := [(4, .int (nI (i + 1))), (3, .int (nI (rg_ct (r_pS tb a b) i))), (0, .ref h), (1, .int a), (2, .int b)]) hx hb dX2_sides_34 hl (k := 1) rfl (nI_1 _) (by decide) rfl (fun ls hl => ?_)
          refine lv_goto (tgt := 5) hx hb dX2_sides_37 (by decide) ?_
          have hl := lv_sub (l' := [(4, .int (nI (i + 1))), (3, .int (nI (rg_ct (r_pS tb a b) i))), (0, .ref h), (1, .int a), (2, .int b)]) hl [0, 1, 2, 3, 4] rfl
          have hl : lv_has ls 5 [(4, .int (nI (i + 1))), (3, .int (nI (rg_ct (r_pS tb a b) (i + 1)))), (0, .ref h), (1, .int a), (2, .int b)] := by
            have e9 : [(4, .int (nI (i + 1))), (3, .int (nI (rg_ct (r_pS tb a b) i))), (0, .ref h), (1, .int a), (2, .int b)] = ([(4, .int (nI (i + 1))), (3, .int (nI (rg_ct (r_pS tb a b) (i + 1)))), (0, .ref h), (1, .int a), (2, .int b)] : List (Nat × Value)) := by rw [rg_ct_f (show r_pS tb a b i = false from by simp only [r_pS, c_4]; rfl)]
            rw [← e9]; exact hl
          exact ih_2 (i + 1) (by omega) (by omega) _ hl
  have hl := lv_sub (l' := [(4, .int 0), (3, .int 0), (0, .ref h), (1, .int a), (2, .int b)]) hl [0, 1, 2, 3, 4] rfl
  have hl : lv_has ls 5 [(4, .int (nI 0)), (3, .int (nI (rg_ct (r_pS tb a b) 0))), (0, .ref h), (1, .int a), (2, .int b)] := by
    have e9 : [(4, .int 0), (3, .int 0), (0, .ref h), (1, .int a), (2, .int b)] = ([(4, .int (nI 0)), (3, .int (nI (rg_ct (r_pS tb a b) 0))), (0, .ref h), (1, .int a), (2, .int b)] : List (Nat × Value)) := by rfl
    rw [← e9]; exact hl
  exact hL5 _ 0 (Nat.lt_succ_self _) (by omega) _ hl
theorem hd_X2_far_ : yX2_far_.cls = RX2 ∧ yX2_far_.cls ≠ "java/lang/invoke/MethodHandle" ∧ yX2_far_.cls ≠ "java/lang/invoke/VarHandle" ∧ (parseMethodDescriptor yX2_far_.desc).map (fun d => d.parameters.length) = some 3 := by decide +kernel
theorem in_X2_far__X2 : ∀ w ∈ wsX20, w ∈ wsX2_far_ := by decide +kernel
theorem fl_X2_far__55 : (Cond.fieldLink RX2 55 "MoorTrianglesModel" "triangles" "I") ∈ wsX2_far_ := by decide +kernel
set_option maxHeartbeats 4000000 in
set_option maxRecDepth 100000 in
theorem c_X2_far_ (l : Launch) (dC : Nat → ClassId) (dI : Nat → Nat → Nat) (cI cZ cY : ClassId) (h qx qy qh qt qs : Nat) (rw : Nat → Nat) (th : Int32) (n : Nat) (xs ys hs : Nat → Int32) (t : Nat) (tb : Nat → Int32) (sg : Nat → Nat → Int32) (fl : Int32) (a : Int32) (b : Int32) (z : Int32) (ht : t ≤ 36) : Met l yX2_far_ wsX2_far_ ({ frames := 3, cells := 0, slots := 0, locals := 67 }) (va_Pc [.ref h, .int a, .int b, .int z] (fun U => va_P (dC, dI) vwCl (wR cI cZ cY h qx qy qh qt qs rw th n xs ys hs t tb sg fl) U.heap ∧ va_K (dC, dI) vwCl (gTY cI cZ cY) U)) (vp_Si (fun r => r = r_fr tb a b z t)) 0 0 (fun _ => False) := by
  refine rd_start (cc := cX2_far_) (maxL := 6) (ret := (some .int)) RX2 (by decide) rfl rfl (Nat.le_of_ble_eq_true rfl) ?_
  intro p e s m below meth c ⟨hx, hb, hr, hml, hown, hts, hlocks⟩ hP hK ls hl
  have F : CallFix p m c cX2_far_ 6 s ([.ref h, .int a, .int b, .int z] : List Value).toArray wsX2_far_ RX2 := ⟨hx, hb, hml, hown, hts⟩
  have hl : lv_has ls 6 [(0, .ref h), (1, .int a), (2, .int b), (3, .int z)] := hl
  refine lv_iconst (v := (-1)) hx hb dX2_far__0 (by decide) ?_
  refine lv_istore (lv' := [(4, .int (-1)), (0, .ref h), (1, .int a), (2, .int b), (3, .int z)]) hx hb dX2_far__1 hl (by decide) rfl (fun ls hl => ?_)
  refine lv_iconst (v := 0) hx hb dX2_far__3 (by decide) ?_
  refine lv_istore (lv' := [(5, .int 0), (4, .int (-1)), (0, .ref h), (1, .int a), (2, .int b), (3, .int z)]) hx hb dX2_far__4 hl (by decide) rfl (fun ls hl => ?_)
  have hL6 : ∀ (k_1 : Nat) (i : Nat), (t - i) < k_1 → (i ≤ t) → ∀ ls : Array Slot, lv_has ls 6 [(5, .int (nI i)), (4, .int (r_fr tb a b z i)), (0, .ref h), (1, .int a), (2, .int b), (3, .int z)] → W p l e ({ frames := 3, cells := 0, slots := 0, locals := 67 } : Room) s m ([.ref h, .int a, .int b, .int z] : List Value).toArray below meth c s.heap [] 0 0 (MQ below (vp_Si (fun r => r = r_fr tb a b z t)) ([.ref h, .int a, .int b, .int z] : List Value).toArray s 0 0 (fun _ => False)) (F0 m 6 ls []) := by
    intro k_1
    induction k_1 with
    | zero => intro i hk; exact absurd hk (Nat.not_lt_zero _)
    | succ k_1 ih_2 =>
      intro i hk_6 hi_i ls hl
      refine lv_iload hx hb dX2_far__6 (lv_at hl 0 rfl) ?_
      refine lv_aload_n hx hb dX2_far__8 rfl (lv_at hl 2 rfl) ?_
      refine va_get (D := (dC, dI)) (ci := 2) (v := .int (nI t)) (C := RX2) (T := TX2) (N := 9) hx hb hts in_X2_far__X2 hown hK hP 0 rfl rfl 5 (by decide) (hts (.fieldLink RX2 55 "MoorTrianglesModel" "triangles" "I") fl_X2_far__55) (fun _ h9 => h9) rfl dX2_far__9 ?_
      refine lv_icmp_ge (tgt := 53) hx hb dX2_far__12 (by decide) (fun c_3 => ?_) (fun c_3 => ?_)
      · have hge_i : t ≤ i := nI_le_le (by omega) (by omega) c_3
        have heq_i : i = t := by omega
        have hl : lv_has ls 6 [(5, .int (nI t)), (4, .int (r_fr tb a b z t)), (0, .ref h), (1, .int a), (2, .int b), (3, .int z)] := by rw [heq_i] at hl; exact hl
        refine lv_iload hx hb dX2_far__53 (lv_at hl 1 rfl) ?_
        exact rd_iret hx hb hr hlocks (by rfl) dX2_far__55
      · have hlt_i : i < t := nI_nle_lt (by omega) (by omega) c_3
        refine lv_aload_n hx hb dX2_far__15 rfl (lv_at hl 2 rfl) ?_
        refine lv_iload hx hb dX2_far__16 (lv_at hl 0 rfl) ?_
        refine lv_iload_n hx hb dX2_far__18 rfl (lv_at hl 3 rfl) ?_
        refine lv_iload_n hx hb dX2_far__19 rfl (lv_at hl 4 rfl) ?_
        refine rd_cVi (As := [.int (nI i), .int a, .int b]) (rest := []) F (c_X2_far l dC dI cI cZ cY h qx qy qh qt qs rw th n xs ys hs t tb sg fl (nI i) a b (vp_in_nI (by omega) (by decide))) (cwV 3 hts gX2_far__X2_far rfl rfl rfl hd_X2_far ⟨Nat.le_of_ble_eq_true rfl, Nat.le_of_ble_eq_true rfl⟩) hP hK (va_recv hK hP (ci := 2) (q0 := 0) rfl rfl) rfl hl.1 rfl (lv_room (Nat.le_of_ble_eq_true rfl)) dX2_far__20 ⟨Nat.zero_le _, Nat.zero_le _⟩ ?_
        refine lv_iconst (v := (-1)) hx hb dX2_far__23 (by decide) ?_
        refine lv_icmp_eq (tgt := 47) hx hb dX2_far__24 (by decide) (fun c_4 => ?_) (fun c_4 => ?_)
        · refine lv_iinc (v := nI (i + 1)) (lv' := [(5, .int (nI (i + 1))), (4, .int (r_fr tb a b z i)), (0, .ref h), (1, .int a), (2, .int b), (3, .int z)]) hx hb dX2_far__47 hl (k := 0) rfl (nI_1 _) (by decide) rfl (fun ls hl => ?_)
          refine lv_goto (tgt := 6) hx hb dX2_far__50 (by decide) ?_
          have hl := lv_sub (l' := [(5, .int (nI (i + 1))), (4, .int (r_fr tb a b z i)), (0, .ref h), (1, .int a), (2, .int b), (3, .int z)]) hl [0, 1, 2, 3, 4, 5] rfl
          have hl : lv_has ls 6 [(5, .int (nI (i + 1))), (4, .int (r_fr tb a b z (i + 1))), (0, .ref h), (1, .int a), (2, .int b), (3, .int z)] := by
            have e9 : [(5, .int (nI (i + 1))), (4, .int (r_fr tb a b z i)), (0, .ref h), (1, .int a), (2, .int b), (3, .int z)] = ([(5, .int (nI (i + 1))), (4, .int (r_fr tb a b z (i + 1))), (0, .ref h), (1, .int a), (2, .int b), (3, .int z)] : List (Nat × Value)) := by rw [r_fr, if_pos c_4]
            rw [← e9]; exact hl
          exact ih_2 (i + 1) (by omega) (by omega) _ hl
        · refine lv_iload_n hx hb dX2_far__27 rfl (lv_at hl 5 rfl) ?_
          refine lv_if_eq (tgt := 37) hx hb dX2_far__28 (by decide) (fun c_5 => ?_) (fun c_5 => ?_)
          · refine lv_aload_n hx hb dX2_far__37 rfl (lv_at hl 2 rfl) ?_
            refine lv_iload hx hb dX2_far__38 (lv_at hl 0 rfl) ?_
            refine lv_iload_n hx hb dX2_far__40 rfl (lv_at hl 3 rfl) ?_
            refine lv_iload_n hx hb dX2_far__41 rfl (lv_at hl 4 rfl) ?_
            refine rd_cVi (As := [.int (nI i), .int a, .int b]) (rest := []) F (c_X2_far l dC dI cI cZ cY h qx qy qh qt qs rw th n xs ys hs t tb sg fl (nI i) a b (vp_in_nI (by omega) (by decide))) (cwV 3 hts gX2_far__X2_far rfl rfl rfl hd_X2_far ⟨Nat.le_of_ble_eq_true rfl, Nat.le_of_ble_eq_true rfl⟩) hP hK (va_recv hK hP (ci := 2) (q0 := 0) rfl rfl) rfl hl.1 rfl (lv_room (Nat.le_of_ble_eq_true rfl)) dX2_far__42 ⟨Nat.zero_le _, Nat.zero_le _⟩ ?_
            refine lv_istore (lv' := [(4, .int (r_far tb (nI i) a b)), (5, .int (nI i)), (0, .ref h), (1, .int a), (2, .int b), (3, .int z)]) hx hb dX2_far__45 hl (by decide) rfl (fun ls hl => ?_)
            refine lv_iinc (v := nI (i + 1)) (lv' := [(5, .int (nI (i + 1))), (4, .int (r_far tb (nI i) a b)), (0, .ref h), (1, .int a), (2, .int b), (3, .int z)]) hx hb dX2_far__47 hl (k := 1) rfl (nI_1 _) (by decide) rfl (fun ls hl => ?_)
            refine lv_goto (tgt := 6) hx hb dX2_far__50 (by decide) ?_
            have hl := lv_sub (l' := [(5, .int (nI (i + 1))), (4, .int (r_far tb (nI i) a b)), (0, .ref h), (1, .int a), (2, .int b), (3, .int z)]) hl [0, 1, 2, 3, 4, 5] rfl
            have hl : lv_has ls 6 [(5, .int (nI (i + 1))), (4, .int (r_fr tb a b z (i + 1))), (0, .ref h), (1, .int a), (2, .int b), (3, .int z)] := by
              have e9 : [(5, .int (nI (i + 1))), (4, .int (r_far tb (nI i) a b)), (0, .ref h), (1, .int a), (2, .int b), (3, .int z)] = ([(5, .int (nI (i + 1))), (4, .int (r_fr tb a b z (i + 1))), (0, .ref h), (1, .int a), (2, .int b), (3, .int z)] : List (Nat × Value)) := by rw [r_fr, if_neg c_4, if_pos c_5]
              rw [← e9]; exact hl
            exact ih_2 (i + 1) (by omega) (by omega) _ hl
          · refine lv_iload hx hb dX2_far__31 (lv_at hl 1 rfl) ?_
            refine lv_iconst (v := (-1)) hx hb dX2_far__33 (by decide) ?_
            refine lv_icmp_ne (tgt := 47) hx hb dX2_far__34 (by decide) (fun c_6 => ?_) (fun c_6 => ?_)
            · refine lv_iinc (v := nI (i + 1)) (lv' := [(5, .int (nI (i + 1))), (4, .int (r_fr tb a b z i)), (0, .ref h), (1, .int a), (2, .int b), (3, .int z)]) hx hb dX2_far__47 hl (k := 0) rfl (nI_1 _) (by decide) rfl (fun ls hl => ?_)
              refine lv_goto (tgt := 6) hx hb dX2_far__50 (by decide) ?_
              have hl := lv_sub (l' := [(5, .int (nI (i + 1))), (4, .int (r_fr tb a b z i)), (0, .ref h), (1, .int a), (2, .int b), (3, .int z)]) hl [0, 1, 2, 3, 4, 5] rfl
              have hl : lv_has ls 6 [(5, .int (nI (i + 1))), (4, .int (r_fr tb a b z (i + 1))), (0, .ref h), (1, .int a), (2, .int b), (3, .int z)] := by
                have e9 : [(5, .int (nI (i + 1))), (4, .int (r_fr tb a b z i)), (0, .ref h), (1, .int a), (2, .int b), (3, .int z)] = ([(5, .int (nI (i + 1))), (4, .int (r_fr tb a b z (i + 1))), (0, .ref h), (1, .int a), (2, .int b), (3, .int z)] : List (Nat × Value)) := by rw [r_fr, if_neg c_4, if_neg c_5, if_neg c_6]
                rw [← e9]; exact hl
              exact ih_2 (i + 1) (by omega) (by omega) _ hl
            · refine lv_aload_n hx hb dX2_far__37 rfl (lv_at hl 2 rfl) ?_
              refine lv_iload hx hb dX2_far__38 (lv_at hl 0 rfl) ?_
              refine lv_iload_n hx hb dX2_far__40 rfl (lv_at hl 3 rfl) ?_
              refine lv_iload_n hx hb dX2_far__41 rfl (lv_at hl 4 rfl) ?_
              refine rd_cVi (As := [.int (nI i), .int a, .int b]) (rest := []) F (c_X2_far l dC dI cI cZ cY h qx qy qh qt qs rw th n xs ys hs t tb sg fl (nI i) a b (vp_in_nI (by omega) (by decide))) (cwV 3 hts gX2_far__X2_far rfl rfl rfl hd_X2_far ⟨Nat.le_of_ble_eq_true rfl, Nat.le_of_ble_eq_true rfl⟩) hP hK (va_recv hK hP (ci := 2) (q0 := 0) rfl rfl) rfl hl.1 rfl (lv_room (Nat.le_of_ble_eq_true rfl)) dX2_far__42 ⟨Nat.zero_le _, Nat.zero_le _⟩ ?_
              refine lv_istore (lv' := [(4, .int (r_far tb (nI i) a b)), (5, .int (nI i)), (0, .ref h), (1, .int a), (2, .int b), (3, .int z)]) hx hb dX2_far__45 hl (by decide) rfl (fun ls hl => ?_)
              refine lv_iinc (v := nI (i + 1)) (lv' := [(5, .int (nI (i + 1))), (4, .int (r_far tb (nI i) a b)), (0, .ref h), (1, .int a), (2, .int b), (3, .int z)]) hx hb dX2_far__47 hl (k := 1) rfl (nI_1 _) (by decide) rfl (fun ls hl => ?_)
              refine lv_goto (tgt := 6) hx hb dX2_far__50 (by decide) ?_
              have hl := lv_sub (l' := [(5, .int (nI (i + 1))), (4, .int (r_far tb (nI i) a b)), (0, .ref h), (1, .int a), (2, .int b), (3, .int z)]) hl [0, 1, 2, 3, 4, 5] rfl
              have hl : lv_has ls 6 [(5, .int (nI (i + 1))), (4, .int (r_fr tb a b z (i + 1))), (0, .ref h), (1, .int a), (2, .int b), (3, .int z)] := by
                have e9 : [(5, .int (nI (i + 1))), (4, .int (r_far tb (nI i) a b)), (0, .ref h), (1, .int a), (2, .int b), (3, .int z)] = ([(5, .int (nI (i + 1))), (4, .int (r_fr tb a b z (i + 1))), (0, .ref h), (1, .int a), (2, .int b), (3, .int z)] : List (Nat × Value)) := by rw [r_fr, if_neg c_4, if_neg c_5, if_pos c_6]
                rw [← e9]; exact hl
              exact ih_2 (i + 1) (by omega) (by omega) _ hl
  have hl := lv_sub (l' := [(5, .int 0), (4, .int (-1)), (0, .ref h), (1, .int a), (2, .int b), (3, .int z)]) hl [0, 1, 2, 3, 4, 5] rfl
  have hl : lv_has ls 6 [(5, .int (nI 0)), (4, .int (r_fr tb a b z 0)), (0, .ref h), (1, .int a), (2, .int b), (3, .int z)] := by
    have e9 : [(5, .int 0), (4, .int (-1)), (0, .ref h), (1, .int a), (2, .int b), (3, .int z)] = ([(5, .int (nI 0)), (4, .int (r_fr tb a b z 0)), (0, .ref h), (1, .int a), (2, .int b), (3, .int z)] : List (Nat × Value)) := by rfl
    rw [← e9]; exact hl
  exact hL6 _ 0 (Nat.lt_succ_self _) (by omega) _ hl
theorem hd_X2_isWithin : yX2_isWithin.cls = RX2 ∧ yX2_isWithin.cls ≠ "java/lang/invoke/MethodHandle" ∧ yX2_isWithin.cls ≠ "java/lang/invoke/VarHandle" ∧ (parseMethodDescriptor yX2_isWithin.desc).map (fun d => d.parameters.length) = some 5 := by decide +kernel
theorem in_X2_isWithin_X2 : ∀ w ∈ wsX20, w ∈ wsX2_isWithin := by decide +kernel
theorem fl_X2_isWithin_13 : (Cond.fieldLink RX2 13 "MoorTrianglesModel" "xs" "[I") ∈ wsX2_isWithin := by decide +kernel
theorem fl_X2_isWithin_17 : (Cond.fieldLink RX2 17 "MoorTrianglesModel" "ys" "[I") ∈ wsX2_isWithin := by decide +kernel
set_option maxHeartbeats 4000000 in
set_option maxRecDepth 100000 in
theorem c_X2_isWithin (l : Launch) (dC : Nat → ClassId) (dI : Nat → Nat → Nat) (cI cZ cY : ClassId) (h qx qy qh qt qs : Nat) (rw : Nat → Nat) (th : Int32) (n : Nat) (xs ys hs : Nat → Int32) (t : Nat) (tb : Nat → Int32) (sg : Nat → Nat → Int32) (fl : Int32) (a : Int32) (b : Int32) (k : Int32) (x : Int32) (y : Int32) (ia : vp_in a 17) (ib : vp_in b 17) (ic : vp_in k 17) : Met l yX2_isWithin wsX2_isWithin ({ frames := 1, cells := 0, slots := 0, locals := 24 }) (va_Pc [.ref h, .int a, .int b, .int k, .int x, .int y] (fun U => va_P (dC, dI) vwCl (wR cI cZ cY h qx qy qh qt qs rw th n xs ys hs t tb sg fl) U.heap ∧ va_K (dC, dI) vwCl (gTY cI cZ cY) U)) (vp_Si (fun r => r = bI (r_isWithin xs ys a b k x y))) 0 0 (fun _ => False) := by
  refine rd_start (cc := cX2_isWithin) (maxL := 13) (ret := (some .boolean)) RX2 (by decide) rfl rfl (Nat.le_of_ble_eq_true rfl) ?_
  intro p e s m below meth c ⟨hx, hb, hr, hml, hown, hts, hlocks⟩ hP hK ls hl
  have F : CallFix p m c cX2_isWithin 13 s ([.ref h, .int a, .int b, .int k, .int x, .int y] : List Value).toArray wsX2_isWithin RX2 := ⟨hx, hb, hml, hown, hts⟩
  have hl : lv_has ls 13 [(0, .ref h), (1, .int a), (2, .int b), (3, .int k), (4, .int x), (5, .int y)] := hl
  refine lv_aload_n hx hb dX2_isWithin_0 rfl (lv_at hl 0 rfl) ?_
  refine va_get (D := (dC, dI)) (ci := 2) (v := .ref qx) (C := RX2) (T := TX2) (N := 9) hx hb hts in_X2_isWithin_X2 hown hK hP 0 rfl rfl 2 (by decide) (hts (.fieldLink RX2 13 "MoorTrianglesModel" "xs" "[I") fl_X2_isWithin_13) (fun _ h9 => h9) rfl dX2_isWithin_1 ?_
  refine lv_iload_n hx hb dX2_isWithin_4 rfl (lv_at hl 1 rfl) ?_
  refine va_iald (D := (dC, dI)) hx hb hK hP 1 0 rfl rfl ia dX2_isWithin_5 ?_
  refine lv_iload hx hb dX2_isWithin_6 (lv_at hl 4 rfl) ?_
  refine lv_isub hx hb dX2_isWithin_8 ?_
  refine lv_istore (lv' := [(6, .int ((xs a.toNatClampNeg) - x)), (0, .ref h), (1, .int a), (2, .int b), (3, .int k), (4, .int x), (5, .int y)]) hx hb dX2_isWithin_9 hl (by decide) rfl (fun ls hl => ?_)
  refine lv_aload_n hx hb dX2_isWithin_11 rfl (lv_at hl 1 rfl) ?_
  refine va_get (D := (dC, dI)) (ci := 2) (v := .ref qy) (C := RX2) (T := TX2) (N := 9) hx hb hts in_X2_isWithin_X2 hown hK hP 0 rfl rfl 3 (by decide) (hts (.fieldLink RX2 17 "MoorTrianglesModel" "ys" "[I") fl_X2_isWithin_17) (fun _ h9 => h9) rfl dX2_isWithin_12 ?_
  refine lv_iload_n hx hb dX2_isWithin_15 rfl (lv_at hl 2 rfl) ?_
  refine va_iald (D := (dC, dI)) hx hb hK hP 2 0 rfl rfl ia dX2_isWithin_16 ?_
  refine lv_iload hx hb dX2_isWithin_17 (lv_at hl 6 rfl) ?_
  refine lv_isub hx hb dX2_isWithin_19 ?_
  refine lv_istore (lv' := [(7, .int ((ys a.toNatClampNeg) - y)), (6, .int ((xs a.toNatClampNeg) - x)), (0, .ref h), (1, .int a), (2, .int b), (3, .int k), (4, .int x), (5, .int y)]) hx hb dX2_isWithin_20 hl (by decide) rfl (fun ls hl => ?_)
  refine lv_aload_n hx hb dX2_isWithin_22 rfl (lv_at hl 2 rfl) ?_
  refine va_get (D := (dC, dI)) (ci := 2) (v := .ref qx) (C := RX2) (T := TX2) (N := 9) hx hb hts in_X2_isWithin_X2 hown hK hP 0 rfl rfl 2 (by decide) (hts (.fieldLink RX2 13 "MoorTrianglesModel" "xs" "[I") fl_X2_isWithin_13) (fun _ h9 => h9) rfl dX2_isWithin_23 ?_
  refine lv_iload_n hx hb dX2_isWithin_26 rfl (lv_at hl 4 rfl) ?_
  refine va_iald (D := (dC, dI)) hx hb hK hP 1 0 rfl rfl ib dX2_isWithin_27 ?_
  refine lv_iload hx hb dX2_isWithin_28 (lv_at hl 6 rfl) ?_
  refine lv_isub hx hb dX2_isWithin_30 ?_
  refine lv_istore (lv' := [(8, .int ((xs b.toNatClampNeg) - x)), (7, .int ((ys a.toNatClampNeg) - y)), (6, .int ((xs a.toNatClampNeg) - x)), (0, .ref h), (1, .int a), (2, .int b), (3, .int k), (4, .int x), (5, .int y)]) hx hb dX2_isWithin_31 hl (by decide) rfl (fun ls hl => ?_)
  refine lv_aload_n hx hb dX2_isWithin_33 rfl (lv_at hl 3 rfl) ?_
  refine va_get (D := (dC, dI)) (ci := 2) (v := .ref qy) (C := RX2) (T := TX2) (N := 9) hx hb hts in_X2_isWithin_X2 hown hK hP 0 rfl rfl 3 (by decide) (hts (.fieldLink RX2 17 "MoorTrianglesModel" "ys" "[I") fl_X2_isWithin_17) (fun _ h9 => h9) rfl dX2_isWithin_34 ?_
  refine lv_iload_n hx hb dX2_isWithin_37 rfl (lv_at hl 5 rfl) ?_
  refine va_iald (D := (dC, dI)) hx hb hK hP 2 0 rfl rfl ib dX2_isWithin_38 ?_
  refine lv_iload hx hb dX2_isWithin_39 (lv_at hl 8 rfl) ?_
  refine lv_isub hx hb dX2_isWithin_41 ?_
  refine lv_istore (lv' := [(9, .int ((ys b.toNatClampNeg) - y)), (8, .int ((xs b.toNatClampNeg) - x)), (7, .int ((ys a.toNatClampNeg) - y)), (6, .int ((xs a.toNatClampNeg) - x)), (0, .ref h), (1, .int a), (2, .int b), (3, .int k), (4, .int x), (5, .int y)]) hx hb dX2_isWithin_42 hl (by decide) rfl (fun ls hl => ?_)
  refine lv_aload_n hx hb dX2_isWithin_44 rfl (lv_at hl 4 rfl) ?_
  refine va_get (D := (dC, dI)) (ci := 2) (v := .ref qx) (C := RX2) (T := TX2) (N := 9) hx hb hts in_X2_isWithin_X2 hown hK hP 0 rfl rfl 2 (by decide) (hts (.fieldLink RX2 13 "MoorTrianglesModel" "xs" "[I") fl_X2_isWithin_13) (fun _ h9 => h9) rfl dX2_isWithin_45 ?_
  refine lv_iload_n hx hb dX2_isWithin_48 rfl (lv_at hl 7 rfl) ?_
  refine va_iald (D := (dC, dI)) hx hb hK hP 1 0 rfl rfl ic dX2_isWithin_49 ?_
  refine lv_iload hx hb dX2_isWithin_50 (lv_at hl 8 rfl) ?_
  refine lv_isub hx hb dX2_isWithin_52 ?_
  refine lv_istore (lv' := [(10, .int ((xs k.toNatClampNeg) - x)), (9, .int ((ys b.toNatClampNeg) - y)), (8, .int ((xs b.toNatClampNeg) - x)), (7, .int ((ys a.toNatClampNeg) - y)), (6, .int ((xs a.toNatClampNeg) - x)), (0, .ref h), (1, .int a), (2, .int b), (3, .int k), (4, .int x), (5, .int y)]) hx hb dX2_isWithin_53 hl (by decide) rfl (fun ls hl => ?_)
  refine lv_aload_n hx hb dX2_isWithin_55 rfl (lv_at hl 5 rfl) ?_
  refine va_get (D := (dC, dI)) (ci := 2) (v := .ref qy) (C := RX2) (T := TX2) (N := 9) hx hb hts in_X2_isWithin_X2 hown hK hP 0 rfl rfl 3 (by decide) (hts (.fieldLink RX2 17 "MoorTrianglesModel" "ys" "[I") fl_X2_isWithin_17) (fun _ h9 => h9) rfl dX2_isWithin_56 ?_
  refine lv_iload_n hx hb dX2_isWithin_59 rfl (lv_at hl 8 rfl) ?_
  refine va_iald (D := (dC, dI)) hx hb hK hP 2 0 rfl rfl ic dX2_isWithin_60 ?_
  refine lv_iload hx hb dX2_isWithin_61 (lv_at hl 10 rfl) ?_
  refine lv_isub hx hb dX2_isWithin_63 ?_
  refine lv_istore (lv' := [(11, .int ((ys k.toNatClampNeg) - y)), (10, .int ((xs k.toNatClampNeg) - x)), (9, .int ((ys b.toNatClampNeg) - y)), (8, .int ((xs b.toNatClampNeg) - x)), (7, .int ((ys a.toNatClampNeg) - y)), (6, .int ((xs a.toNatClampNeg) - x)), (0, .ref h), (1, .int a), (2, .int b), (3, .int k), (4, .int x), (5, .int y)]) hx hb dX2_isWithin_64 hl (by decide) rfl (fun ls hl => ?_)
  refine lv_iload hx hb dX2_isWithin_66 (lv_at hl 5 rfl) ?_
  refine lv_iload hx hb dX2_isWithin_68 (lv_at hl 5 rfl) ?_
  refine lv_imul hx hb dX2_isWithin_70 ?_
  refine lv_iload hx hb dX2_isWithin_71 (lv_at hl 4 rfl) ?_
  refine lv_iload hx hb dX2_isWithin_73 (lv_at hl 4 rfl) ?_
  refine lv_imul hx hb dX2_isWithin_75 ?_
  refine lv_iadd hx hb dX2_isWithin_76 ?_
  refine lv_iload hx hb dX2_isWithin_77 (lv_at hl 3 rfl) ?_
  refine lv_iload hx hb dX2_isWithin_79 (lv_at hl 0 rfl) ?_
  refine lv_imul hx hb dX2_isWithin_81 ?_
  refine lv_iload hx hb dX2_isWithin_82 (lv_at hl 1 rfl) ?_
  refine lv_iload hx hb dX2_isWithin_84 (lv_at hl 2 rfl) ?_
  refine lv_imul hx hb dX2_isWithin_86 ?_
  refine lv_isub hx hb dX2_isWithin_87 ?_
  refine lv_imul hx hb dX2_isWithin_88 ?_
  refine lv_iload hx hb dX2_isWithin_89 (lv_at hl 3 rfl) ?_
  refine lv_iload hx hb dX2_isWithin_91 (lv_at hl 3 rfl) ?_
  refine lv_imul hx hb dX2_isWithin_93 ?_
  refine lv_iload hx hb dX2_isWithin_94 (lv_at hl 2 rfl) ?_
  refine lv_iload hx hb dX2_isWithin_96 (lv_at hl 2 rfl) ?_
  refine lv_imul hx hb dX2_isWithin_98 ?_
  refine lv_iadd hx hb dX2_isWithin_99 ?_
  refine lv_iload hx hb dX2_isWithin_100 (lv_at hl 5 rfl) ?_
  refine lv_iload hx hb dX2_isWithin_102 (lv_at hl 0 rfl) ?_
  refine lv_imul hx hb dX2_isWithin_104 ?_
  refine lv_iload hx hb dX2_isWithin_105 (lv_at hl 1 rfl) ?_
  refine lv_iload hx hb dX2_isWithin_107 (lv_at hl 4 rfl) ?_
  refine lv_imul hx hb dX2_isWithin_109 ?_
  refine lv_isub hx hb dX2_isWithin_110 ?_
  refine lv_imul hx hb dX2_isWithin_111 ?_
  refine lv_isub hx hb dX2_isWithin_112 ?_
  refine lv_iload hx hb dX2_isWithin_113 (lv_at hl 1 rfl) ?_
  refine lv_iload hx hb dX2_isWithin_115 (lv_at hl 1 rfl) ?_
  refine lv_imul hx hb dX2_isWithin_117 ?_
  refine lv_iload hx hb dX2_isWithin_118 (lv_at hl 0 rfl) ?_
  refine lv_iload hx hb dX2_isWithin_120 (lv_at hl 0 rfl) ?_
  refine lv_imul hx hb dX2_isWithin_122 ?_
  refine lv_iadd hx hb dX2_isWithin_123 ?_
  refine lv_iload hx hb dX2_isWithin_124 (lv_at hl 5 rfl) ?_
  refine lv_iload hx hb dX2_isWithin_126 (lv_at hl 2 rfl) ?_
  refine lv_imul hx hb dX2_isWithin_128 ?_
  refine lv_iload hx hb dX2_isWithin_129 (lv_at hl 3 rfl) ?_
  refine lv_iload hx hb dX2_isWithin_131 (lv_at hl 4 rfl) ?_
  refine lv_imul hx hb dX2_isWithin_133 ?_
  refine lv_isub hx hb dX2_isWithin_134 ?_
  refine lv_imul hx hb dX2_isWithin_135 ?_
  refine lv_iadd hx hb dX2_isWithin_136 ?_
  refine lv_istore (lv' := [(12, .int (((((((xs a.toNatClampNeg) - x) * ((xs a.toNatClampNeg) - x)) + (((ys a.toNatClampNeg) - y) * ((ys a.toNatClampNeg) - y))) * ((((xs b.toNatClampNeg) - x) * ((ys k.toNatClampNeg) - y)) - (((xs k.toNatClampNeg) - x) * ((ys b.toNatClampNeg) - y)))) - (((((xs b.toNatClampNeg) - x) * ((xs b.toNatClampNeg) - x)) + (((ys b.toNatClampNeg) - y) * ((ys b.toNatClampNeg) - y))) * ((((xs a.toNatClampNeg) - x) * ((ys k.toNatClampNeg) - y)) - (((xs k.toNatClampNeg) - x) * ((ys a.toNatClampNeg) - y))))) + (((((xs k.toNatClampNeg) - x) * ((xs k.toNatClampNeg) - x)) + (((ys k.toNatClampNeg) - y) * ((ys k.toNatClampNeg) - y))) * ((((xs a.toNatClampNeg) - x) * ((ys b.toNatClampNeg) - y)) - (((xs b.toNatClampNeg) - x) * ((ys a.toNatClampNeg) - y)))))), (11, .int ((ys k.toNatClampNeg) - y)), (10, .int ((xs k.toNatClampNeg) - x)), (9, .int ((ys b.toNatClampNeg) - y)), (8, .int ((xs b.toNatClampNeg) - x)), (7, .int ((ys a.toNatClampNeg) - y)), (6, .int ((xs a.toNatClampNeg) - x)), (0, .ref h), (1, .int a), (2, .int b), (3, .int k), (4, .int x), (5, .int y)]) hx hb dX2_isWithin_137 hl (by decide) rfl (fun ls hl => ?_)
  refine lv_aload_n hx hb dX2_isWithin_139 rfl (lv_at hl 7 rfl) ?_
  refine lv_iload_n hx hb dX2_isWithin_140 rfl (lv_at hl 8 rfl) ?_
  refine lv_iload_n hx hb dX2_isWithin_141 rfl (lv_at hl 9 rfl) ?_
  refine lv_aload_n hx hb dX2_isWithin_142 rfl (lv_at hl 7 rfl) ?_
  refine va_get (D := (dC, dI)) (ci := 2) (v := .ref qx) (C := RX2) (T := TX2) (N := 9) hx hb hts in_X2_isWithin_X2 hown hK hP 0 rfl rfl 2 (by decide) (hts (.fieldLink RX2 13 "MoorTrianglesModel" "xs" "[I") fl_X2_isWithin_13) (fun _ h9 => h9) rfl dX2_isWithin_143 ?_
  refine lv_iload_n hx hb dX2_isWithin_146 rfl (lv_at hl 10 rfl) ?_
  refine va_iald (D := (dC, dI)) hx hb hK hP 1 0 rfl rfl ic dX2_isWithin_147 ?_
  refine lv_aload_n hx hb dX2_isWithin_148 rfl (lv_at hl 7 rfl) ?_
  refine va_get (D := (dC, dI)) (ci := 2) (v := .ref qy) (C := RX2) (T := TX2) (N := 9) hx hb hts in_X2_isWithin_X2 hown hK hP 0 rfl rfl 3 (by decide) (hts (.fieldLink RX2 17 "MoorTrianglesModel" "ys" "[I") fl_X2_isWithin_17) (fun _ h9 => h9) rfl dX2_isWithin_149 ?_
  refine lv_iload_n hx hb dX2_isWithin_152 rfl (lv_at hl 10 rfl) ?_
  refine va_iald (D := (dC, dI)) hx hb hK hP 2 0 rfl rfl ic dX2_isWithin_153 ?_
  refine rd_cVi (As := [.int a, .int b, .int (xs k.toNatClampNeg), .int (ys k.toNatClampNeg)]) (rest := []) F (c_X2_area l dC dI cI cZ cY h qx qy qh qt qs rw th n xs ys hs t tb sg fl a b (xs k.toNatClampNeg) (ys k.toNatClampNeg) ia ib) (cwV 4 hts gX2_isWithin_X2_area rfl rfl rfl hd_X2_area ⟨Nat.le_of_ble_eq_true rfl, Nat.le_of_ble_eq_true rfl⟩) hP hK (va_recv hK hP (ci := 2) (q0 := 0) rfl rfl) rfl hl.1 rfl (lv_room (Nat.le_of_ble_eq_true rfl)) dX2_isWithin_154 ⟨Nat.zero_le _, Nat.zero_le _⟩ ?_
  refine lv_if_le (tgt := 173) hx hb dX2_isWithin_157 (by decide) (fun c_1 => ?_) (fun c_1 => ?_)
  · refine lv_iload hx hb dX2_isWithin_173 (lv_at hl 0 rfl) ?_
    refine lv_if_ge (tgt := 182) hx hb dX2_isWithin_175 (by decide) (fun c_2 => ?_) (fun c_2 => ?_)
    · refine lv_iconst (v := 0) hx hb dX2_isWithin_182 (by decide) ?_
      exact rd_zret hx hb hr hlocks (by unfold r_isWithin r_sum; rw [if_pos c_1, if_pos c_2]; rfl) dX2_isWithin_183
    · refine lv_iconst (v := 1) hx hb dX2_isWithin_178 (by decide) ?_
      refine lv_goto (tgt := 183) hx hb dX2_isWithin_179 (by decide) ?_
      exact rd_zret hx hb hr hlocks (by unfold r_isWithin r_sum; rw [if_pos c_1, if_neg c_2]; rfl) dX2_isWithin_183
  · refine lv_iload hx hb dX2_isWithin_160 (lv_at hl 0 rfl) ?_
    refine lv_if_le (tgt := 169) hx hb dX2_isWithin_162 (by decide) (fun c_3 => ?_) (fun c_3 => ?_)
    · refine lv_iconst (v := 0) hx hb dX2_isWithin_169 (by decide) ?_
      refine lv_goto (tgt := 183) hx hb dX2_isWithin_170 (by decide) ?_
      exact rd_zret hx hb hr hlocks (by unfold r_isWithin r_sum; rw [if_neg c_1, if_pos c_3]; rfl) dX2_isWithin_183
    · refine lv_iconst (v := 1) hx hb dX2_isWithin_165 (by decide) ?_
      refine lv_goto (tgt := 183) hx hb dX2_isWithin_166 (by decide) ?_
      exact rd_zret hx hb hr hlocks (by unfold r_isWithin r_sum; rw [if_neg c_1, if_neg c_3]; rfl) dX2_isWithin_183
theorem hd_X2_isUnfair : yX2_isUnfair.cls = RX2 ∧ yX2_isUnfair.cls ≠ "java/lang/invoke/MethodHandle" ∧ yX2_isUnfair.cls ≠ "java/lang/invoke/VarHandle" ∧ (parseMethodDescriptor yX2_isUnfair.desc).map (fun d => d.parameters.length) = some 2 := by decide +kernel
