set_option maxHeartbeats 4000000 in
set_option maxRecDepth 100000 in
theorem c_X2_lies (l : Launch) (dC : Nat → ClassId) (dI : Nat → Nat → Nat) (cI cZ cY : ClassId) (h qx qy qh qt qs : Nat) (rw : Nat → Nat) (th : Int32) (n : Nat) (xs ys hs : Nat → Int32) (t : Nat) (tb : Nat → Int32) (sg : Nat → Nat → Int32) (fl : Int32) (x : Int32) (y : Int32) (ht : t ≤ 36) (hok : r_okT t tb) (kk : Nat) (hkk : kk < t) (hc : r_pCov xs ys tb x y kk = true) (hbf : ∀ j, j < kk → r_pCov xs ys tb x y j = false) : Met l yX2_lies wsX2_lies ({ frames := 3, cells := 0, slots := 0, locals := 71 }) (va_Pc [.ref h, .int x, .int y] (fun U => va_P (dC, dI) vwCl (wR cI cZ cY h qx qy qh qt qs rw th n xs ys hs t tb sg fl) U.heap ∧ va_K (dC, dI) vwCl (gTY cI cZ cY) U)) (vp_Si (fun r => r = nI kk)) 0 0 (fun _ => False) := by
  refine rd_start (cc := cX2_lies) (maxL := 4) (ret := (some .int)) RX2 (by decide) rfl rfl (Nat.le_of_ble_eq_true rfl) ?_
  intro p e s m below meth c ⟨hx, hb, hr, hml, hown, hts, hlocks⟩ hP hK ls hl
  have F : CallFix p m c cX2_lies 4 s ([.ref h, .int x, .int y] : List Value).toArray wsX2_lies RX2 := ⟨hx, hb, hml, hown, hts⟩
  have hl : lv_has ls 4 [(0, .ref h), (1, .int x), (2, .int y)] := hl
  refine lv_iconst (v := 0) hx hb dX2_lies_0 (by decide) ?_
  refine lv_istore_n (lv' := [(3, .int 0), (0, .ref h), (1, .int x), (2, .int y)]) hx hb dX2_lies_1 rfl hl (by decide) rfl (fun ls hl => ?_)
  have hL2 : ∀ (k_1 : Nat) (i : Nat), (kk - i) < k_1 → (i ≤ kk) → ∀ ls : Array Slot, lv_has ls 4 [(3, .int (nI i)), (0, .ref h), (1, .int x), (2, .int y)] → W p l e ({ frames := 3, cells := 0, slots := 0, locals := 71 } : Room) s m ([.ref h, .int x, .int y] : List Value).toArray below meth c s.heap [] 0 0 (MQ below (vp_Si (fun r => r = nI kk)) ([.ref h, .int x, .int y] : List Value).toArray s 0 0 (fun _ => False)) (F0 m 2 ls []) := by
    intro k_1
    induction k_1 with
    | zero => intro i hk; exact absurd hk (Nat.not_lt_zero _)
    | succ k_1 ih_2 =>
      intro i hk_2 hi_i ls hl
      refine lv_aload_n hx hb dX2_lies_2 rfl (lv_at hl 1 rfl) ?_
      refine lv_iload_n hx hb dX2_lies_3 rfl (lv_at hl 0 rfl) ?_
      refine lv_iload_n hx hb dX2_lies_4 rfl (lv_at hl 2 rfl) ?_
      refine lv_iload_n hx hb dX2_lies_5 rfl (lv_at hl 3 rfl) ?_
      refine rd_cVi (As := [.int (nI i), .int x, .int y]) (rest := []) F (c_X2_covers l dC dI cI cZ cY h qx qy qh qt qs rw th n xs ys hs t tb sg fl (nI i) x y (vp_in_nI (by omega) (by decide)) (hok i (by omega)).1 (hok i (by omega)).2.1 (hok i (by omega)).2.2) (cwV 3 hts gX2_lies_X2_covers rfl rfl rfl hd_X2_covers ⟨Nat.le_of_ble_eq_true rfl, Nat.le_of_ble_eq_true rfl⟩) hP hK (va_recv hK hP (ci := 2) (q0 := 0) rfl rfl) rfl hl.1 rfl (lv_room (Nat.le_of_ble_eq_true rfl)) dX2_lies_6 ⟨Nat.zero_le _, Nat.zero_le _⟩ ?_
      refine lv_if_neB (tgt := 18) hx hb dX2_lies_9 (by decide) (fun c_3 => ?_) (fun c_3 => ?_)
      · have heq_i : i = kk := by
          rcases Nat.lt_or_ge i kk with q | q
          · exact absurd ((hbf i q).symm.trans c_3) (by decide)
          · omega
        refine lv_iload_n hx hb dX2_lies_18 rfl (lv_at hl 0 rfl) ?_
        exact rd_iret hx hb hr hlocks (by rw [heq_i]) dX2_lies_19
      · have hlt_i : i < kk := by
          rcases Nat.lt_or_ge i kk with q | q
          · exact q
          · have e : i = kk := by omega
            rw [e] at c_3
            exact absurd (hc.symm.trans c_3) (by decide)
        refine lv_iinc (v := nI (i + 1)) (lv' := [(3, .int (nI (i + 1))), (0, .ref h), (1, .int x), (2, .int y)]) hx hb dX2_lies_12 hl (k := 0) rfl (nI_1 _) (by decide) rfl (fun ls hl => ?_)
        refine lv_goto (tgt := 2) hx hb dX2_lies_15 (by decide) ?_
        have hl := lv_sub (l' := [(3, .int (nI (i + 1))), (0, .ref h), (1, .int x), (2, .int y)]) hl [0, 1, 2, 3] rfl
        have hl : lv_has ls 4 [(3, .int (nI (i + 1))), (0, .ref h), (1, .int x), (2, .int y)] := by
          have e9 : [(3, .int (nI (i + 1))), (0, .ref h), (1, .int x), (2, .int y)] = ([(3, .int (nI (i + 1))), (0, .ref h), (1, .int x), (2, .int y)] : List (Nat × Value)) := by rfl
          rw [← e9]; exact hl
        exact ih_2 (i + 1) (by omega) (by omega) _ hl
  have hl := lv_sub (l' := [(3, .int 0), (0, .ref h), (1, .int x), (2, .int y)]) hl [0, 1, 2, 3] rfl
  have hl : lv_has ls 4 [(3, .int (nI 0)), (0, .ref h), (1, .int x), (2, .int y)] := by
    have e9 : [(3, .int 0), (0, .ref h), (1, .int x), (2, .int y)] = ([(3, .int (nI 0)), (0, .ref h), (1, .int x), (2, .int y)] : List (Nat × Value)) := by rfl
    rw [← e9]; exact hl
  exact hL2 _ 0 (Nat.lt_succ_self _) (Nat.zero_le _) _ hl
theorem hd_X2_edgesOf : yX2_edgesOf.cls = RX2 ∧ yX2_edgesOf.cls ≠ "java/lang/invoke/MethodHandle" ∧ yX2_edgesOf.cls ≠ "java/lang/invoke/VarHandle" ∧ (parseMethodDescriptor yX2_edgesOf.desc).map (fun d => d.parameters.length) = some 1 := by decide +kernel
theorem in_X2_edgesOf_X2 : ∀ w ∈ wsX20, w ∈ wsX2_edgesOf := by decide +kernel
theorem fl_X2_edgesOf_7 : (Cond.fieldLink RX2 7 "MoorTrianglesModel" "cairns" "I") ∈ wsX2_edgesOf := by decide +kernel
set_option maxHeartbeats 4000000 in
set_option maxRecDepth 100000 in
theorem c_X2_edgesOf (l : Launch) (dC : Nat → ClassId) (dI : Nat → Nat → Nat) (cI cZ cY : ClassId) (h qx qy qh qt qs : Nat) (rw : Nat → Nat) (th : Int32) (n : Nat) (xs ys hs : Nat → Int32) (t : Nat) (tb : Nat → Int32) (sg : Nat → Nat → Int32) (fl : Int32) (a : Int32) (ht : t ≤ 36) (hn : n ≤ 17) : Met l yX2_edgesOf wsX2_edgesOf ({ frames := 4, cells := 0, slots := 0, locals := 91 }) (va_Pc [.ref h, .int a] (fun U => va_P (dC, dI) vwCl (wR cI cZ cY h qx qy qh qt qs rw th n xs ys hs t tb sg fl) U.heap ∧ va_K (dC, dI) vwCl (gTY cI cZ cY) U)) (vp_Si (fun r => r = r_edgesOf n t tb a)) 0 0 (fun _ => False) := by
  refine rd_start (cc := cX2_edgesOf) (maxL := 4) (ret := (some .int)) RX2 (by decide) rfl rfl (Nat.le_of_ble_eq_true rfl) ?_
  intro p e s m below meth c ⟨hx, hb, hr, hml, hown, hts, hlocks⟩ hP hK ls hl
  have F : CallFix p m c cX2_edgesOf 4 s ([.ref h, .int a] : List Value).toArray wsX2_edgesOf RX2 := ⟨hx, hb, hml, hown, hts⟩
  have hl : lv_has ls 4 [(0, .ref h), (1, .int a)] := hl
  refine lv_iconst (v := 0) hx hb dX2_edgesOf_0 (by decide) ?_
  refine lv_istore_n (lv' := [(2, .int 0), (0, .ref h), (1, .int a)]) hx hb dX2_edgesOf_1 rfl hl (by decide) rfl (fun ls hl => ?_)
  refine lv_iconst (v := 0) hx hb dX2_edgesOf_2 (by decide) ?_
  refine lv_istore_n (lv' := [(3, .int 0), (2, .int 0), (0, .ref h), (1, .int a)]) hx hb dX2_edgesOf_3 rfl hl (by decide) rfl (fun ls hl => ?_)
  have hL4 : ∀ (k_1 : Nat) (i : Nat), (n - i) < k_1 → (i ≤ n) → ∀ ls : Array Slot, lv_has ls 4 [(3, .int (nI i)), (2, .int (nI (rg_ct (r_pE t tb a) i))), (0, .ref h), (1, .int a)] → W p l e ({ frames := 4, cells := 0, slots := 0, locals := 91 } : Room) s m ([.ref h, .int a] : List Value).toArray below meth c s.heap [] 0 0 (MQ below (vp_Si (fun r => r = r_edgesOf n t tb a)) ([.ref h, .int a] : List Value).toArray s 0 0 (fun _ => False)) (F0 m 4 ls []) := by
    intro k_1
    induction k_1 with
    | zero => intro i hk; exact absurd hk (Nat.not_lt_zero _)
    | succ k_1 ih_2 =>
      intro i hk_4 hi_i ls hl
      refine lv_iload_n hx hb dX2_edgesOf_4 rfl (lv_at hl 0 rfl) ?_
      refine lv_aload_n hx hb dX2_edgesOf_5 rfl (lv_at hl 2 rfl) ?_
      refine va_get (D := (dC, dI)) (ci := 2) (v := .int (nI n)) (C := RX2) (T := TX2) (N := 9) hx hb hts in_X2_edgesOf_X2 hown hK hP 0 rfl rfl 1 (by decide) (hts (.fieldLink RX2 7 "MoorTrianglesModel" "cairns" "I") fl_X2_edgesOf_7) (fun _ h9 => h9) rfl dX2_edgesOf_6 ?_
      refine lv_icmp_ge (tgt := 35) hx hb dX2_edgesOf_9 (by decide) (fun c_3 => ?_) (fun c_3 => ?_)
      · have hge_i : n ≤ i := nI_le_le (by omega) (by omega) c_3
        have heq_i : i = n := by omega
        have hl : lv_has ls 4 [(3, .int (nI n)), (2, .int (nI (rg_ct (r_pE t tb a) n))), (0, .ref h), (1, .int a)] := by rw [heq_i] at hl; exact hl
        refine lv_iload_n hx hb dX2_edgesOf_35 rfl (lv_at hl 1 rfl) ?_
        exact rd_iret hx hb hr hlocks (by rfl) dX2_edgesOf_36
      · have hlt_i : i < n := nI_nle_lt (by omega) (by omega) c_3
        refine lv_iload_n hx hb dX2_edgesOf_12 rfl (lv_at hl 1 rfl) ?_
        refine lv_aload_n hx hb dX2_edgesOf_13 rfl (lv_at hl 2 rfl) ?_
        refine lv_iload_n hx hb dX2_edgesOf_14 rfl (lv_at hl 3 rfl) ?_
        refine lv_iload_n hx hb dX2_edgesOf_15 rfl (lv_at hl 0 rfl) ?_
        refine rd_cVi (As := [.int a, .int (nI i)]) (rest := [.int (nI (rg_ct (r_pE t tb a) i))]) F (c_X2_sides l dC dI cI cZ cY h qx qy qh qt qs rw th n xs ys hs t tb sg fl a (nI i) ht) (cwV 2 hts gX2_edgesOf_X2_sides rfl rfl rfl hd_X2_sides ⟨Nat.le_of_ble_eq_true rfl, Nat.le_of_ble_eq_true rfl⟩) hP hK (va_recv hK hP (ci := 2) (q0 := 0) rfl rfl) rfl hl.1 rfl (lv_room (Nat.le_of_ble_eq_true rfl)) dX2_edgesOf_16 ⟨Nat.zero_le _, Nat.zero_le _⟩ ?_
        refine lv_if_le (tgt := 26) hx hb dX2_edgesOf_19 (by decide) (fun c_4 => ?_) (fun c_4 => ?_)
        · refine lv_iconst (v := 0) hx hb dX2_edgesOf_26 (by decide) ?_
          refine lv_iadd hx hb dX2_edgesOf_27 ?_
          refine lv_cvi (Int32.add_zero _) ?_
          refine lv_istore_n (lv' := [(2, .int (nI (rg_ct (r_pE t tb a) i))), (3, .int (nI i)), (0, .ref h), (1, .int a)]) hx hb dX2_edgesOf_28 rfl hl (by decide) rfl (fun ls hl => ?_)
          refine lv_iinc (v := nI (i + 1)) (lv' := [(3, .int (nI (i + 1))), (2, .int (nI (rg_ct (r_pE t tb a) i))), (0, .ref h), (1, .int a)]) hx hb dX2_edgesOf_29 hl (k := 1) rfl (nI_1 _) (by decide) rfl (fun ls hl => ?_)
          refine lv_goto (tgt := 4) hx hb dX2_edgesOf_32 (by decide) ?_
          have hl := lv_sub (l' := [(3, .int (nI (i + 1))), (2, .int (nI (rg_ct (r_pE t tb a) i))), (0, .ref h), (1, .int a)]) hl [0, 1, 2, 3] rfl
          have hl : lv_has ls 4 [(3, .int (nI (i + 1))), (2, .int (nI (rg_ct (r_pE t tb a) (i + 1)))), (0, .ref h), (1, .int a)] := by
            have e9 : [(3, .int (nI (i + 1))), (2, .int (nI (rg_ct (r_pE t tb a) i))), (0, .ref h), (1, .int a)] = ([(3, .int (nI (i + 1))), (2, .int (nI (rg_ct (r_pE t tb a) (i + 1)))), (0, .ref h), (1, .int a)] : List (Nat × Value)) := by rw [rg_ct_f (show r_pE t tb a i = false from by simp only [r_pE, c_4]; try rfl)]
            rw [← e9]; exact hl
          exact ih_2 (i + 1) (by omega) (by omega) _ hl
        · refine lv_iconst (v := 1) hx hb dX2_edgesOf_22 (by decide) ?_
          refine lv_goto (tgt := 27) hx hb dX2_edgesOf_23 (by decide) ?_
          refine lv_iadd hx hb dX2_edgesOf_27 ?_
          refine lv_cvi (nI_1 _) ?_
          refine lv_istore_n (lv' := [(2, .int (nI ((rg_ct (r_pE t tb a) i) + 1))), (3, .int (nI i)), (0, .ref h), (1, .int a)]) hx hb dX2_edgesOf_28 rfl hl (by decide) rfl (fun ls hl => ?_)
          refine lv_iinc (v := nI (i + 1)) (lv' := [(3, .int (nI (i + 1))), (2, .int (nI ((rg_ct (r_pE t tb a) i) + 1))), (0, .ref h), (1, .int a)]) hx hb dX2_edgesOf_29 hl (k := 1) rfl (nI_1 _) (by decide) rfl (fun ls hl => ?_)
          refine lv_goto (tgt := 4) hx hb dX2_edgesOf_32 (by decide) ?_
          have hl := lv_sub (l' := [(3, .int (nI (i + 1))), (2, .int (nI ((rg_ct (r_pE t tb a) i) + 1))), (0, .ref h), (1, .int a)]) hl [0, 1, 2, 3] rfl
          have hl : lv_has ls 4 [(3, .int (nI (i + 1))), (2, .int (nI (rg_ct (r_pE t tb a) (i + 1)))), (0, .ref h), (1, .int a)] := by
            have e9 : [(3, .int (nI (i + 1))), (2, .int (nI ((rg_ct (r_pE t tb a) i) + 1))), (0, .ref h), (1, .int a)] = ([(3, .int (nI (i + 1))), (2, .int (nI (rg_ct (r_pE t tb a) (i + 1)))), (0, .ref h), (1, .int a)] : List (Nat × Value)) := by rw [rg_ct_t (show r_pE t tb a i = true from by simp only [r_pE, c_4]; try rfl)]
            rw [← e9]; exact hl
          exact ih_2 (i + 1) (by omega) (by omega) _ hl
  have hl := lv_sub (l' := [(3, .int 0), (2, .int 0), (0, .ref h), (1, .int a)]) hl [0, 1, 2, 3] rfl
  have hl : lv_has ls 4 [(3, .int (nI 0)), (2, .int (nI (rg_ct (r_pE t tb a) 0))), (0, .ref h), (1, .int a)] := by
    have e9 : [(3, .int 0), (2, .int 0), (0, .ref h), (1, .int a)] = ([(3, .int (nI 0)), (2, .int (nI (rg_ct (r_pE t tb a) 0))), (0, .ref h), (1, .int a)] : List (Nat × Value)) := by rfl
    rw [← e9]; exact hl
  exact hL4 _ 0 (Nat.lt_succ_self _) (by omega) _ hl
theorem hd_X2_cairnTold : yX2_cairnTold.cls = RX2 ∧ yX2_cairnTold.cls ≠ "java/lang/invoke/MethodHandle" ∧ yX2_cairnTold.cls ≠ "java/lang/invoke/VarHandle" ∧ (parseMethodDescriptor yX2_cairnTold.desc).map (fun d => d.parameters.length) = some 2 := by decide +kernel
theorem in_X2_cairnTold_X2 : ∀ w ∈ wsX20, w ∈ wsX2_cairnTold := by decide +kernel
theorem fl_X2_cairnTold_55 : (Cond.fieldLink RX2 55 "MoorTrianglesModel" "triangles" "I") ∈ wsX2_cairnTold := by decide +kernel
theorem fl_X2_cairnTold_20 : (Cond.fieldLink RX2 20 "MoorTrianglesModel" "heights" "[I") ∈ wsX2_cairnTold := by decide +kernel
theorem fl_X2_cairnTold_17 : (Cond.fieldLink RX2 17 "MoorTrianglesModel" "ys" "[I") ∈ wsX2_cairnTold := by decide +kernel
theorem fl_X2_cairnTold_13 : (Cond.fieldLink RX2 13 "MoorTrianglesModel" "xs" "[I") ∈ wsX2_cairnTold := by decide +kernel
set_option maxHeartbeats 4000000 in
set_option maxRecDepth 100000 in
theorem c_X2_cairnTold (l : Launch) (dC : Nat → ClassId) (dI : Nat → Nat → Nat) (cI cZ cY : ClassId) (h qx qy qh qt qs : Nat) (rw : Nat → Nat) (th : Int32) (n : Nat) (xs ys hs : Nat → Int32) (t : Nat) (tb : Nat → Int32) (sg : Nat → Nat → Int32) (fl : Int32) (a : Int32) (w : Int32) (ht : t ≤ 36) (hn : n ≤ 17) (ia : vp_in a 17) : Met l yX2_cairnTold wsX2_cairnTold ({ frames := 5, cells := 0, slots := 0, locals := 114 }) (va_Pc [.ref h, .int a, .int w] (fun U => va_P (dC, dI) vwCl (wR cI cZ cY h qx qy qh qt qs rw th n xs ys hs t tb sg fl) U.heap ∧ va_K (dC, dI) vwCl (gTY cI cZ cY) U)) (vp_Si (fun r => r = r_cairnTold n t xs ys hs tb a w)) 0 0 (fun _ => False) := by
  refine rd_start (cc := cX2_cairnTold) (maxL := 5) (ret := (some .int)) RX2 (by decide) rfl rfl (Nat.le_of_ble_eq_true rfl) ?_
  intro p e s m below meth c ⟨hx, hb, hr, hml, hown, hts, hlocks⟩ hP hK ls hl
  have F : CallFix p m c cX2_cairnTold 5 s ([.ref h, .int a, .int w] : List Value).toArray wsX2_cairnTold RX2 := ⟨hx, hb, hml, hown, hts⟩
  have hl : lv_has ls 5 [(0, .ref h), (1, .int a), (2, .int w)] := hl
  refine lv_iload_n hx hb dX2_cairnTold_0 rfl (lv_at hl 2 rfl) ?_
  refine lv_iconst (v := 4) hx hb dX2_cairnTold_1 (by decide) ?_
  refine lv_icmp_ge (tgt := 52) hx hb dX2_cairnTold_2 (by decide) (fun c_1 => ?_) (fun c_1 => ?_)
  · refine lv_iconst (v := 0) hx hb dX2_cairnTold_52 (by decide) ?_
    refine lv_istore_n (lv' := [(3, .int 0), (0, .ref h), (1, .int a), (2, .int w)]) hx hb dX2_cairnTold_53 rfl hl (by decide) rfl (fun ls hl => ?_)
    refine lv_iconst (v := 0) hx hb dX2_cairnTold_54 (by decide) ?_
    refine lv_istore (lv' := [(4, .int 0), (3, .int 0), (0, .ref h), (1, .int a), (2, .int w)]) hx hb dX2_cairnTold_55 hl (by decide) rfl (fun ls hl => ?_)
    have hL57 : ∀ (k_2 : Nat) (i : Nat), (t - i) < k_2 → (i ≤ t) → ∀ ls : Array Slot, lv_has ls 5 [(4, .int (nI i)), (3, .int (nI (rg_ct (r_pH tb a) i))), (0, .ref h), (1, .int a), (2, .int w)] → W p l e ({ frames := 5, cells := 0, slots := 0, locals := 114 } : Room) s m ([.ref h, .int a, .int w] : List Value).toArray below meth c s.heap [] 0 0 (MQ below (vp_Si (fun r => r = r_cairnTold n t xs ys hs tb a w)) ([.ref h, .int a, .int w] : List Value).toArray s 0 0 (fun _ => False)) (F0 m 57 ls []) := by
      intro k_2
      induction k_2 with
      | zero => intro i hk; exact absurd hk (Nat.not_lt_zero _)
      | succ k_2 ih_3 =>
        intro i hk_57 hi_i ls hl
        refine lv_iload hx hb dX2_cairnTold_57 (lv_at hl 0 rfl) ?_
        refine lv_aload_n hx hb dX2_cairnTold_59 rfl (lv_at hl 2 rfl) ?_
        refine va_get (D := (dC, dI)) (ci := 2) (v := .int (nI t)) (C := RX2) (T := TX2) (N := 9) hx hb hts in_X2_cairnTold_X2 hown hK hP 0 rfl rfl 5 (by decide) (hts (.fieldLink RX2 55 "MoorTrianglesModel" "triangles" "I") fl_X2_cairnTold_55) (fun _ h9 => h9) rfl dX2_cairnTold_60 ?_
        refine lv_icmp_ge (tgt := 90) hx hb dX2_cairnTold_63 (by decide) (fun c_4 => ?_) (fun c_4 => ?_)
        · have hge_i : t ≤ i := nI_le_le (by omega) (by omega) c_4
          have heq_i : i = t := by omega
          have hl : lv_has ls 5 [(4, .int (nI t)), (3, .int (nI (rg_ct (r_pH tb a) t))), (0, .ref h), (1, .int a), (2, .int w)] := by rw [heq_i] at hl; exact hl
          refine lv_iload_n hx hb dX2_cairnTold_90 rfl (lv_at hl 1 rfl) ?_
          exact rd_iret hx hb hr hlocks (by rw [r_cairnTold, if_pos c_1]) dX2_cairnTold_91
        · have hlt_i : i < t := nI_nle_lt (by omega) (by omega) c_4
          refine lv_iload_n hx hb dX2_cairnTold_66 rfl (lv_at hl 1 rfl) ?_
          refine lv_aload_n hx hb dX2_cairnTold_67 rfl (lv_at hl 2 rfl) ?_
          refine lv_iload hx hb dX2_cairnTold_68 (lv_at hl 0 rfl) ?_
          refine lv_iload_n hx hb dX2_cairnTold_70 rfl (lv_at hl 3 rfl) ?_
          refine rd_cVi (As := [.int (nI i), .int a]) (rest := [.int (nI (rg_ct (r_pH tb a) i))]) F (c_X2_has l dC dI cI cZ cY h qx qy qh qt qs rw th n xs ys hs t tb sg fl (nI i) a (vp_in_nI (by omega) (by decide))) (cwV 2 hts gX2_cairnTold_X2_has rfl rfl rfl hd_X2_has ⟨Nat.le_of_ble_eq_true rfl, Nat.le_of_ble_eq_true rfl⟩) hP hK (va_recv hK hP (ci := 2) (q0 := 0) rfl rfl) rfl hl.1 rfl (lv_room (Nat.le_of_ble_eq_true rfl)) dX2_cairnTold_71 ⟨Nat.zero_le _, Nat.zero_le _⟩ ?_
          refine lv_if_eqB (tgt := 81) hx hb dX2_cairnTold_74 (by decide) (fun c_5 => ?_) (fun c_5 => ?_)
          · refine lv_iconst (v := 0) hx hb dX2_cairnTold_81 (by decide) ?_
            refine lv_iadd hx hb dX2_cairnTold_82 ?_
            refine lv_cvi (Int32.add_zero _) ?_
            refine lv_istore_n (lv' := [(3, .int (nI (rg_ct (r_pH tb a) i))), (4, .int (nI i)), (0, .ref h), (1, .int a), (2, .int w)]) hx hb dX2_cairnTold_83 rfl hl (by decide) rfl (fun ls hl => ?_)
            refine lv_iinc (v := nI (i + 1)) (lv' := [(4, .int (nI (i + 1))), (3, .int (nI (rg_ct (r_pH tb a) i))), (0, .ref h), (1, .int a), (2, .int w)]) hx hb dX2_cairnTold_84 hl (k := 1) rfl (nI_1 _) (by decide) rfl (fun ls hl => ?_)
            refine lv_goto (tgt := 57) hx hb dX2_cairnTold_87 (by decide) ?_
            have hl := lv_sub (l' := [(4, .int (nI (i + 1))), (3, .int (nI (rg_ct (r_pH tb a) i))), (0, .ref h), (1, .int a), (2, .int w)]) hl [0, 1, 2, 3, 4] rfl
            have hl : lv_has ls 5 [(4, .int (nI (i + 1))), (3, .int (nI (rg_ct (r_pH tb a) (i + 1)))), (0, .ref h), (1, .int a), (2, .int w)] := by
              have e9 : [(4, .int (nI (i + 1))), (3, .int (nI (rg_ct (r_pH tb a) i))), (0, .ref h), (1, .int a), (2, .int w)] = ([(4, .int (nI (i + 1))), (3, .int (nI (rg_ct (r_pH tb a) (i + 1)))), (0, .ref h), (1, .int a), (2, .int w)] : List (Nat × Value)) := by rw [rg_ct_f (show r_pH tb a i = false from by simp only [r_pH, c_5]; try rfl)]
              rw [← e9]; exact hl
            exact ih_3 (i + 1) (by omega) (by omega) _ hl
          · refine lv_iconst (v := 1) hx hb dX2_cairnTold_77 (by decide) ?_
            refine lv_goto (tgt := 82) hx hb dX2_cairnTold_78 (by decide) ?_
            refine lv_iadd hx hb dX2_cairnTold_82 ?_
            refine lv_cvi (nI_1 _) ?_
            refine lv_istore_n (lv' := [(3, .int (nI ((rg_ct (r_pH tb a) i) + 1))), (4, .int (nI i)), (0, .ref h), (1, .int a), (2, .int w)]) hx hb dX2_cairnTold_83 rfl hl (by decide) rfl (fun ls hl => ?_)
            refine lv_iinc (v := nI (i + 1)) (lv' := [(4, .int (nI (i + 1))), (3, .int (nI ((rg_ct (r_pH tb a) i) + 1))), (0, .ref h), (1, .int a), (2, .int w)]) hx hb dX2_cairnTold_84 hl (k := 1) rfl (nI_1 _) (by decide) rfl (fun ls hl => ?_)
            refine lv_goto (tgt := 57) hx hb dX2_cairnTold_87 (by decide) ?_
            have hl := lv_sub (l' := [(4, .int (nI (i + 1))), (3, .int (nI ((rg_ct (r_pH tb a) i) + 1))), (0, .ref h), (1, .int a), (2, .int w)]) hl [0, 1, 2, 3, 4] rfl
            have hl : lv_has ls 5 [(4, .int (nI (i + 1))), (3, .int (nI (rg_ct (r_pH tb a) (i + 1)))), (0, .ref h), (1, .int a), (2, .int w)] := by
              have e9 : [(4, .int (nI (i + 1))), (3, .int (nI ((rg_ct (r_pH tb a) i) + 1))), (0, .ref h), (1, .int a), (2, .int w)] = ([(4, .int (nI (i + 1))), (3, .int (nI (rg_ct (r_pH tb a) (i + 1)))), (0, .ref h), (1, .int a), (2, .int w)] : List (Nat × Value)) := by rw [rg_ct_t (show r_pH tb a i = true from by simp only [r_pH, c_5]; try rfl)]
              rw [← e9]; exact hl
            exact ih_3 (i + 1) (by omega) (by omega) _ hl
    have hl := lv_sub (l' := [(4, .int 0), (3, .int 0), (0, .ref h), (1, .int a), (2, .int w)]) hl [0, 1, 2, 3, 4] rfl
    have hl : lv_has ls 5 [(4, .int (nI 0)), (3, .int (nI (rg_ct (r_pH tb a) 0))), (0, .ref h), (1, .int a), (2, .int w)] := by
      have e9 : [(4, .int 0), (3, .int 0), (0, .ref h), (1, .int a), (2, .int w)] = ([(4, .int (nI 0)), (3, .int (nI (rg_ct (r_pH tb a) 0))), (0, .ref h), (1, .int a), (2, .int w)] : List (Nat × Value)) := by rfl
      rw [← e9]; exact hl
    exact hL57 _ 0 (Nat.lt_succ_self _) (by omega) _ hl
  · refine lv_iload_n hx hb dX2_cairnTold_5 rfl (lv_at hl 2 rfl) ?_
    refine lv_if_ne (tgt := 18) hx hb dX2_cairnTold_6 (by decide) (fun c_6 => ?_) (fun c_6 => ?_)
    · refine lv_iload_n hx hb dX2_cairnTold_18 rfl (lv_at hl 2 rfl) ?_
      refine lv_iconst (v := 1) hx hb dX2_cairnTold_19 (by decide) ?_
      refine lv_icmp_ne (tgt := 32) hx hb dX2_cairnTold_20 (by decide) (fun c_7 => ?_) (fun c_7 => ?_)
      · refine lv_iload_n hx hb dX2_cairnTold_32 rfl (lv_at hl 2 rfl) ?_
        refine lv_iconst (v := 2) hx hb dX2_cairnTold_33 (by decide) ?_
        refine lv_icmp_ne (tgt := 46) hx hb dX2_cairnTold_34 (by decide) (fun c_8 => ?_) (fun c_8 => ?_)
        · refine lv_aload_n hx hb dX2_cairnTold_46 rfl (lv_at hl 0 rfl) ?_
          refine lv_iload_n hx hb dX2_cairnTold_47 rfl (lv_at hl 1 rfl) ?_
          refine rd_cVi (As := [.int a]) (rest := []) F (c_X2_edgesOf l dC dI cI cZ cY h qx qy qh qt qs rw th n xs ys hs t tb sg fl a ht hn) (cwV 1 hts gX2_cairnTold_X2_edgesOf rfl rfl rfl hd_X2_edgesOf ⟨Nat.le_of_ble_eq_true rfl, Nat.le_of_ble_eq_true rfl⟩) hP hK (va_recv hK hP (ci := 2) (q0 := 0) rfl rfl) rfl hl.1 rfl (lv_room (Nat.le_of_ble_eq_true rfl)) dX2_cairnTold_48 ⟨Nat.zero_le _, Nat.zero_le _⟩ ?_
          exact rd_iret hx hb hr hlocks (by rw [r_cairnTold, if_neg c_1, if_neg c_6, if_neg c_7, if_neg c_8]) dX2_cairnTold_51
        · refine lv_aload_n hx hb dX2_cairnTold_37 rfl (lv_at hl 0 rfl) ?_
          refine va_get (D := (dC, dI)) (ci := 2) (v := .ref qh) (C := RX2) (T := TX2) (N := 9) hx hb hts in_X2_cairnTold_X2 hown hK hP 0 rfl rfl 4 (by decide) (hts (.fieldLink RX2 20 "MoorTrianglesModel" "heights" "[I") fl_X2_cairnTold_20) (fun _ h9 => h9) rfl dX2_cairnTold_38 ?_
          refine lv_iload_n hx hb dX2_cairnTold_41 rfl (lv_at hl 1 rfl) ?_
          refine va_iald (D := (dC, dI)) hx hb hK hP 3 0 rfl rfl ia dX2_cairnTold_42 ?_
          refine lv_goto (tgt := 51) hx hb dX2_cairnTold_43 (by decide) ?_
          exact rd_iret hx hb hr hlocks (by rw [r_cairnTold, if_neg c_1, if_neg c_6, if_neg c_7, if_pos c_8]) dX2_cairnTold_51
      · refine lv_aload_n hx hb dX2_cairnTold_23 rfl (lv_at hl 0 rfl) ?_
        refine va_get (D := (dC, dI)) (ci := 2) (v := .ref qy) (C := RX2) (T := TX2) (N := 9) hx hb hts in_X2_cairnTold_X2 hown hK hP 0 rfl rfl 3 (by decide) (hts (.fieldLink RX2 17 "MoorTrianglesModel" "ys" "[I") fl_X2_cairnTold_17) (fun _ h9 => h9) rfl dX2_cairnTold_24 ?_
        refine lv_iload_n hx hb dX2_cairnTold_27 rfl (lv_at hl 1 rfl) ?_
        refine va_iald (D := (dC, dI)) hx hb hK hP 2 0 rfl rfl ia dX2_cairnTold_28 ?_
        refine lv_goto (tgt := 51) hx hb dX2_cairnTold_29 (by decide) ?_
        exact rd_iret hx hb hr hlocks (by rw [r_cairnTold, if_neg c_1, if_neg c_6, if_pos c_7]) dX2_cairnTold_51
    · refine lv_aload_n hx hb dX2_cairnTold_9 rfl (lv_at hl 0 rfl) ?_
      refine va_get (D := (dC, dI)) (ci := 2) (v := .ref qx) (C := RX2) (T := TX2) (N := 9) hx hb hts in_X2_cairnTold_X2 hown hK hP 0 rfl rfl 2 (by decide) (hts (.fieldLink RX2 13 "MoorTrianglesModel" "xs" "[I") fl_X2_cairnTold_13) (fun _ h9 => h9) rfl dX2_cairnTold_10 ?_
      refine lv_iload_n hx hb dX2_cairnTold_13 rfl (lv_at hl 1 rfl) ?_
      refine va_iald (D := (dC, dI)) hx hb hK hP 1 0 rfl rfl ia dX2_cairnTold_14 ?_
      refine lv_goto (tgt := 51) hx hb dX2_cairnTold_15 (by decide) ?_
      exact rd_iret hx hb hr hlocks (by rw [r_cairnTold, if_neg c_1, if_pos c_6]) dX2_cairnTold_51
theorem hd_X2_triangleTold : yX2_triangleTold.cls = RX2 ∧ yX2_triangleTold.cls ≠ "java/lang/invoke/MethodHandle" ∧ yX2_triangleTold.cls ≠ "java/lang/invoke/VarHandle" ∧ (parseMethodDescriptor yX2_triangleTold.desc).map (fun d => d.parameters.length) = some 2 := by decide +kernel
set_option maxHeartbeats 4000000 in
set_option maxRecDepth 100000 in
theorem c_X2_triangleTold (l : Launch) (dC : Nat → ClassId) (dI : Nat → Nat → Nat) (cI cZ cY : ClassId) (h qx qy qh qt qs : Nat) (rw : Nat → Nat) (th : Int32) (n : Nat) (xs ys hs : Nat → Int32) (t : Nat) (tb : Nat → Int32) (sg : Nat → Nat → Int32) (fl : Int32) (k : Int32) (w : Int32) (ik : vp_in k 36) (i0 : vp_in (r_corner tb k 0) 17) (i1 : vp_in (r_corner tb k 1) 17) (i2 : vp_in (r_corner tb k 2) 17) : Met l yX2_triangleTold wsX2_triangleTold ({ frames := 2, cells := 0, slots := 0, locals := 45 }) (va_Pc [.ref h, .int k, .int w] (fun U => va_P (dC, dI) vwCl (wR cI cZ cY h qx qy qh qt qs rw th n xs ys hs t tb sg fl) U.heap ∧ va_K (dC, dI) vwCl (gTY cI cZ cY) U)) (vp_Si (fun r => r = r_triangleTold xs ys tb k w)) 0 0 (fun _ => False) := by
  refine rd_start (cc := cX2_triangleTold) (maxL := 3) (ret := (some .int)) RX2 (by decide) rfl rfl (Nat.le_of_ble_eq_true rfl) ?_
  intro p e s m below meth c ⟨hx, hb, hr, hml, hown, hts, hlocks⟩ hP hK ls hl
  have F : CallFix p m c cX2_triangleTold 3 s ([.ref h, .int k, .int w] : List Value).toArray wsX2_triangleTold RX2 := ⟨hx, hb, hml, hown, hts⟩
  have hl : lv_has ls 3 [(0, .ref h), (1, .int k), (2, .int w)] := hl
  refine lv_iload_n hx hb dX2_triangleTold_0 rfl (lv_at hl 2 rfl) ?_
  refine lv_iconst (v := 3) hx hb dX2_triangleTold_1 (by decide) ?_
  refine lv_icmp_ge (tgt := 14) hx hb dX2_triangleTold_2 (by decide) (fun c_1 => ?_) (fun c_1 => ?_)
  · refine lv_aload_n hx hb dX2_triangleTold_14 rfl (lv_at hl 0 rfl) ?_
    refine lv_iload_n hx hb dX2_triangleTold_15 rfl (lv_at hl 1 rfl) ?_
    refine rd_cVi (As := [.int k]) (rest := []) F (c_X2_areaOf l dC dI cI cZ cY h qx qy qh qt qs rw th n xs ys hs t tb sg fl k ik i0 i1 i2) (cwV 1 hts gX2_triangleTold_X2_areaOf rfl rfl rfl hd_X2_areaOf ⟨Nat.le_of_ble_eq_true rfl, Nat.le_of_ble_eq_true rfl⟩) hP hK (va_recv hK hP (ci := 2) (q0 := 0) rfl rfl) rfl hl.1 rfl (lv_room (Nat.le_of_ble_eq_true rfl)) dX2_triangleTold_16 ⟨Nat.zero_le _, Nat.zero_le _⟩ ?_
    exact rd_iret hx hb hr hlocks (by first | (rw [r_triangleTold, if_pos c_1]; done) | (rw [r_triangleTold, if_pos c_1]; rfl) | (simp only [r_triangleTold, c_1]; done) | (simp only [r_triangleTold, c_1]; rfl) | (simp [r_triangleTold, c_1, bI]; done)) dX2_triangleTold_19
  · refine lv_aload_n hx hb dX2_triangleTold_5 rfl (lv_at hl 0 rfl) ?_
    refine lv_iload_n hx hb dX2_triangleTold_6 rfl (lv_at hl 1 rfl) ?_
    refine lv_iload_n hx hb dX2_triangleTold_7 rfl (lv_at hl 2 rfl) ?_
    refine rd_cVi (As := [.int k, .int w]) (rest := []) F (c_X2_corner l dC dI cI cZ cY h qx qy qh qt qs rw th n xs ys hs t tb sg fl k w ik) (cwV 2 hts gX2_triangleTold_X2_corner rfl rfl rfl hd_X2_corner ⟨Nat.le_of_ble_eq_true rfl, Nat.le_of_ble_eq_true rfl⟩) hP hK (va_recv hK hP (ci := 2) (q0 := 0) rfl rfl) rfl hl.1 rfl (lv_room (Nat.le_of_ble_eq_true rfl)) dX2_triangleTold_8 ⟨Nat.zero_le _, Nat.zero_le _⟩ ?_
    refine lv_goto (tgt := 19) hx hb dX2_triangleTold_11 (by decide) ?_
    exact rd_iret hx hb hr hlocks (by first | (rw [r_triangleTold, if_neg c_1]; done) | (rw [r_triangleTold, if_neg c_1]; rfl) | (simp only [r_triangleTold, c_1]; done) | (simp only [r_triangleTold, c_1]; rfl) | (simp [r_triangleTold, c_1, bI]; done)) dX2_triangleTold_19
theorem hd_X2_edgeTold : yX2_edgeTold.cls = RX2 ∧ yX2_edgeTold.cls ≠ "java/lang/invoke/MethodHandle" ∧ yX2_edgeTold.cls ≠ "java/lang/invoke/VarHandle" ∧ (parseMethodDescriptor yX2_edgeTold.desc).map (fun d => d.parameters.length) = some 3 := by decide +kernel
theorem in_X2_edgeTold_X2 : ∀ w ∈ wsX20, w ∈ wsX2_edgeTold := by decide +kernel
theorem fl_X2_edgeTold_28 : (Cond.fieldLink RX2 28 "MoorTrianglesModel" "stays" "[[Z") ∈ wsX2_edgeTold := by decide +kernel
set_option maxHeartbeats 4000000 in
set_option maxRecDepth 100000 in
theorem c_X2_edgeTold (l : Launch) (dC : Nat → ClassId) (dI : Nat → Nat → Nat) (cI cZ cY : ClassId) (h qx qy qh qt qs : Nat) (rw : Nat → Nat) (th : Int32) (n : Nat) (xs ys hs : Nat → Int32) (t : Nat) (tb : Nat → Int32) (sg : Nat → Nat → Int32) (fl : Int32) (a : Int32) (b : Int32) (w : Int32) (ht : t ≤ 36) (ia : vp_in a 17) (ib : vp_in b 17) (hF : r_okF t tb a b) : Met l yX2_edgeTold wsX2_edgeTold ({ frames := 5, cells := 0, slots := 0, locals := 118 }) (va_Pc [.ref h, .int a, .int b, .int w] (fun U => va_P (dC, dI) vwCl (wR cI cZ cY h qx qy qh qt qs rw th n xs ys hs t tb sg fl) U.heap ∧ va_K (dC, dI) vwCl (gTY cI cZ cY) U)) (vp_Si (fun r => r = bI (r_eT t xs ys tb sg a b w))) 0 0 (fun _ => False) := by
  refine rd_start (cc := cX2_edgeTold) (maxL := 6) (ret := (some .int)) RX2 (by decide) rfl rfl (Nat.le_of_ble_eq_true rfl) ?_
  intro p e s m below meth c ⟨hx, hb, hr, hml, hown, hts, hlocks⟩ hP hK ls hl
  have F : CallFix p m c cX2_edgeTold 6 s ([.ref h, .int a, .int b, .int w] : List Value).toArray wsX2_edgeTold RX2 := ⟨hx, hb, hml, hown, hts⟩
  have hl : lv_has ls 6 [(0, .ref h), (1, .int a), (2, .int b), (3, .int w)] := hl
  refine lv_aload_n hx hb dX2_edgeTold_0 rfl (lv_at hl 0 rfl) ?_
  refine lv_iload_n hx hb dX2_edgeTold_1 rfl (lv_at hl 1 rfl) ?_
  refine lv_iload_n hx hb dX2_edgeTold_2 rfl (lv_at hl 2 rfl) ?_
  refine rd_cVi (As := [.int a, .int b]) (rest := []) F (c_X2_sides l dC dI cI cZ cY h qx qy qh qt qs rw th n xs ys hs t tb sg fl a b ht) (cwV 2 hts gX2_edgeTold_X2_sides rfl rfl rfl hd_X2_sides ⟨Nat.le_of_ble_eq_true rfl, Nat.le_of_ble_eq_true rfl⟩) hP hK (va_recv hK hP (ci := 2) (q0 := 0) rfl rfl) rfl hl.1 rfl (lv_room (Nat.le_of_ble_eq_true rfl)) dX2_edgeTold_3 ⟨Nat.zero_le _, Nat.zero_le _⟩ ?_
  refine lv_istore (lv' := [(4, .int (r_sides t tb a b)), (0, .ref h), (1, .int a), (2, .int b), (3, .int w)]) hx hb dX2_edgeTold_6 hl (by decide) rfl (fun ls hl => ?_)
  refine lv_iload_n hx hb dX2_edgeTold_8 rfl (lv_at hl 4 rfl) ?_
  refine lv_if_ne (tgt := 25) hx hb dX2_edgeTold_9 (by decide) (fun c_1 => ?_) (fun c_1 => ?_)
  · refine lv_iload_n hx hb dX2_edgeTold_25 rfl (lv_at hl 4 rfl) ?_
    refine lv_iconst (v := 1) hx hb dX2_edgeTold_26 (by decide) ?_
    refine lv_icmp_ne (tgt := 44) hx hb dX2_edgeTold_27 (by decide) (fun c_2 => ?_) (fun c_2 => ?_)
    · refine lv_iload_n hx hb dX2_edgeTold_44 rfl (lv_at hl 4 rfl) ?_
      refine lv_iconst (v := 2) hx hb dX2_edgeTold_45 (by decide) ?_
      refine lv_icmp_ne (tgt := 60) hx hb dX2_edgeTold_46 (by decide) (fun c_3 => ?_) (fun c_3 => ?_)
      · refine lv_iload_n hx hb dX2_edgeTold_60 rfl (lv_at hl 4 rfl) ?_
        refine lv_iconst (v := 3) hx hb dX2_edgeTold_61 (by decide) ?_
        refine lv_icmp_ne (tgt := 74) hx hb dX2_edgeTold_62 (by decide) (fun c_4 => ?_) (fun c_4 => ?_)
        · refine lv_aload_n hx hb dX2_edgeTold_74 rfl (lv_at hl 1 rfl) ?_
          refine lv_iload_n hx hb dX2_edgeTold_75 rfl (lv_at hl 2 rfl) ?_
          refine lv_iload_n hx hb dX2_edgeTold_76 rfl (lv_at hl 3 rfl) ?_
          refine rd_cVi (As := [.int a, .int b]) (rest := []) F (c_X2_canFlip l dC dI cI cZ cY h qx qy qh qt qs rw th n xs ys hs t tb sg fl a b ht ia ib (fun h => (hF h).1) (fun h => (hF h).2)) (cwV 2 hts gX2_edgeTold_X2_canFlip rfl rfl rfl hd_X2_canFlip ⟨Nat.le_of_ble_eq_true rfl, Nat.le_of_ble_eq_true rfl⟩) hP hK (va_recv hK hP (ci := 2) (q0 := 0) rfl rfl) rfl hl.1 rfl (lv_room (Nat.le_of_ble_eq_true rfl)) dX2_edgeTold_77 ⟨Nat.zero_le _, Nat.zero_le _⟩ ?_
          refine lv_istore (lv' := [(5, .int (bI (r_canFlip t xs ys tb sg a b))), (4, .int (r_sides t tb a b)), (0, .ref h), (1, .int a), (2, .int b), (3, .int w)]) hx hb dX2_edgeTold_80 hl (by decide) rfl (fun ls hl => ?_)
          refine lv_iload hx hb dX2_edgeTold_82 (lv_at hl 1 rfl) ?_
          refine lv_if_le (tgt := 96) hx hb dX2_edgeTold_84 (by decide) (fun c_5 => ?_) (fun c_5 => ?_)
          · refine lv_iconst (v := 0) hx hb dX2_edgeTold_96 (by decide) ?_
            exact rd_iret hx hb hr hlocks (by first | contradiction | (exfalso; revert c_5; decide) | (exact absurd c_5 (by rw [c_4]; decide)) | (simp [r_eT, r_is, bI, c_1, c_2, c_3, c_4, c_5]; done)) dX2_edgeTold_97
          · refine lv_iload hx hb dX2_edgeTold_87 (lv_at hl 0 rfl) ?_
            refine lv_if_eqB (tgt := 96) hx hb dX2_edgeTold_89 (by decide) (fun c_6 => ?_) (fun c_6 => ?_)
            · refine lv_iconst (v := 0) hx hb dX2_edgeTold_96 (by decide) ?_
              exact rd_iret hx hb hr hlocks (by first | contradiction | (exfalso; revert c_6; decide) | (exact absurd c_6 (by rw [c_5]; decide)) | (simp [r_eT, r_is, bI, c_1, c_2, c_3, c_4, c_5, c_6]; done)) dX2_edgeTold_97
            · refine lv_iconst (v := 1) hx hb dX2_edgeTold_92 (by decide) ?_
              refine lv_goto (tgt := 97) hx hb dX2_edgeTold_93 (by decide) ?_
              exact rd_iret hx hb hr hlocks (by first | contradiction | (exfalso; revert c_6; decide) | (exact absurd c_6 (by rw [c_5]; decide)) | (simp [r_eT, r_is, bI, c_1, c_2, c_3, c_4, c_5, c_6]; done)) dX2_edgeTold_97
        · refine lv_aload_n hx hb dX2_edgeTold_65 rfl (lv_at hl 1 rfl) ?_
          refine lv_iload_n hx hb dX2_edgeTold_66 rfl (lv_at hl 2 rfl) ?_
          refine lv_iload_n hx hb dX2_edgeTold_67 rfl (lv_at hl 3 rfl) ?_
          refine rd_cVi (As := [.int a, .int b]) (rest := []) F (c_X2_isUnfair l dC dI cI cZ cY h qx qy qh qt qs rw th n xs ys hs t tb sg fl a b ht ia ib (fun h => (hF h).1) (fun h => (hF h).2)) (cwV 2 hts gX2_edgeTold_X2_isUnfair rfl rfl rfl hd_X2_isUnfair ⟨Nat.le_of_ble_eq_true rfl, Nat.le_of_ble_eq_true rfl⟩) hP hK (va_recv hK hP (ci := 2) (q0 := 0) rfl rfl) rfl hl.1 rfl (lv_room (Nat.le_of_ble_eq_true rfl)) dX2_edgeTold_68 ⟨Nat.zero_le _, Nat.zero_le _⟩ ?_
          refine lv_goto (tgt := 80) hx hb dX2_edgeTold_71 (by decide) ?_
          refine lv_istore (lv' := [(5, .int (bI (r_isUnfair t xs ys tb a b))), (4, .int (r_sides t tb a b)), (0, .ref h), (1, .int a), (2, .int b), (3, .int w)]) hx hb dX2_edgeTold_80 hl (by decide) rfl (fun ls hl => ?_)
          refine lv_iload hx hb dX2_edgeTold_82 (lv_at hl 1 rfl) ?_
          refine lv_if_le (tgt := 96) hx hb dX2_edgeTold_84 (by decide) (fun c_7 => ?_) (fun c_7 => ?_)
          · refine lv_iconst (v := 0) hx hb dX2_edgeTold_96 (by decide) ?_
            exact rd_iret hx hb hr hlocks (by first | contradiction | (exfalso; revert c_7; decide) | (exact absurd c_7 (by rw [c_4]; decide)) | (simp [r_eT, r_is, bI, c_1, c_2, c_3, c_4, c_7]; done)) dX2_edgeTold_97
          · refine lv_iload hx hb dX2_edgeTold_87 (lv_at hl 0 rfl) ?_
            refine lv_if_eqB (tgt := 96) hx hb dX2_edgeTold_89 (by decide) (fun c_8 => ?_) (fun c_8 => ?_)
            · refine lv_iconst (v := 0) hx hb dX2_edgeTold_96 (by decide) ?_
              exact rd_iret hx hb hr hlocks (by first | contradiction | (exfalso; revert c_8; decide) | (exact absurd c_8 (by rw [c_7]; decide)) | (simp [r_eT, r_is, bI, c_1, c_2, c_3, c_4, c_7, c_8]; done)) dX2_edgeTold_97
            · refine lv_iconst (v := 1) hx hb dX2_edgeTold_92 (by decide) ?_
              refine lv_goto (tgt := 97) hx hb dX2_edgeTold_93 (by decide) ?_
              exact rd_iret hx hb hr hlocks (by first | contradiction | (exfalso; revert c_8; decide) | (exact absurd c_8 (by rw [c_7]; decide)) | (simp [r_eT, r_is, bI, c_1, c_2, c_3, c_4, c_7, c_8]; done)) dX2_edgeTold_97
      · refine lv_aload_n hx hb dX2_edgeTold_49 rfl (lv_at hl 1 rfl) ?_
        refine va_get (D := (dC, dI)) (ci := 2) (v := .ref qs) (C := RX2) (T := TX2) (N := 9) hx hb hts in_X2_edgeTold_X2 hown hK hP 0 rfl rfl 7 (by decide) (hts (.fieldLink RX2 28 "MoorTrianglesModel" "stays" "[[Z") fl_X2_edgeTold_28) (fun _ h9 => h9) rfl dX2_edgeTold_50 ?_
        refine lv_iload_n hx hb dX2_edgeTold_53 rfl (lv_at hl 2 rfl) ?_
        refine rg_aald (D := (dC, dI)) hx hb hK hP 5 2 rfl rfl ia dX2_edgeTold_54 ?_
        refine lv_iload_n hx hb dX2_edgeTold_55 rfl (lv_at hl 3 rfl) ?_
        refine va_zald (D := (dC, dI)) hx hb hK hP (6 + a.toNatClampNeg) 1 (wR_row (in_lt ia)) rfl ib dX2_edgeTold_56 ?_
        refine lv_goto (tgt := 80) hx hb dX2_edgeTold_57 (by decide) ?_
        refine lv_istore (lv' := [(5, .int (sg a.toNatClampNeg b.toNatClampNeg)), (4, .int (r_sides t tb a b)), (0, .ref h), (1, .int a), (2, .int b), (3, .int w)]) hx hb dX2_edgeTold_80 hl (by decide) rfl (fun ls hl => ?_)
        refine lv_iload hx hb dX2_edgeTold_82 (lv_at hl 1 rfl) ?_
        refine lv_if_le (tgt := 96) hx hb dX2_edgeTold_84 (by decide) (fun c_9 => ?_) (fun c_9 => ?_)
        · refine lv_iconst (v := 0) hx hb dX2_edgeTold_96 (by decide) ?_
          exact rd_iret hx hb hr hlocks (by first | contradiction | (exfalso; revert c_9; decide) | (exact absurd c_9 (by rw [c_3]; decide)) | (simp [r_eT, r_is, bI, c_1, c_2, c_3, c_9]; done)) dX2_edgeTold_97
        · refine lv_iload hx hb dX2_edgeTold_87 (lv_at hl 0 rfl) ?_
          refine lv_if_eq (tgt := 96) hx hb dX2_edgeTold_89 (by decide) (fun c_10 => ?_) (fun c_10 => ?_)
          · refine lv_iconst (v := 0) hx hb dX2_edgeTold_96 (by decide) ?_
            exact rd_iret hx hb hr hlocks (by first | contradiction | (exfalso; revert c_10; decide) | (exact absurd c_10 (by rw [c_9]; decide)) | (simp [r_eT, r_is, bI, c_1, c_2, c_3, c_9, c_10]; done)) dX2_edgeTold_97
          · refine lv_iconst (v := 1) hx hb dX2_edgeTold_92 (by decide) ?_
            refine lv_goto (tgt := 97) hx hb dX2_edgeTold_93 (by decide) ?_
            exact rd_iret hx hb hr hlocks (by first | contradiction | (exfalso; revert c_10; decide) | (exact absurd c_10 (by rw [c_9]; decide)) | (simp [r_eT, r_is, bI, c_1, c_2, c_3, c_9, c_10]; done)) dX2_edgeTold_97
    · refine lv_iload hx hb dX2_edgeTold_30 (lv_at hl 0 rfl) ?_
      refine lv_iconst (v := 1) hx hb dX2_edgeTold_32 (by decide) ?_
      refine lv_icmp_ne (tgt := 40) hx hb dX2_edgeTold_33 (by decide) (fun c_11 => ?_) (fun c_11 => ?_)
      · refine lv_iconst (v := 0) hx hb dX2_edgeTold_40 (by decide) ?_
        refine lv_goto (tgt := 80) hx hb dX2_edgeTold_41 (by decide) ?_
        refine lv_istore (lv' := [(5, .int 0), (4, .int (r_sides t tb a b)), (0, .ref h), (1, .int a), (2, .int b), (3, .int w)]) hx hb dX2_edgeTold_80 hl (by decide) rfl (fun ls hl => ?_)
        refine lv_iload hx hb dX2_edgeTold_82 (lv_at hl 1 rfl) ?_
        refine lv_if_le (tgt := 96) hx hb dX2_edgeTold_84 (by decide) (fun c_12 => ?_) (fun c_12 => ?_)
        · refine lv_iconst (v := 0) hx hb dX2_edgeTold_96 (by decide) ?_
          exact rd_iret hx hb hr hlocks (by first | contradiction | (exfalso; revert c_12; decide) | (exact absurd c_12 (by rw [c_11]; decide)) | (simp [r_eT, r_is, bI, c_1, c_2, c_11, c_12]; done)) dX2_edgeTold_97
        · refine lv_iload hx hb dX2_edgeTold_87 (lv_at hl 0 rfl) ?_
          refine lv_if_eq (tgt := 96) hx hb dX2_edgeTold_89 (by decide) (fun c_13 => ?_) (fun c_13 => ?_)
          · refine lv_iconst (v := 0) hx hb dX2_edgeTold_96 (by decide) ?_
            exact rd_iret hx hb hr hlocks (by first | contradiction | (exfalso; revert c_13; decide) | (exact absurd c_13 (by rw [c_12]; decide)) | (simp [r_eT, r_is, bI, c_1, c_2, c_11, c_12, c_13]; done)) dX2_edgeTold_97
          · refine lv_iconst (v := 1) hx hb dX2_edgeTold_92 (by decide) ?_
            refine lv_goto (tgt := 97) hx hb dX2_edgeTold_93 (by decide) ?_
            exact rd_iret hx hb hr hlocks (by first | contradiction | (exfalso; revert c_13; decide) | (exact absurd c_13 (by rw [c_12]; decide)) | (simp [r_eT, r_is, bI, c_1, c_2, c_11, c_12, c_13]; done)) dX2_edgeTold_97
      · refine lv_iconst (v := 1) hx hb dX2_edgeTold_36 (by decide) ?_
        refine lv_goto (tgt := 80) hx hb dX2_edgeTold_37 (by decide) ?_
        refine lv_istore (lv' := [(5, .int 1), (4, .int (r_sides t tb a b)), (0, .ref h), (1, .int a), (2, .int b), (3, .int w)]) hx hb dX2_edgeTold_80 hl (by decide) rfl (fun ls hl => ?_)
        refine lv_iload hx hb dX2_edgeTold_82 (lv_at hl 1 rfl) ?_
        refine lv_if_le (tgt := 96) hx hb dX2_edgeTold_84 (by decide) (fun c_14 => ?_) (fun c_14 => ?_)
        · refine lv_iconst (v := 0) hx hb dX2_edgeTold_96 (by decide) ?_
          exact rd_iret hx hb hr hlocks (by first | contradiction | (exfalso; revert c_14; decide) | (exact absurd c_14 (by rw [c_11]; decide)) | (simp [r_eT, r_is, bI, c_1, c_2, c_11, c_14]; done)) dX2_edgeTold_97
        · refine lv_iload hx hb dX2_edgeTold_87 (lv_at hl 0 rfl) ?_
          refine lv_if_eq (tgt := 96) hx hb dX2_edgeTold_89 (by decide) (fun c_15 => ?_) (fun c_15 => ?_)
          · refine lv_iconst (v := 0) hx hb dX2_edgeTold_96 (by decide) ?_
            exact rd_iret hx hb hr hlocks (by first | contradiction | (exfalso; revert c_15; decide) | (exact absurd c_15 (by rw [c_14]; decide)) | (simp [r_eT, r_is, bI, c_1, c_2, c_11, c_14, c_15]; done)) dX2_edgeTold_97
          · refine lv_iconst (v := 1) hx hb dX2_edgeTold_92 (by decide) ?_
            refine lv_goto (tgt := 97) hx hb dX2_edgeTold_93 (by decide) ?_
            exact rd_iret hx hb hr hlocks (by first | contradiction | (exfalso; revert c_15; decide) | (exact absurd c_15 (by rw [c_14]; decide)) | (simp [r_eT, r_is, bI, c_1, c_2, c_11, c_14, c_15]; done)) dX2_edgeTold_97
  · refine lv_iload hx hb dX2_edgeTold_12 (lv_at hl 0 rfl) ?_
    refine lv_if_le (tgt := 21) hx hb dX2_edgeTold_14 (by decide) (fun c_16 => ?_) (fun c_16 => ?_)
    · refine lv_iconst (v := 0) hx hb dX2_edgeTold_21 (by decide) ?_
      refine lv_goto (tgt := 80) hx hb dX2_edgeTold_22 (by decide) ?_
      refine lv_istore (lv' := [(5, .int 0), (4, .int (r_sides t tb a b)), (0, .ref h), (1, .int a), (2, .int b), (3, .int w)]) hx hb dX2_edgeTold_80 hl (by decide) rfl (fun ls hl => ?_)
      refine lv_iload hx hb dX2_edgeTold_82 (lv_at hl 1 rfl) ?_
      refine lv_if_le (tgt := 96) hx hb dX2_edgeTold_84 (by decide) (fun c_17 => ?_) (fun c_17 => ?_)
      · refine lv_iconst (v := 0) hx hb dX2_edgeTold_96 (by decide) ?_
        exact rd_iret hx hb hr hlocks (by first | contradiction | (exfalso; revert c_17; decide) | (exact absurd c_17 (by rw [c_16]; decide)) | (simp [r_eT, r_is, bI, c_1, c_16, c_17]; done)) dX2_edgeTold_97
      · refine lv_iload hx hb dX2_edgeTold_87 (lv_at hl 0 rfl) ?_
        refine lv_if_eq (tgt := 96) hx hb dX2_edgeTold_89 (by decide) (fun c_18 => ?_) (fun c_18 => ?_)
        · refine lv_iconst (v := 0) hx hb dX2_edgeTold_96 (by decide) ?_
          exact rd_iret hx hb hr hlocks (by first | contradiction | (exfalso; revert c_18; decide) | (exact absurd c_18 (by rw [c_17]; decide)) | (simp [r_eT, r_is, bI, c_1, c_16, c_17, c_18]; done)) dX2_edgeTold_97
        · refine lv_iconst (v := 1) hx hb dX2_edgeTold_92 (by decide) ?_
          refine lv_goto (tgt := 97) hx hb dX2_edgeTold_93 (by decide) ?_
          exact rd_iret hx hb hr hlocks (by first | contradiction | (exfalso; revert c_18; decide) | (exact absurd c_18 (by rw [c_17]; decide)) | (simp [r_eT, r_is, bI, c_1, c_16, c_17, c_18]; done)) dX2_edgeTold_97
    · refine lv_iconst (v := 1) hx hb dX2_edgeTold_17 (by decide) ?_
      refine lv_goto (tgt := 80) hx hb dX2_edgeTold_18 (by decide) ?_
      refine lv_istore (lv' := [(5, .int 1), (4, .int (r_sides t tb a b)), (0, .ref h), (1, .int a), (2, .int b), (3, .int w)]) hx hb dX2_edgeTold_80 hl (by decide) rfl (fun ls hl => ?_)
      refine lv_iload hx hb dX2_edgeTold_82 (lv_at hl 1 rfl) ?_
      refine lv_if_le (tgt := 96) hx hb dX2_edgeTold_84 (by decide) (fun c_19 => ?_) (fun c_19 => ?_)
      · refine lv_iconst (v := 0) hx hb dX2_edgeTold_96 (by decide) ?_
        exact rd_iret hx hb hr hlocks (by first | contradiction | (exfalso; revert c_19; decide) | (exact absurd c_19 (by rw [c_16]; decide)) | (simp [r_eT, r_is, bI, c_1, c_16, c_19]; done)) dX2_edgeTold_97
      · refine lv_iload hx hb dX2_edgeTold_87 (lv_at hl 0 rfl) ?_
        refine lv_if_eq (tgt := 96) hx hb dX2_edgeTold_89 (by decide) (fun c_20 => ?_) (fun c_20 => ?_)
        · refine lv_iconst (v := 0) hx hb dX2_edgeTold_96 (by decide) ?_
          exact rd_iret hx hb hr hlocks (by first | contradiction | (exfalso; revert c_20; decide) | (exact absurd c_20 (by rw [c_19]; decide)) | (simp [r_eT, r_is, bI, c_1, c_16, c_19, c_20]; done)) dX2_edgeTold_97
        · refine lv_iconst (v := 1) hx hb dX2_edgeTold_92 (by decide) ?_
          refine lv_goto (tgt := 97) hx hb dX2_edgeTold_93 (by decide) ?_
          exact rd_iret hx hb hr hlocks (by first | contradiction | (exfalso; revert c_20; decide) | (exact absurd c_20 (by rw [c_19]; decide)) | (simp [r_eT, r_is, bI, c_1, c_16, c_19, c_20]; done)) dX2_edgeTold_97
theorem hd_X2_edges : yX2_edges.cls = RX2 ∧ yX2_edges.cls ≠ "java/lang/invoke/MethodHandle" ∧ yX2_edges.cls ≠ "java/lang/invoke/VarHandle" ∧ (parseMethodDescriptor yX2_edges.desc).map (fun d => d.parameters.length) = some 1 := by decide +kernel
theorem in_X2_edges_X2 : ∀ w ∈ wsX20, w ∈ wsX2_edges := by decide +kernel
theorem fl_X2_edges_7 : (Cond.fieldLink RX2 7 "MoorTrianglesModel" "cairns" "I") ∈ wsX2_edges := by decide +kernel
set_option maxHeartbeats 4000000 in
set_option maxRecDepth 100000 in
theorem c_X2_edges (l : Launch) (dC : Nat → ClassId) (dI : Nat → Nat → Nat) (cI cZ cY : ClassId) (h qx qy qh qt qs : Nat) (rw : Nat → Nat) (th : Int32) (n : Nat) (xs ys hs : Nat → Int32) (t : Nat) (tb : Nat → Int32) (sg : Nat → Nat → Int32) (fl : Int32) (w : Int32) (ht : t ≤ 36) (hn : n ≤ 17) (hFF : ∀ a b, a < n → b < n → r_okF t tb (nI a) (nI b)) : Met l yX2_edges wsX2_edges ({ frames := 6, cells := 0, slots := 0, locals := 143 }) (va_Pc [.ref h, .int w] (fun U => va_P (dC, dI) vwCl (wR cI cZ cY h qx qy qh qt qs rw th n xs ys hs t tb sg fl) U.heap ∧ va_K (dC, dI) vwCl (gTY cI cZ cY) U)) (vp_Si (fun r => r = r_edges n t xs ys tb sg w)) 0 0 (fun _ => False) := by
  refine rd_start (cc := cX2_edges) (maxL := 5) (ret := (some .int)) RX2 (by decide) rfl rfl (Nat.le_of_ble_eq_true rfl) ?_
  intro p e s m below meth c ⟨hx, hb, hr, hml, hown, hts, hlocks⟩ hP hK ls hl
  have F : CallFix p m c cX2_edges 5 s ([.ref h, .int w] : List Value).toArray wsX2_edges RX2 := ⟨hx, hb, hml, hown, hts⟩
  have hl : lv_has ls 5 [(0, .ref h), (1, .int w)] := hl
  refine lv_iconst (v := 0) hx hb dX2_edges_0 (by decide) ?_
  refine lv_istore_n (lv' := [(2, .int 0), (0, .ref h), (1, .int w)]) hx hb dX2_edges_1 rfl hl (by decide) rfl (fun ls hl => ?_)
  refine lv_iconst (v := 0) hx hb dX2_edges_2 (by decide) ?_
  refine lv_istore_n (lv' := [(3, .int 0), (2, .int 0), (0, .ref h), (1, .int w)]) hx hb dX2_edges_3 rfl hl (by decide) rfl (fun ls hl => ?_)
  have hL4 : ∀ (k_1 : Nat) (i : Nat), (n - i) < k_1 → (i ≤ n) → ∀ ls : Array Slot, lv_has ls 5 [(3, .int (nI i)), (2, .int (nI (rg_sum (r_rET n t xs ys tb sg w) i))), (0, .ref h), (1, .int w)] → W p l e ({ frames := 6, cells := 0, slots := 0, locals := 143 } : Room) s m ([.ref h, .int w] : List Value).toArray below meth c s.heap [] 0 0 (MQ below (vp_Si (fun r => r = r_edges n t xs ys tb sg w)) ([.ref h, .int w] : List Value).toArray s 0 0 (fun _ => False)) (F0 m 4 ls []) := by
    intro k_1
    induction k_1 with
    | zero => intro i hk; exact absurd hk (Nat.not_lt_zero _)
    | succ k_1 ih_2 =>
      intro i hk_4 hi_i ls hl
      refine lv_iload_n hx hb dX2_edges_4 rfl (lv_at hl 0 rfl) ?_
      refine lv_aload_n hx hb dX2_edges_5 rfl (lv_at hl 2 rfl) ?_
      refine va_get (D := (dC, dI)) (ci := 2) (v := .int (nI n)) (C := RX2) (T := TX2) (N := 9) hx hb hts in_X2_edges_X2 hown hK hP 0 rfl rfl 1 (by decide) (hts (.fieldLink RX2 7 "MoorTrianglesModel" "cairns" "I") fl_X2_edges_7) (fun _ h9 => h9) rfl dX2_edges_6 ?_
      refine lv_icmp_ge (tgt := 49) hx hb dX2_edges_9 (by decide) (fun c_3 => ?_) (fun c_3 => ?_)
      · have hge_i : n ≤ i := nI_le_le (by omega) (by omega) c_3
        have heq_i : i = n := by omega
        have hl : lv_has ls 5 [(3, .int (nI n)), (2, .int (nI (rg_sum (r_rET n t xs ys tb sg w) n))), (0, .ref h), (1, .int w)] := by rw [heq_i] at hl; exact hl
        refine lv_iload_n hx hb dX2_edges_49 rfl (lv_at hl 1 rfl) ?_
        exact rd_iret hx hb hr hlocks (by rfl) dX2_edges_50
      · have hlt_i : i < n := nI_nle_lt (by omega) (by omega) c_3
        refine lv_iload_n hx hb dX2_edges_12 rfl (lv_at hl 0 rfl) ?_
        refine lv_iconst (v := 1) hx hb dX2_edges_13 (by decide) ?_
        refine lv_iadd hx hb dX2_edges_14 ?_
        refine lv_istore (lv' := [(4, .int ((nI i) + 1)), (3, .int (nI i)), (2, .int (nI (rg_sum (r_rET n t xs ys tb sg w) i))), (0, .ref h), (1, .int w)]) hx hb dX2_edges_15 hl (by decide) rfl (fun ls hl => ?_)
        have hL17 : ∀ (k_4 : Nat) (j : Nat), (n - j) < k_4 → (j ≤ n) → (i < j) → ∀ ls : Array Slot, lv_has ls 5 [(4, .int (nI j)), (2, .int (nI (rg_sum (r_rET n t xs ys tb sg w) i + rg_ct (r_pET t xs ys tb sg w i) j))), (3, .int (nI i)), (0, .ref h), (1, .int w)] → W p l e ({ frames := 6, cells := 0, slots := 0, locals := 143 } : Room) s m ([.ref h, .int w] : List Value).toArray below meth c s.heap [] 0 0 (MQ below (vp_Si (fun r => r = r_edges n t xs ys tb sg w)) ([.ref h, .int w] : List Value).toArray s 0 0 (fun _ => False)) (F0 m 17 ls []) := by
          intro k_4
          induction k_4 with
          | zero => intro j hk; exact absurd hk (Nat.not_lt_zero _)
          | succ k_4 ih_5 =>
            intro j hk_17 hi_j hij ls hl
            refine lv_iload hx hb dX2_edges_17 (lv_at hl 0 rfl) ?_
            refine lv_aload_n hx hb dX2_edges_19 rfl (lv_at hl 3 rfl) ?_
            refine va_get (D := (dC, dI)) (ci := 2) (v := .int (nI n)) (C := RX2) (T := TX2) (N := 9) hx hb hts in_X2_edges_X2 hown hK hP 0 rfl rfl 1 (by decide) (hts (.fieldLink RX2 7 "MoorTrianglesModel" "cairns" "I") fl_X2_edges_7) (fun _ h9 => h9) rfl dX2_edges_20 ?_
            refine lv_icmp_ge (tgt := 43) hx hb dX2_edges_23 (by decide) (fun c_6 => ?_) (fun c_6 => ?_)
            · have hge_j : n ≤ j := nI_le_le (by omega) (by omega) c_6
              have heq_j : j = n := by omega
              have hl : lv_has ls 5 [(4, .int (nI n)), (2, .int (nI (rg_sum (r_rET n t xs ys tb sg w) i + rg_ct (r_pET t xs ys tb sg w i) n))), (3, .int (nI i)), (0, .ref h), (1, .int w)] := by rw [heq_j] at hl; exact hl
              refine lv_iinc (v := nI (i + 1)) (lv' := [(3, .int (nI (i + 1))), (4, .int (nI n)), (2, .int (nI (rg_sum (r_rET n t xs ys tb sg w) i + rg_ct (r_pET t xs ys tb sg w i) n))), (0, .ref h), (1, .int w)]) hx hb dX2_edges_43 hl (k := 2) rfl (nI_1 _) (by decide) rfl (fun ls hl => ?_)
              refine lv_goto (tgt := 4) hx hb dX2_edges_46 (by decide) ?_
              have hl := lv_sub (l' := [(3, .int (nI (i + 1))), (2, .int (nI (rg_sum (r_rET n t xs ys tb sg w) i + rg_ct (r_pET t xs ys tb sg w i) n))), (0, .ref h), (1, .int w)]) hl [0, 2, 3, 4] rfl
              have hl : lv_has ls 5 [(3, .int (nI (i + 1))), (2, .int (nI (rg_sum (r_rET n t xs ys tb sg w) (i + 1)))), (0, .ref h), (1, .int w)] := by
                have e9 : [(3, .int (nI (i + 1))), (2, .int (nI (rg_sum (r_rET n t xs ys tb sg w) i + rg_ct (r_pET t xs ys tb sg w i) n))), (0, .ref h), (1, .int w)] = ([(3, .int (nI (i + 1))), (2, .int (nI (rg_sum (r_rET n t xs ys tb sg w) (i + 1)))), (0, .ref h), (1, .int w)] : List (Nat × Value)) := by rfl
                rw [← e9]; exact hl
              exact ih_2 (i + 1) (by omega) (by omega) _ hl
            · have hlt_j : j < n := nI_nle_lt (by omega) (by omega) c_6
              refine lv_iload_n hx hb dX2_edges_26 rfl (lv_at hl 1 rfl) ?_
              refine lv_aload_n hx hb dX2_edges_27 rfl (lv_at hl 3 rfl) ?_
              refine lv_iload_n hx hb dX2_edges_28 rfl (lv_at hl 2 rfl) ?_
              refine lv_iload hx hb dX2_edges_29 (lv_at hl 0 rfl) ?_
              refine lv_iload_n hx hb dX2_edges_31 rfl (lv_at hl 4 rfl) ?_
              refine rd_cVi (As := [.int (nI i), .int (nI j), .int w]) (rest := [.int (nI (rg_sum (r_rET n t xs ys tb sg w) i + rg_ct (r_pET t xs ys tb sg w i) j))]) F (c_X2_edgeTold l dC dI cI cZ cY h qx qy qh qt qs rw th n xs ys hs t tb sg fl (nI i) (nI j) w ht (vp_in_nI (by omega) (by decide)) (vp_in_nI (by omega) (by decide)) (hFF i j hlt_i hlt_j)) (cwV 3 hts gX2_edges_X2_edgeTold rfl rfl rfl hd_X2_edgeTold ⟨Nat.le_of_ble_eq_true rfl, Nat.le_of_ble_eq_true rfl⟩) hP hK (va_recv hK hP (ci := 2) (q0 := 0) rfl rfl) rfl hl.1 rfl (lv_room (Nat.le_of_ble_eq_true rfl)) dX2_edges_32 ⟨Nat.zero_le _, Nat.zero_le _⟩ ?_
              refine lv_iadd hx hb dX2_edges_35 ?_
              refine lv_cvi (nI_bI _ _) ?_
              refine lv_istore_n (lv' := [(2, .int (nI ((rg_sum (r_rET n t xs ys tb sg w) i + rg_ct (r_pET t xs ys tb sg w i) j) + (if (r_eT t xs ys tb sg (nI i) (nI j) w) = true then 1 else 0)))), (4, .int (nI j)), (3, .int (nI i)), (0, .ref h), (1, .int w)]) hx hb dX2_edges_36 rfl hl (by decide) rfl (fun ls hl => ?_)
              refine lv_iinc (v := nI (j + 1)) (lv' := [(4, .int (nI (j + 1))), (2, .int (nI ((rg_sum (r_rET n t xs ys tb sg w) i + rg_ct (r_pET t xs ys tb sg w i) j) + (if (r_eT t xs ys tb sg (nI i) (nI j) w) = true then 1 else 0)))), (3, .int (nI i)), (0, .ref h), (1, .int w)]) hx hb dX2_edges_37 hl (k := 1) rfl (nI_1 _) (by decide) rfl (fun ls hl => ?_)
              refine lv_goto (tgt := 17) hx hb dX2_edges_40 (by decide) ?_
              have hl := lv_sub (l' := [(4, .int (nI (j + 1))), (2, .int (nI ((rg_sum (r_rET n t xs ys tb sg w) i + rg_ct (r_pET t xs ys tb sg w i) j) + (if (r_eT t xs ys tb sg (nI i) (nI j) w) = true then 1 else 0)))), (3, .int (nI i)), (0, .ref h), (1, .int w)]) hl [0, 1, 2, 3, 4] rfl
              have hl : lv_has ls 5 [(4, .int (nI (j + 1))), (2, .int (nI (rg_sum (r_rET n t xs ys tb sg w) i + rg_ct (r_pET t xs ys tb sg w i) (j + 1)))), (3, .int (nI i)), (0, .ref h), (1, .int w)] := by
                have e9 : [(4, .int (nI (j + 1))), (2, .int (nI ((rg_sum (r_rET n t xs ys tb sg w) i + rg_ct (r_pET t xs ys tb sg w i) j) + (if (r_eT t xs ys tb sg (nI i) (nI j) w) = true then 1 else 0)))), (3, .int (nI i)), (0, .ref h), (1, .int w)] = ([(4, .int (nI (j + 1))), (2, .int (nI (rg_sum (r_rET n t xs ys tb sg w) i + rg_ct (r_pET t xs ys tb sg w i) (j + 1)))), (3, .int (nI i)), (0, .ref h), (1, .int w)] : List (Nat × Value)) := by rw [← r_pET_hi hij, Nat.add_assoc]; rfl
                rw [← e9]; exact hl
              exact ih_5 (j + 1) (by omega) (by omega) (by omega) _ hl
        have hl := lv_sub (l' := [(4, .int ((nI i) + 1)), (2, .int (nI (rg_sum (r_rET n t xs ys tb sg w) i))), (3, .int (nI i)), (0, .ref h), (1, .int w)]) hl [0, 2, 1, 3, 4] rfl
        have hl : lv_has ls 5 [(4, .int (nI (i + 1))), (2, .int (nI (rg_sum (r_rET n t xs ys tb sg w) i + rg_ct (r_pET t xs ys tb sg w i) (i + 1)))), (3, .int (nI i)), (0, .ref h), (1, .int w)] := by
          have e9 : [(4, .int ((nI i) + 1)), (2, .int (nI (rg_sum (r_rET n t xs ys tb sg w) i))), (3, .int (nI i)), (0, .ref h), (1, .int w)] = ([(4, .int (nI (i + 1))), (2, .int (nI (rg_sum (r_rET n t xs ys tb sg w) i + rg_ct (r_pET t xs ys tb sg w i) (i + 1)))), (3, .int (nI i)), (0, .ref h), (1, .int w)] : List (Nat × Value)) := by rw [rg_ct_0 (fun j hj => r_pET_lo hj), nI_1]; try rfl
          rw [← e9]; exact hl
        exact hL17 _ (i + 1) (Nat.lt_succ_self _) (by omega) (by omega) _ hl
  have hl := lv_sub (l' := [(3, .int 0), (2, .int 0), (0, .ref h), (1, .int w)]) hl [0, 1, 2, 3] rfl
  have hl : lv_has ls 5 [(3, .int (nI 0)), (2, .int (nI (rg_sum (r_rET n t xs ys tb sg w) 0))), (0, .ref h), (1, .int w)] := by
    have e9 : [(3, .int 0), (2, .int 0), (0, .ref h), (1, .int w)] = ([(3, .int (nI 0)), (2, .int (nI (rg_sum (r_rET n t xs ys tb sg w) 0))), (0, .ref h), (1, .int w)] : List (Nat × Value)) := by rfl
    rw [← e9]; exact hl
  exact hL4 _ 0 (Nat.lt_succ_self _) (by omega) _ hl
theorem hd_X2_counted : yX2_counted.cls = RX2 ∧ yX2_counted.cls ≠ "java/lang/invoke/MethodHandle" ∧ yX2_counted.cls ≠ "java/lang/invoke/VarHandle" ∧ (parseMethodDescriptor yX2_counted.desc).map (fun d => d.parameters.length) = some 1 := by decide +kernel
theorem in_X2_counted_X2 : ∀ w ∈ wsX20, w ∈ wsX2_counted := by decide +kernel
theorem fl_X2_counted_100 : (Cond.fieldLink RX2 100 "MoorTrianglesModel" "flips" "I") ∈ wsX2_counted := by decide +kernel
theorem fl_X2_counted_55 : (Cond.fieldLink RX2 55 "MoorTrianglesModel" "triangles" "I") ∈ wsX2_counted := by decide +kernel
theorem fl_X2_counted_7 : (Cond.fieldLink RX2 7 "MoorTrianglesModel" "cairns" "I") ∈ wsX2_counted := by decide +kernel
set_option maxHeartbeats 4000000 in
set_option maxRecDepth 100000 in
theorem c_X2_counted (l : Launch) (dC : Nat → ClassId) (dI : Nat → Nat → Nat) (cI cZ cY : ClassId) (h qx qy qh qt qs : Nat) (rw : Nat → Nat) (th : Int32) (n : Nat) (xs ys hs : Nat → Int32) (t : Nat) (tb : Nat → Int32) (sg : Nat → Nat → Int32) (fl : Int32) (w : Int32) (ht : t ≤ 36) (hn : n ≤ 17) (hFF : ∀ a b, a < n → b < n → r_okF t tb (nI a) (nI b)) : Met l yX2_counted wsX2_counted ({ frames := 7, cells := 0, slots := 0, locals := 167 }) (va_Pc [.ref h, .int w] (fun U => va_P (dC, dI) vwCl (wR cI cZ cY h qx qy qh qt qs rw th n xs ys hs t tb sg fl) U.heap ∧ va_K (dC, dI) vwCl (gTY cI cZ cY) U)) (vp_Si (fun r => r = r_counted n t xs ys tb sg fl w)) 0 0 (fun _ => False) := by
  refine rd_start (cc := cX2_counted) (maxL := 2) (ret := (some .int)) RX2 (by decide) rfl rfl (Nat.le_of_ble_eq_true rfl) ?_
  intro p e s m below meth c ⟨hx, hb, hr, hml, hown, hts, hlocks⟩ hP hK ls hl
  have F : CallFix p m c cX2_counted 2 s ([.ref h, .int w] : List Value).toArray wsX2_counted RX2 := ⟨hx, hb, hml, hown, hts⟩
  have hl : lv_has ls 2 [(0, .ref h), (1, .int w)] := hl
  refine lv_iload_n hx hb dX2_counted_0 rfl (lv_at hl 1 rfl) ?_
  refine lv_if_ne (tgt := 11) hx hb dX2_counted_1 (by decide) (fun c_1 => ?_) (fun c_1 => ?_)
  · refine lv_iload_n hx hb dX2_counted_11 rfl (lv_at hl 1 rfl) ?_
    refine lv_iconst (v := 1) hx hb dX2_counted_12 (by decide) ?_
    refine lv_icmp_ne (tgt := 23) hx hb dX2_counted_13 (by decide) (fun c_2 => ?_) (fun c_2 => ?_)
    · refine lv_iload_n hx hb dX2_counted_23 rfl (lv_at hl 1 rfl) ?_
      refine lv_bipush (v := 6) hx hb dX2_counted_24 (by decide) ?_
      refine lv_icmp_ne (tgt := 36) hx hb dX2_counted_26 (by decide) (fun c_3 => ?_) (fun c_3 => ?_)
      · refine lv_aload_n hx hb dX2_counted_36 rfl (lv_at hl 0 rfl) ?_
        refine lv_iload_n hx hb dX2_counted_37 rfl (lv_at hl 1 rfl) ?_
        refine lv_iconst (v := 2) hx hb dX2_counted_38 (by decide) ?_
        refine lv_isub hx hb dX2_counted_39 ?_
        refine rd_cVi (As := [.int (w - 2)]) (rest := []) F (c_X2_edges l dC dI cI cZ cY h qx qy qh qt qs rw th n xs ys hs t tb sg fl (w - 2) ht hn hFF) (cwV 1 hts gX2_counted_X2_edges rfl rfl rfl hd_X2_edges ⟨Nat.le_of_ble_eq_true rfl, Nat.le_of_ble_eq_true rfl⟩) hP hK (va_recv hK hP (ci := 2) (q0 := 0) rfl rfl) rfl hl.1 rfl (lv_room (Nat.le_of_ble_eq_true rfl)) dX2_counted_40 ⟨Nat.zero_le _, Nat.zero_le _⟩ ?_
        exact rd_iret hx hb hr hlocks (by first | (rw [r_counted, if_neg c_1, if_neg c_2, if_neg c_3]; done) | (rw [r_counted, if_neg c_1, if_neg c_2, if_neg c_3]; rfl) | (simp only [r_counted, c_1, c_2, c_3]; done) | (simp only [r_counted, c_1, c_2, c_3]; rfl) | (simp [r_counted, c_1, c_2, c_3, bI]; done)) dX2_counted_43
      · refine lv_aload_n hx hb dX2_counted_29 rfl (lv_at hl 0 rfl) ?_
        refine va_get (D := (dC, dI)) (ci := 2) (v := .int fl) (C := RX2) (T := TX2) (N := 9) hx hb hts in_X2_counted_X2 hown hK hP 0 rfl rfl 8 (by decide) (hts (.fieldLink RX2 100 "MoorTrianglesModel" "flips" "I") fl_X2_counted_100) (fun _ h9 => h9) rfl dX2_counted_30 ?_
        refine lv_goto (tgt := 43) hx hb dX2_counted_33 (by decide) ?_
        exact rd_iret hx hb hr hlocks (by first | (rw [r_counted, if_neg c_1, if_neg c_2, if_pos c_3]; done) | (rw [r_counted, if_neg c_1, if_neg c_2, if_pos c_3]; rfl) | (simp only [r_counted, c_1, c_2, c_3]; done) | (simp only [r_counted, c_1, c_2, c_3]; rfl) | (simp [r_counted, c_1, c_2, c_3, bI]; done)) dX2_counted_43
    · refine lv_aload_n hx hb dX2_counted_16 rfl (lv_at hl 0 rfl) ?_
      refine va_get (D := (dC, dI)) (ci := 2) (v := .int (nI t)) (C := RX2) (T := TX2) (N := 9) hx hb hts in_X2_counted_X2 hown hK hP 0 rfl rfl 5 (by decide) (hts (.fieldLink RX2 55 "MoorTrianglesModel" "triangles" "I") fl_X2_counted_55) (fun _ h9 => h9) rfl dX2_counted_17 ?_
      refine lv_goto (tgt := 43) hx hb dX2_counted_20 (by decide) ?_
      exact rd_iret hx hb hr hlocks (by first | (rw [r_counted, if_neg c_1, if_pos c_2]; done) | (rw [r_counted, if_neg c_1, if_pos c_2]; rfl) | (simp only [r_counted, c_1, c_2]; done) | (simp only [r_counted, c_1, c_2]; rfl) | (simp [r_counted, c_1, c_2, bI]; done)) dX2_counted_43
  · refine lv_aload_n hx hb dX2_counted_4 rfl (lv_at hl 0 rfl) ?_
    refine va_get (D := (dC, dI)) (ci := 2) (v := .int (nI n)) (C := RX2) (T := TX2) (N := 9) hx hb hts in_X2_counted_X2 hown hK hP 0 rfl rfl 1 (by decide) (hts (.fieldLink RX2 7 "MoorTrianglesModel" "cairns" "I") fl_X2_counted_7) (fun _ h9 => h9) rfl dX2_counted_5 ?_
    refine lv_goto (tgt := 43) hx hb dX2_counted_8 (by decide) ?_
    exact rd_iret hx hb hr hlocks (by first | (rw [r_counted, if_pos c_1]; done) | (rw [r_counted, if_pos c_1]; rfl) | (simp only [r_counted, c_1]; done) | (simp only [r_counted, c_1]; rfl) | (simp [r_counted, c_1, bI]; done)) dX2_counted_43
theorem hd_X2_apart : yX2_apart.cls = RX2 ∧ yX2_apart.cls ≠ "java/lang/invoke/MethodHandle" ∧ yX2_apart.cls ≠ "java/lang/invoke/VarHandle" ∧ (parseMethodDescriptor yX2_apart.desc).map (fun d => d.parameters.length) = some 3 := by decide +kernel
theorem in_X2_apart_X2 : ∀ w ∈ wsX20, w ∈ wsX2_apart := by decide +kernel
theorem fl_X2_apart_13 : (Cond.fieldLink RX2 13 "MoorTrianglesModel" "xs" "[I") ∈ wsX2_apart := by decide +kernel
theorem fl_X2_apart_17 : (Cond.fieldLink RX2 17 "MoorTrianglesModel" "ys" "[I") ∈ wsX2_apart := by decide +kernel
set_option maxHeartbeats 4000000 in
set_option maxRecDepth 100000 in
theorem c_X2_apart (l : Launch) (dC : Nat → ClassId) (dI : Nat → Nat → Nat) (cI cZ cY : ClassId) (h qx qy qh qt qs : Nat) (rw : Nat → Nat) (th : Int32) (n : Nat) (xs ys hs : Nat → Int32) (t : Nat) (tb : Nat → Int32) (sg : Nat → Nat → Int32) (fl : Int32) (a : Int32) (x : Int32) (y : Int32) (ia : vp_in a 17) : Met l yX2_apart wsX2_apart ({ frames := 0, cells := 0, slots := 0, locals := 0 }) (va_Pc [.ref h, .int a, .int x, .int y] (fun U => va_P (dC, dI) vwCl (wR cI cZ cY h qx qy qh qt qs rw th n xs ys hs t tb sg fl) U.heap ∧ va_K (dC, dI) vwCl (gTY cI cZ cY) U)) (vp_Si (fun r => r = r_apart xs ys a x y)) 0 0 (fun _ => False) := by
  refine rd_start (cc := cX2_apart) (maxL := 4) (ret := (some .int)) RX2 (by decide) rfl rfl (Nat.le_of_ble_eq_true rfl) ?_
  intro p e s m below meth c ⟨hx, hb, hr, hml, hown, hts, hlocks⟩ hP hK ls hl
  have F : CallFix p m c cX2_apart 4 s ([.ref h, .int a, .int x, .int y] : List Value).toArray wsX2_apart RX2 := ⟨hx, hb, hml, hown, hts⟩
  have hl : lv_has ls 4 [(0, .ref h), (1, .int a), (2, .int x), (3, .int y)] := hl
  refine lv_aload_n hx hb dX2_apart_0 rfl (lv_at hl 0 rfl) ?_
  refine va_get (D := (dC, dI)) (ci := 2) (v := .ref qx) (C := RX2) (T := TX2) (N := 9) hx hb hts in_X2_apart_X2 hown hK hP 0 rfl rfl 2 (by decide) (hts (.fieldLink RX2 13 "MoorTrianglesModel" "xs" "[I") fl_X2_apart_13) (fun _ h9 => h9) rfl dX2_apart_1 ?_
  refine lv_iload_n hx hb dX2_apart_4 rfl (lv_at hl 1 rfl) ?_
  refine va_iald (D := (dC, dI)) hx hb hK hP 1 0 rfl rfl ia dX2_apart_5 ?_
  refine lv_iload_n hx hb dX2_apart_6 rfl (lv_at hl 2 rfl) ?_
  refine lv_isub hx hb dX2_apart_7 ?_
  refine lv_aload_n hx hb dX2_apart_8 rfl (lv_at hl 0 rfl) ?_
  refine va_get (D := (dC, dI)) (ci := 2) (v := .ref qx) (C := RX2) (T := TX2) (N := 9) hx hb hts in_X2_apart_X2 hown hK hP 0 rfl rfl 2 (by decide) (hts (.fieldLink RX2 13 "MoorTrianglesModel" "xs" "[I") fl_X2_apart_13) (fun _ h9 => h9) rfl dX2_apart_9 ?_
  refine lv_iload_n hx hb dX2_apart_12 rfl (lv_at hl 1 rfl) ?_
  refine va_iald (D := (dC, dI)) hx hb hK hP 1 0 rfl rfl ia dX2_apart_13 ?_
  refine lv_iload_n hx hb dX2_apart_14 rfl (lv_at hl 2 rfl) ?_
  refine lv_isub hx hb dX2_apart_15 ?_
  refine lv_imul hx hb dX2_apart_16 ?_
  refine lv_aload_n hx hb dX2_apart_17 rfl (lv_at hl 0 rfl) ?_
  refine va_get (D := (dC, dI)) (ci := 2) (v := .ref qy) (C := RX2) (T := TX2) (N := 9) hx hb hts in_X2_apart_X2 hown hK hP 0 rfl rfl 3 (by decide) (hts (.fieldLink RX2 17 "MoorTrianglesModel" "ys" "[I") fl_X2_apart_17) (fun _ h9 => h9) rfl dX2_apart_18 ?_
  refine lv_iload_n hx hb dX2_apart_21 rfl (lv_at hl 1 rfl) ?_
  refine va_iald (D := (dC, dI)) hx hb hK hP 2 0 rfl rfl ia dX2_apart_22 ?_
  refine lv_iload_n hx hb dX2_apart_23 rfl (lv_at hl 3 rfl) ?_
  refine lv_isub hx hb dX2_apart_24 ?_
  refine lv_aload_n hx hb dX2_apart_25 rfl (lv_at hl 0 rfl) ?_
  refine va_get (D := (dC, dI)) (ci := 2) (v := .ref qy) (C := RX2) (T := TX2) (N := 9) hx hb hts in_X2_apart_X2 hown hK hP 0 rfl rfl 3 (by decide) (hts (.fieldLink RX2 17 "MoorTrianglesModel" "ys" "[I") fl_X2_apart_17) (fun _ h9 => h9) rfl dX2_apart_26 ?_
  refine lv_iload_n hx hb dX2_apart_29 rfl (lv_at hl 1 rfl) ?_
  refine va_iald (D := (dC, dI)) hx hb hK hP 2 0 rfl rfl ia dX2_apart_30 ?_
  refine lv_iload_n hx hb dX2_apart_31 rfl (lv_at hl 3 rfl) ?_
  refine lv_isub hx hb dX2_apart_32 ?_
  refine lv_imul hx hb dX2_apart_33 ?_
  refine lv_iadd hx hb dX2_apart_34 ?_
  exact rd_iret hx hb hr hlocks rfl dX2_apart_35
