theorem in_X0_turnFirstUnfairEdge_X0 : ∀ w ∈ wsX00, w ∈ wsX0_turnFirstUnfairEdge := by decide +kernel
theorem fl_X0_turnFirstUnfairEdge_38 : (Cond.fieldLink RX0 38 "MoorTriangles$Mesh" "cairns" "I") ∈ wsX0_turnFirstUnfairEdge := by decide +kernel
set_option maxHeartbeats 4000000 in
set_option maxRecDepth 100000 in
theorem c_X0_turnFirstUnfairEdge (l : Launch) (dC : Nat → ClassId) (dI : Nat → Nat → Nat) (cI cZ cY : ClassId) (h qx qy ql qs qc : Nat) (n t : Nat) (xs ys lf sy co : Nat → Int32) (sz : Nat) (hn : n ≤ 17) : Met l yX0_turnFirstUnfairEdge wsX0_turnFirstUnfairEdge ({ frames := 4, cells := 0, slots := 0, locals := 94 }) (va_Pc [.ref h] (wrP (dC, dI) (gTY cI cZ cY) (wM cI h qx qy ql qs qc n t xs ys lf sy co) sz)) (wrQi (dC, dI) (gTY cI cZ cY) (bI ((m_fu n xs ys lf sy).isSome)) (wM cI h qx qy ql qs qc n ((m_fuSt n xs ys sy (t, lf, co)).1) xs ys ((m_fuSt n xs ys sy (t, lf, co)).2.1) sy ((m_fuSt n xs ys sy (t, lf, co)).2.2)) (va_A (wM cI h qx qy ql qs qc n t xs ys lf sy co) sz)) 0 0 (va_A (wM cI h qx qy ql qs qc n t xs ys lf sy co) sz) := by
  refine wr_start (cc := cX0_turnFirstUnfairEdge) (maxL := 3) (ret := (some .boolean)) (Q0 := wrQi (dC, dI) (gTY cI cZ cY) (bI ((m_fu n xs ys lf sy).isSome)) (wM cI h qx qy ql qs qc n ((m_fuSt n xs ys sy (t, lf, co)).1) xs ys ((m_fuSt n xs ys sy (t, lf, co)).2.1) sy ((m_fuSt n xs ys sy (t, lf, co)).2.2))) RX0 (by decide) rfl rfl (Nat.le_of_ble_eq_true rfl) ?_
  intro p e s m below meth c ⟨hx, hb, hr, hml, hown, hts, hlocks, hin⟩ hP hK A hD hA hS ls hl
  have F : CallFix p m c cX0_turnFirstUnfairEdge 3 s ([.ref h] : List Value).toArray wsX0_turnFirstUnfairEdge RX0 := ⟨hx, hb, hml, hown, hts⟩
  have hl : lv_has ls 3 [(0, .ref h)] := hl
  refine lv_iconst (v := 0) hx hb dX0_turnFirstUnfairEdge_0 (by decide) ?_
  refine lv_istore_n (lv' := [(1, .int 0), (0, .ref h)]) hx hb dX0_turnFirstUnfairEdge_1 rfl hl (by decide) rfl (fun ls hl => ?_)
  have hL2 : ∀ (k_1 : Nat) (i : Nat), (n - i) < k_1 → (i ≤ n) → (∀ a, a < i → m_pFUa n xs ys lf sy a = false) → ∀ ls : Array Slot, lv_has ls 3 [(1, .int (nI i)), (0, .ref h)] → W p l e ({ frames := 4, cells := 0, slots := 0, locals := 94 } : Room) s m ([.ref h] : List Value).toArray below meth c s.heap [] 0 0 (MQ below (wrQi (dC, dI) (gTY cI cZ cY) (bI ((m_fu n xs ys lf sy).isSome)) (wM cI h qx qy ql qs qc n ((m_fuSt n xs ys sy (t, lf, co)).1) xs ys ((m_fuSt n xs ys sy (t, lf, co)).2.1) sy ((m_fuSt n xs ys sy (t, lf, co)).2.2)) A) ([.ref h] : List Value).toArray s 0 0 A) (F0 m 2 ls []) := by
    intro k_1
    induction k_1 with
    | zero => intro i hk; exact absurd hk (Nat.not_lt_zero _)
    | succ k_1 ih_2 =>
      intro i hk_2 hi_i hbi ls hl
      refine lv_iload_n hx hb dX0_turnFirstUnfairEdge_2 rfl (lv_at hl 0 rfl) ?_
      refine lv_aload_n hx hb dX0_turnFirstUnfairEdge_3 rfl (lv_at hl 1 rfl) ?_
      refine va_get (D := (dC, dI)) (ci := 0) (v := .int (nI n)) (C := RX0) (T := TX0) (N := 7) hx hb hts in_X0_turnFirstUnfairEdge_X0 hown hK hP 0 rfl rfl 0 (by decide) (hts (.fieldLink RX0 38 "MoorTriangles$Mesh" "cairns" "I") fl_X0_turnFirstUnfairEdge_38) (fun _ h9 => h9) rfl dX0_turnFirstUnfairEdge_4 ?_
      refine lv_icmp_ge (tgt := 60) hx hb dX0_turnFirstUnfairEdge_7 (by decide) (fun c_3 => ?_) (fun c_3 => ?_)
      · have hge_i : n ≤ i := nI_le_le (by omega) (by omega) c_3
        have heq_i : i = n := by omega
        have hl : lv_has ls 3 [(1, .int (nI n)), (0, .ref h)] := by rw [heq_i] at hl; exact hl
        rw [heq_i] at hbi
        refine lv_iconst (v := 0) hx hb dX0_turnFirstUnfairEdge_60 (by decide) ?_
        have e_t : ((m_fuSt n xs ys sy (t, lf, co)).1 : Nat) = t := by rw [m_fuSt_none (st := (t, lf, co)) (m_fu_none hbi)]
        have e_lf : ((m_fuSt n xs ys sy (t, lf, co)).2.1 : Nat → Int32) = lf := by rw [m_fuSt_none (st := (t, lf, co)) (m_fu_none hbi)]
        have e_co : ((m_fuSt n xs ys sy (t, lf, co)).2.2 : Nat → Int32) = co := by rw [m_fuSt_none (st := (t, lf, co)) (m_fu_none hbi)]
        have hP : va_P (dC, dI) vwCl (wM cI h qx qy ql qs qc n ((m_fuSt n xs ys sy (t, lf, co)).1) xs ys ((m_fuSt n xs ys sy (t, lf, co)).2.1) sy ((m_fuSt n xs ys sy (t, lf, co)).2.2)) s.heap := by rw [e_t, e_co, e_lf]; exact hP
        have hD : va_D A (wM cI h qx qy ql qs qc n ((m_fuSt n xs ys sy (t, lf, co)).1) xs ys ((m_fuSt n xs ys sy (t, lf, co)).2.1) sy ((m_fuSt n xs ys sy (t, lf, co)).2.2)) := by rw [e_t, e_co, e_lf]; exact hD
        exact wr_zret hx hb hr hlocks (by rw [m_fu_none hbi]; rfl) hP hK hD hS dX0_turnFirstUnfairEdge_61
      · have hlt_i : i < n := nI_nle_lt (by omega) (by omega) c_3
        refine lv_iload_n hx hb dX0_turnFirstUnfairEdge_10 rfl (lv_at hl 0 rfl) ?_
        refine lv_iconst (v := 1) hx hb dX0_turnFirstUnfairEdge_11 (by decide) ?_
        refine lv_iadd hx hb dX0_turnFirstUnfairEdge_12 ?_
        refine lv_istore_n (lv' := [(2, .int ((nI i) + 1)), (1, .int (nI i)), (0, .ref h)]) hx hb dX0_turnFirstUnfairEdge_13 rfl hl (by decide) rfl (fun ls hl => ?_)
        have hL14 : ∀ (k_4 : Nat) (j : Nat), (n - j) < k_4 → (j ≤ n) → (i < j) → (∀ b, b < j → m_pFU n xs ys lf sy i b = false) → ∀ ls : Array Slot, lv_has ls 3 [(2, .int (nI j)), (1, .int (nI i)), (0, .ref h)] → W p l e ({ frames := 4, cells := 0, slots := 0, locals := 94 } : Room) s m ([.ref h] : List Value).toArray below meth c s.heap [] 0 0 (MQ below (wrQi (dC, dI) (gTY cI cZ cY) (bI ((m_fu n xs ys lf sy).isSome)) (wM cI h qx qy ql qs qc n ((m_fuSt n xs ys sy (t, lf, co)).1) xs ys ((m_fuSt n xs ys sy (t, lf, co)).2.1) sy ((m_fuSt n xs ys sy (t, lf, co)).2.2)) A) ([.ref h] : List Value).toArray s 0 0 A) (F0 m 14 ls []) := by
          intro k_4
          induction k_4 with
          | zero => intro j hk; exact absurd hk (Nat.not_lt_zero _)
          | succ k_4 ih_5 =>
            intro j hk_14 hi_j hij hbj ls hl
            refine lv_iload_n hx hb dX0_turnFirstUnfairEdge_14 rfl (lv_at hl 0 rfl) ?_
            refine lv_aload_n hx hb dX0_turnFirstUnfairEdge_15 rfl (lv_at hl 2 rfl) ?_
            refine va_get (D := (dC, dI)) (ci := 0) (v := .int (nI n)) (C := RX0) (T := TX0) (N := 7) hx hb hts in_X0_turnFirstUnfairEdge_X0 hown hK hP 0 rfl rfl 0 (by decide) (hts (.fieldLink RX0 38 "MoorTriangles$Mesh" "cairns" "I") fl_X0_turnFirstUnfairEdge_38) (fun _ h9 => h9) rfl dX0_turnFirstUnfairEdge_16 ?_
            refine lv_icmp_ge (tgt := 54) hx hb dX0_turnFirstUnfairEdge_19 (by decide) (fun c_6 => ?_) (fun c_6 => ?_)
            · have hge_j : n ≤ j := nI_le_le (by omega) (by omega) c_6
              have heq_j : j = n := by omega
              have hl : lv_has ls 3 [(2, .int (nI n)), (1, .int (nI i)), (0, .ref h)] := by rw [heq_j] at hl; exact hl
              rw [heq_j] at hbj
              refine lv_iinc (v := nI (i + 1)) (lv' := [(1, .int (nI (i + 1))), (2, .int (nI n)), (0, .ref h)]) hx hb dX0_turnFirstUnfairEdge_54 hl (k := 1) rfl (nI_1 _) (by decide) rfl (fun ls hl => ?_)
              refine lv_goto (tgt := 2) hx hb dX0_turnFirstUnfairEdge_57 (by decide) ?_
              have hl := lv_sub (l' := [(1, .int (nI (i + 1))), (0, .ref h)]) hl [0, 2] rfl
              have hl : lv_has ls 3 [(1, .int (nI (i + 1))), (0, .ref h)] := by
                have e9 : [(1, .int (nI (i + 1))), (0, .ref h)] = ([(1, .int (nI (i + 1))), (0, .ref h)] : List (Nat × Value)) := by rfl
                rw [← e9]; exact hl
              exact ih_2 (i + 1) (by omega) (by omega) (rg_bef hbi (m_pFUa_f hbj)) _ hl
            · have hlt_j : j < n := nI_nle_lt (by omega) (by omega) c_6
              refine lv_aload_n hx hb dX0_turnFirstUnfairEdge_22 rfl (lv_at hl 2 rfl) ?_
              refine lv_iload_n hx hb dX0_turnFirstUnfairEdge_23 rfl (lv_at hl 1 rfl) ?_
              refine lv_iload_n hx hb dX0_turnFirstUnfairEdge_24 rfl (lv_at hl 0 rfl) ?_
              refine rd_cVi (As := [.int (nI i), .int (nI j)]) (rest := []) F (c_X0_isUnfair l dC dI cI cZ cY h qx qy ql qs qc n t xs ys lf sy co (nI i) (nI j)) (cwV 2 hts gX0_turnFirstUnfairEdge_X0_isUnfair rfl rfl rfl hd_X0_isUnfair ⟨Nat.le_of_ble_eq_true rfl, Nat.le_of_ble_eq_true rfl⟩) hP hK (va_recv hK hP (ci := 0) (q0 := 0) rfl rfl) rfl hl.1 rfl (lv_room (Nat.le_of_ble_eq_true rfl)) dX0_turnFirstUnfairEdge_25 ⟨Nat.zero_le _, Nat.zero_le _⟩ ?_
              refine lv_if_eqB (tgt := 48) hx hb dX0_turnFirstUnfairEdge_28 (by decide) (fun c_7 => ?_) (fun c_7 => ?_)
              · refine lv_iinc (v := nI (j + 1)) (lv' := [(2, .int (nI (j + 1))), (1, .int (nI i)), (0, .ref h)]) hx hb dX0_turnFirstUnfairEdge_48 hl (k := 0) rfl (nI_1 _) (by decide) rfl (fun ls hl => ?_)
                refine lv_goto (tgt := 14) hx hb dX0_turnFirstUnfairEdge_51 (by decide) ?_
                have hl := lv_sub (l' := [(2, .int (nI (j + 1))), (1, .int (nI i)), (0, .ref h)]) hl [0, 1, 2] rfl
                have hl : lv_has ls 3 [(2, .int (nI (j + 1))), (1, .int (nI i)), (0, .ref h)] := by
                  have e9 : [(2, .int (nI (j + 1))), (1, .int (nI i)), (0, .ref h)] = ([(2, .int (nI (j + 1))), (1, .int (nI i)), (0, .ref h)] : List (Nat × Value)) := by rfl
                  rw [← e9]; exact hl
                exact ih_5 (j + 1) (by omega) (by omega) (by omega) (rg_bef hbj (show m_pFU n xs ys lf sy i j = false from by rw [m_pFU_hi hij]; simp only [c_7]; rfl)) _ hl
              · refine lv_aload_n hx hb dX0_turnFirstUnfairEdge_31 rfl (lv_at hl 2 rfl) ?_
                refine lv_iload_n hx hb dX0_turnFirstUnfairEdge_32 rfl (lv_at hl 1 rfl) ?_
                refine lv_iload_n hx hb dX0_turnFirstUnfairEdge_33 rfl (lv_at hl 0 rfl) ?_
                refine rd_cVi (As := [.int (nI i), .int (nI j)]) (rest := []) F (c_X0_mustStay l dC dI cI cZ cY h qx qy ql qs qc n t xs ys lf sy co (nI i) (nI j)) (cwV 2 hts gX0_turnFirstUnfairEdge_X0_mustStay rfl rfl rfl hd_X0_mustStay ⟨Nat.le_of_ble_eq_true rfl, Nat.le_of_ble_eq_true rfl⟩) hP hK (va_recv hK hP (ci := 0) (q0 := 0) rfl rfl) rfl hl.1 rfl (lv_room (Nat.le_of_ble_eq_true rfl)) dX0_turnFirstUnfairEdge_34 ⟨Nat.zero_le _, Nat.zero_le _⟩ ?_
                refine lv_if_neB (tgt := 48) hx hb dX0_turnFirstUnfairEdge_37 (by decide) (fun c_8 => ?_) (fun c_8 => ?_)
                · refine lv_iinc (v := nI (j + 1)) (lv' := [(2, .int (nI (j + 1))), (1, .int (nI i)), (0, .ref h)]) hx hb dX0_turnFirstUnfairEdge_48 hl (k := 0) rfl (nI_1 _) (by decide) rfl (fun ls hl => ?_)
                  refine lv_goto (tgt := 14) hx hb dX0_turnFirstUnfairEdge_51 (by decide) ?_
                  have hl := lv_sub (l' := [(2, .int (nI (j + 1))), (1, .int (nI i)), (0, .ref h)]) hl [0, 1, 2] rfl
                  have hl : lv_has ls 3 [(2, .int (nI (j + 1))), (1, .int (nI i)), (0, .ref h)] := by
                    have e9 : [(2, .int (nI (j + 1))), (1, .int (nI i)), (0, .ref h)] = ([(2, .int (nI (j + 1))), (1, .int (nI i)), (0, .ref h)] : List (Nat × Value)) := by rfl
                    rw [← e9]; exact hl
                  exact ih_5 (j + 1) (by omega) (by omega) (by omega) (rg_bef hbj (show m_pFU n xs ys lf sy i j = false from by rw [m_pFU_hi hij]; simp only [c_7, c_8]; rfl)) _ hl
                · have hfu : m_fu n xs ys lf sy = some (i, j) := m_fu_some hlt_i hlt_j hbi hbj (show m_pFU n xs ys lf sy i j = true from by rw [m_pFU_hi hij]; simp only [c_7, c_8]; rfl)
                  refine lv_aload_n hx hb dX0_turnFirstUnfairEdge_40 rfl (lv_at hl 2 rfl) ?_
                  refine lv_iload_n hx hb dX0_turnFirstUnfairEdge_41 rfl (lv_at hl 1 rfl) ?_
                  refine lv_iload_n hx hb dX0_turnFirstUnfairEdge_42 rfl (lv_at hl 0 rfl) ?_
                  refine wr_cVv (As := [.int (nI i), .int (nI j)]) (rest := []) (wr := []) F (c_X0_turnEdge l dC dI cI cZ cY h qx qy ql qs qc n t xs ys lf sy co (nI i) (nI j) s.heap.size hn) (cwV 2 hts gX0_turnFirstUnfairEdge_X0_turnEdge rfl rfl rfl hd_X0_turnEdge ⟨Nat.le_of_ble_eq_true rfl, Nat.le_of_ble_eq_true rfl⟩) hP hK hD hS hA [0, 1, 2, 3, 4, 5] [] rfl rfl (by decide) rfl (by decide) (by decide) (va_recv hK hP (ci := 0) (q0 := 0) rfl rfl) rfl hl.1 rfl (lv_room (Nat.le_of_ble_eq_true rfl)) dX0_turnFirstUnfairEdge_43 ⟨Nat.zero_le _, Nat.zero_le _⟩ (fun H locs hP hD hS => ?_)
                  have hP : va_P (dC, dI) vwCl (wM cI h qx qy ql qs qc n ((m_list n (m_tE n xs ys lf (nI i) (nI j)) co).1) xs ys (m_tE n xs ys lf (nI i) (nI j)) sy ((m_list n (m_tE n xs ys lf (nI i) (nI j)) co).2)) H := hP
                  have hD : va_D A (wM cI h qx qy ql qs qc n ((m_list n (m_tE n xs ys lf (nI i) (nI j)) co).1) xs ys (m_tE n xs ys lf (nI i) (nI j)) sy ((m_list n (m_tE n xs ys lf (nI i) (nI j)) co).2)) := hD
                  refine lv_iconst (v := 1) hx hb dX0_turnFirstUnfairEdge_46 (by decide) ?_
                  have e_t : ((m_fuSt n xs ys sy (t, lf, co)).1 : Nat) = (m_list n (m_tE n xs ys lf (nI i) (nI j)) co).1 := by rw [m_fuSt_some (st := (t, lf, co)) hfu]
                  have e_lf : ((m_fuSt n xs ys sy (t, lf, co)).2.1 : Nat → Int32) = m_tE n xs ys lf (nI i) (nI j) := by rw [m_fuSt_some (st := (t, lf, co)) hfu]
                  have e_co : ((m_fuSt n xs ys sy (t, lf, co)).2.2 : Nat → Int32) = (m_list n (m_tE n xs ys lf (nI i) (nI j)) co).2 := by rw [m_fuSt_some (st := (t, lf, co)) hfu]
                  have hP : va_P (dC, dI) vwCl (wM cI h qx qy ql qs qc n ((m_fuSt n xs ys sy (t, lf, co)).1) xs ys ((m_fuSt n xs ys sy (t, lf, co)).2.1) sy ((m_fuSt n xs ys sy (t, lf, co)).2.2)) H := by rw [e_t, e_co, e_lf]; exact hP
                  have hD : va_D A (wM cI h qx qy ql qs qc n ((m_fuSt n xs ys sy (t, lf, co)).1) xs ys ((m_fuSt n xs ys sy (t, lf, co)).2.1) sy ((m_fuSt n xs ys sy (t, lf, co)).2.2)) := by rw [e_t, e_co, e_lf]; exact hD
                  exact wr_zret hx hb hr hlocks (by rw [hfu]; rfl) hP hK hD hS dX0_turnFirstUnfairEdge_47
        have hl := lv_sub (l' := [(2, .int ((nI i) + 1)), (1, .int (nI i)), (0, .ref h)]) hl [0, 1, 2] rfl
        have hl : lv_has ls 3 [(2, .int (nI (i + 1))), (1, .int (nI i)), (0, .ref h)] := by
          have e9 : [(2, .int ((nI i) + 1)), (1, .int (nI i)), (0, .ref h)] = ([(2, .int (nI (i + 1))), (1, .int (nI i)), (0, .ref h)] : List (Nat × Value)) := by rw [nI_1]
          rw [← e9]; exact hl
        exact hL14 _ (i + 1) (Nat.lt_succ_self _) (by omega) (by omega) (fun q hq => m_pFU_lo hq) _ hl
  have hl := lv_sub (l' := [(1, .int 0), (0, .ref h)]) hl [0, 1] rfl
  have hl : lv_has ls 3 [(1, .int (nI 0)), (0, .ref h)] := by
    have e9 : [(1, .int 0), (0, .ref h)] = ([(1, .int (nI 0)), (0, .ref h)] : List (Nat × Value)) := by rfl
    rw [← e9]; exact hl
  exact hL2 _ 0 (Nat.lt_succ_self _) (by omega) (fun j hj => absurd hj (Nat.not_lt_zero _)) _ hl
set_option maxHeartbeats 4000000 in
set_option maxRecDepth 100000 in
theorem c_X0_turnUnfairEdges (l : Launch) (dC : Nat → ClassId) (dI : Nat → Nat → Nat) (cI cZ cY : ClassId) (h qx qy ql qs qc : Nat) (n t : Nat) (xs ys lf sy co : Nat → Int32) (sz : Nat) (hn : n ≤ 17) : Met l yX0_turnUnfairEdges wsX0_turnUnfairEdges ({ frames := 5, cells := 0, slots := 0, locals := 116 }) (va_Pc [.ref h] (wrP (dC, dI) (gTY cI cZ cY) (wM cI h qx qy ql qs qc n t xs ys lf sy co) sz)) (wrQi (dC, dI) (gTY cI cZ cY) (nI (m_tuN n xs ys sy (t, lf, co))) (wM cI h qx qy ql qs qc n ((m_tuS n xs ys sy (t, lf, co) (m_tuN n xs ys sy (t, lf, co))).1) xs ys ((m_tuS n xs ys sy (t, lf, co) (m_tuN n xs ys sy (t, lf, co))).2.1) sy ((m_tuS n xs ys sy (t, lf, co) (m_tuN n xs ys sy (t, lf, co))).2.2)) (va_A (wM cI h qx qy ql qs qc n t xs ys lf sy co) sz)) 0 0 (va_A (wM cI h qx qy ql qs qc n t xs ys lf sy co) sz) := by
  refine wr_start (cc := cX0_turnUnfairEdges) (maxL := 2) (ret := (some .int)) (Q0 := wrQi (dC, dI) (gTY cI cZ cY) (nI (m_tuN n xs ys sy (t, lf, co))) (wM cI h qx qy ql qs qc n ((m_tuS n xs ys sy (t, lf, co) (m_tuN n xs ys sy (t, lf, co))).1) xs ys ((m_tuS n xs ys sy (t, lf, co) (m_tuN n xs ys sy (t, lf, co))).2.1) sy ((m_tuS n xs ys sy (t, lf, co) (m_tuN n xs ys sy (t, lf, co))).2.2))) RX0 (by decide) rfl rfl (Nat.le_of_ble_eq_true rfl) ?_
  intro p e s m below meth c ⟨hx, hb, hr, hml, hown, hts, hlocks, hin⟩ hP hK A hD hA hS ls hl
  have F : CallFix p m c cX0_turnUnfairEdges 2 s ([.ref h] : List Value).toArray wsX0_turnUnfairEdges RX0 := ⟨hx, hb, hml, hown, hts⟩
  have hl : lv_has ls 2 [(0, .ref h)] := hl
  refine lv_iconst (v := 0) hx hb dX0_turnUnfairEdges_0 (by decide) ?_
  refine lv_istore_n (lv' := [(1, .int 0), (0, .ref h)]) hx hb dX0_turnUnfairEdges_1 rfl hl (by decide) rfl (fun ls hl => ?_)
  have hL2 : ∀ (k_1 : Nat) (i : Nat), (1000 - i) < k_1 → (i ≤ 1000) → (∀ k, k < i → m_tuP n xs ys sy (t, lf, co) k = false) → ∀ ls : Array Slot, lv_has ls 2 [(1, .int (nI i)), (0, .ref h)] → ∀ (H : Heap) (locs : List Loc), va_P (dC, dI) vwCl (wM cI h qx qy ql qs qc n ((m_tuS n xs ys sy (t, lf, co) i).1) xs ys ((m_tuS n xs ys sy (t, lf, co) i).2.1) sy ((m_tuS n xs ys sy (t, lf, co) i).2.2)) H → va_D A (wM cI h qx qy ql qs qc n ((m_tuS n xs ys sy (t, lf, co) i).1) xs ys ((m_tuS n xs ys sy (t, lf, co) i).2.1) sy ((m_tuS n xs ys sy (t, lf, co) i).2.2)) → va_S A s.heap H locs → W p l e ({ frames := 5, cells := 0, slots := 0, locals := 116 } : Room) s m ([.ref h] : List Value).toArray below meth c H locs 0 0 (MQ below (wrQi (dC, dI) (gTY cI cZ cY) (nI (m_tuN n xs ys sy (t, lf, co))) (wM cI h qx qy ql qs qc n ((m_tuS n xs ys sy (t, lf, co) (m_tuN n xs ys sy (t, lf, co))).1) xs ys ((m_tuS n xs ys sy (t, lf, co) (m_tuN n xs ys sy (t, lf, co))).2.1) sy ((m_tuS n xs ys sy (t, lf, co) (m_tuN n xs ys sy (t, lf, co))).2.2)) A) ([.ref h] : List Value).toArray s 0 0 A) (F0 m 2 ls []) := by
    intro k_1
    induction k_1 with
    | zero => intro i hk; exact absurd hk (Nat.not_lt_zero _)
    | succ k_1 ih_2 =>
      intro i hk_2 hi_i hbi ls hl H locs hP hD hS
      refine lv_iload_n hx hb dX0_turnUnfairEdges_2 rfl (lv_at hl 0 rfl) ?_
      refine lv_sipush (v := 1000) hx hb dX0_turnUnfairEdges_3 (by decide) ?_
      refine lv_icmp_ge (tgt := 22) hx hb dX0_turnUnfairEdges_6 (by decide) (fun c_3 => ?_) (fun c_3 => ?_)
      · have hge_i : 1000 ≤ i := nI_le_le (by omega) (by omega) c_3
        have heq_i : i = 1000 := by omega
        have hl : lv_has ls 2 [(1, .int (nI 1000)), (0, .ref h)] := by rw [heq_i] at hl; exact hl
        have hP : va_P (dC, dI) vwCl (wM cI h qx qy ql qs qc n ((m_tuS n xs ys sy (t, lf, co) 1000).1) xs ys ((m_tuS n xs ys sy (t, lf, co) 1000).2.1) sy ((m_tuS n xs ys sy (t, lf, co) 1000).2.2)) H := by rw [heq_i] at hP; exact hP
        have hD : va_D A (wM cI h qx qy ql qs qc n ((m_tuS n xs ys sy (t, lf, co) 1000).1) xs ys ((m_tuS n xs ys sy (t, lf, co) 1000).2.1) sy ((m_tuS n xs ys sy (t, lf, co) 1000).2.2)) := by rw [heq_i] at hD; exact hD
        rw [heq_i] at hbi
        refine lv_iload_n hx hb dX0_turnUnfairEdges_22 rfl (lv_at hl 0 rfl) ?_
        have e_t : ((m_tuS n xs ys sy (t, lf, co) (m_tuN n xs ys sy (t, lf, co))).1 : Nat) = (m_tuS n xs ys sy (t, lf, co) 1000).1 := by rw [m_tuN_none hbi]
        have e_lf : ((m_tuS n xs ys sy (t, lf, co) (m_tuN n xs ys sy (t, lf, co))).2.1 : Nat → Int32) = (m_tuS n xs ys sy (t, lf, co) 1000).2.1 := by rw [m_tuN_none hbi]
        have e_co : ((m_tuS n xs ys sy (t, lf, co) (m_tuN n xs ys sy (t, lf, co))).2.2 : Nat → Int32) = (m_tuS n xs ys sy (t, lf, co) 1000).2.2 := by rw [m_tuN_none hbi]
        have hP : va_P (dC, dI) vwCl (wM cI h qx qy ql qs qc n ((m_tuS n xs ys sy (t, lf, co) (m_tuN n xs ys sy (t, lf, co))).1) xs ys ((m_tuS n xs ys sy (t, lf, co) (m_tuN n xs ys sy (t, lf, co))).2.1) sy ((m_tuS n xs ys sy (t, lf, co) (m_tuN n xs ys sy (t, lf, co))).2.2)) H := by rw [e_t, e_co, e_lf]; exact hP
        have hD : va_D A (wM cI h qx qy ql qs qc n ((m_tuS n xs ys sy (t, lf, co) (m_tuN n xs ys sy (t, lf, co))).1) xs ys ((m_tuS n xs ys sy (t, lf, co) (m_tuN n xs ys sy (t, lf, co))).2.1) sy ((m_tuS n xs ys sy (t, lf, co) (m_tuN n xs ys sy (t, lf, co))).2.2)) := by rw [e_t, e_co, e_lf]; exact hD
        exact wr_iret hx hb hr hlocks (by rw [m_tuN_none hbi]) hP hK hD hS dX0_turnUnfairEdges_23
      · have hlt_i : i < 1000 := nI_nle_lt (by omega) (by omega) c_3
        refine lv_aload_n hx hb dX0_turnUnfairEdges_9 rfl (lv_at hl 1 rfl) ?_
        refine wr_cVi (As := []) (rest := []) (wr := []) F (c_X0_turnFirstUnfairEdge l dC dI cI cZ cY h qx qy ql qs qc n ((m_tuS n xs ys sy (t, lf, co) i).1) xs ys ((m_tuS n xs ys sy (t, lf, co) i).2.1) sy ((m_tuS n xs ys sy (t, lf, co) i).2.2) H.size hn) (cwV 0 hts gX0_turnUnfairEdges_X0_turnFirstUnfairEdge rfl rfl rfl hd_X0_turnFirstUnfairEdge ⟨Nat.le_of_ble_eq_true rfl, Nat.le_of_ble_eq_true rfl⟩) hP hK hD hS hA [0, 1, 2, 3, 4, 5] [] rfl rfl (by decide) rfl (by decide) (by decide) (va_recv hK hP (ci := 0) (q0 := 0) rfl rfl) rfl hl.1 rfl (lv_room (Nat.le_of_ble_eq_true rfl)) dX0_turnUnfairEdges_10 ⟨Nat.zero_le _, Nat.zero_le _⟩ (fun H locs hP hD hS => ?_)
        have hP : va_P (dC, dI) vwCl (wM cI h qx qy ql qs qc n ((m_fuSt n xs ys sy (((m_tuS n xs ys sy (t, lf, co) i).1), ((m_tuS n xs ys sy (t, lf, co) i).2.1), ((m_tuS n xs ys sy (t, lf, co) i).2.2))).1) xs ys ((m_fuSt n xs ys sy (((m_tuS n xs ys sy (t, lf, co) i).1), ((m_tuS n xs ys sy (t, lf, co) i).2.1), ((m_tuS n xs ys sy (t, lf, co) i).2.2))).2.1) sy ((m_fuSt n xs ys sy (((m_tuS n xs ys sy (t, lf, co) i).1), ((m_tuS n xs ys sy (t, lf, co) i).2.1), ((m_tuS n xs ys sy (t, lf, co) i).2.2))).2.2)) H := hP
        have hD : va_D A (wM cI h qx qy ql qs qc n ((m_fuSt n xs ys sy (((m_tuS n xs ys sy (t, lf, co) i).1), ((m_tuS n xs ys sy (t, lf, co) i).2.1), ((m_tuS n xs ys sy (t, lf, co) i).2.2))).1) xs ys ((m_fuSt n xs ys sy (((m_tuS n xs ys sy (t, lf, co) i).1), ((m_tuS n xs ys sy (t, lf, co) i).2.1), ((m_tuS n xs ys sy (t, lf, co) i).2.2))).2.1) sy ((m_fuSt n xs ys sy (((m_tuS n xs ys sy (t, lf, co) i).1), ((m_tuS n xs ys sy (t, lf, co) i).2.1), ((m_tuS n xs ys sy (t, lf, co) i).2.2))).2.2)) := hD
        refine lv_if_eqB (tgt := 22) hx hb dX0_turnUnfairEdges_13 (by decide) (fun c_4 => ?_) (fun c_4 => ?_)
        · have hno : m_fu n xs ys (m_tuS n xs ys sy (t, lf, co) i).2.1 sy = none := Option.not_isSome_iff_eq_none.mp (by rw [c_4]; decide)
          have hN : m_tuN n xs ys sy (t, lf, co) = i := m_tuN_some hlt_i hbi (by unfold m_tuP; rw [c_4]; rfl)
          refine lv_iload_n hx hb dX0_turnUnfairEdges_22 rfl (lv_at hl 0 rfl) ?_
          have e_t : ((m_tuS n xs ys sy (t, lf, co) (m_tuN n xs ys sy (t, lf, co))).1 : Nat) = (m_fuSt n xs ys sy (((m_tuS n xs ys sy (t, lf, co) i).1), ((m_tuS n xs ys sy (t, lf, co) i).2.1), ((m_tuS n xs ys sy (t, lf, co) i).2.2))).1 := by rw [hN]; exact (congrArg (fun q => q.1) (m_fuSt_none hno)).symm
          have e_lf : ((m_tuS n xs ys sy (t, lf, co) (m_tuN n xs ys sy (t, lf, co))).2.1 : Nat → Int32) = (m_fuSt n xs ys sy (((m_tuS n xs ys sy (t, lf, co) i).1), ((m_tuS n xs ys sy (t, lf, co) i).2.1), ((m_tuS n xs ys sy (t, lf, co) i).2.2))).2.1 := by rw [hN]; exact (congrArg (fun q => q.2.1) (m_fuSt_none hno)).symm
          have e_co : ((m_tuS n xs ys sy (t, lf, co) (m_tuN n xs ys sy (t, lf, co))).2.2 : Nat → Int32) = (m_fuSt n xs ys sy (((m_tuS n xs ys sy (t, lf, co) i).1), ((m_tuS n xs ys sy (t, lf, co) i).2.1), ((m_tuS n xs ys sy (t, lf, co) i).2.2))).2.2 := by rw [hN]; exact (congrArg (fun q => q.2.2) (m_fuSt_none hno)).symm
          have hP : va_P (dC, dI) vwCl (wM cI h qx qy ql qs qc n ((m_tuS n xs ys sy (t, lf, co) (m_tuN n xs ys sy (t, lf, co))).1) xs ys ((m_tuS n xs ys sy (t, lf, co) (m_tuN n xs ys sy (t, lf, co))).2.1) sy ((m_tuS n xs ys sy (t, lf, co) (m_tuN n xs ys sy (t, lf, co))).2.2)) H := by rw [e_t, e_co, e_lf]; exact hP
          have hD : va_D A (wM cI h qx qy ql qs qc n ((m_tuS n xs ys sy (t, lf, co) (m_tuN n xs ys sy (t, lf, co))).1) xs ys ((m_tuS n xs ys sy (t, lf, co) (m_tuN n xs ys sy (t, lf, co))).2.1) sy ((m_tuS n xs ys sy (t, lf, co) (m_tuN n xs ys sy (t, lf, co))).2.2)) := by rw [e_t, e_co, e_lf]; exact hD
          exact wr_iret hx hb hr hlocks (by rw [hN]) hP hK hD hS dX0_turnUnfairEdges_23
        · refine lv_iinc (v := nI (i + 1)) (lv' := [(1, .int (nI (i + 1))), (0, .ref h)]) hx hb dX0_turnUnfairEdges_16 hl (k := 0) rfl (nI_1 _) (by decide) rfl (fun ls hl => ?_)
          refine lv_goto (tgt := 2) hx hb dX0_turnUnfairEdges_19 (by decide) ?_
          have hl := lv_sub (l' := [(1, .int (nI (i + 1))), (0, .ref h)]) hl [0, 1] rfl
          have hl : lv_has ls 2 [(1, .int (nI (i + 1))), (0, .ref h)] := by
            have e9 : [(1, .int (nI (i + 1))), (0, .ref h)] = ([(1, .int (nI (i + 1))), (0, .ref h)] : List (Nat × Value)) := by rfl
            rw [← e9]; exact hl
          have e_t : ((m_tuS n xs ys sy (t, lf, co) (i + 1)).1 : Nat) = (m_fuSt n xs ys sy (((m_tuS n xs ys sy (t, lf, co) i).1), ((m_tuS n xs ys sy (t, lf, co) i).2.1), ((m_tuS n xs ys sy (t, lf, co) i).2.2))).1 := by rfl
          have e_lf : ((m_tuS n xs ys sy (t, lf, co) (i + 1)).2.1 : Nat → Int32) = (m_fuSt n xs ys sy (((m_tuS n xs ys sy (t, lf, co) i).1), ((m_tuS n xs ys sy (t, lf, co) i).2.1), ((m_tuS n xs ys sy (t, lf, co) i).2.2))).2.1 := by rfl
          have e_co : ((m_tuS n xs ys sy (t, lf, co) (i + 1)).2.2 : Nat → Int32) = (m_fuSt n xs ys sy (((m_tuS n xs ys sy (t, lf, co) i).1), ((m_tuS n xs ys sy (t, lf, co) i).2.1), ((m_tuS n xs ys sy (t, lf, co) i).2.2))).2.2 := by rfl
          have hP : va_P (dC, dI) vwCl (wM cI h qx qy ql qs qc n ((m_tuS n xs ys sy (t, lf, co) (i + 1)).1) xs ys ((m_tuS n xs ys sy (t, lf, co) (i + 1)).2.1) sy ((m_tuS n xs ys sy (t, lf, co) (i + 1)).2.2)) H := by rw [e_t, e_lf, e_co]; exact hP
          have hD : va_D A (wM cI h qx qy ql qs qc n ((m_tuS n xs ys sy (t, lf, co) (i + 1)).1) xs ys ((m_tuS n xs ys sy (t, lf, co) (i + 1)).2.1) sy ((m_tuS n xs ys sy (t, lf, co) (i + 1)).2.2)) := by rw [e_t, e_lf, e_co]; exact hD
          exact ih_2 (i + 1) (by omega) (by omega) (rg_bef hbi (show m_tuP n xs ys sy (t, lf, co) i = false from by unfold m_tuP; rw [c_4]; rfl)) _ hl _ _ hP hD hS
  have hl := lv_sub (l' := [(1, .int 0), (0, .ref h)]) hl [0, 1] rfl
  have hl : lv_has ls 2 [(1, .int (nI 0)), (0, .ref h)] := by
    have e9 : [(1, .int 0), (0, .ref h)] = ([(1, .int (nI 0)), (0, .ref h)] : List (Nat × Value)) := by rfl
    rw [← e9]; exact hl
  have e_t : ((m_tuS n xs ys sy (t, lf, co) 0).1 : Nat) = t := by rfl
  have e_lf : ((m_tuS n xs ys sy (t, lf, co) 0).2.1 : Nat → Int32) = lf := by rfl
  have e_co : ((m_tuS n xs ys sy (t, lf, co) 0).2.2 : Nat → Int32) = co := by rfl
  have hP : va_P (dC, dI) vwCl (wM cI h qx qy ql qs qc n ((m_tuS n xs ys sy (t, lf, co) 0).1) xs ys ((m_tuS n xs ys sy (t, lf, co) 0).2.1) sy ((m_tuS n xs ys sy (t, lf, co) 0).2.2)) s.heap := by rw [e_t, e_lf, e_co]; exact hP
  have hD : va_D A (wM cI h qx qy ql qs qc n ((m_tuS n xs ys sy (t, lf, co) 0).1) xs ys ((m_tuS n xs ys sy (t, lf, co) 0).2.1) sy ((m_tuS n xs ys sy (t, lf, co) 0).2.2)) := by rw [e_t, e_lf, e_co]; exact hD
  exact hL2 _ 0 (Nat.lt_succ_self _) (by omega) (fun j hj => absurd hj (Nat.not_lt_zero _)) _ hl _ _ hP hD hS
