/-! the law: settling, by program (gens.py) -/
def l_one (e : Int32) : Bool := if e = 1 then true else false
theorem l_one_t {e : Int32} (h : l_one e = true) : e = 1 := by
  unfold l_one at h
  by_cases q : e = 1
  · exact q
  · rw [if_neg q] at h; cases h
def l_p30 (x y : Int32) : Bool := if x - x / 30 * 30 = 0 then true else if y - y / 30 * 30 = 0 then true else false
set_option maxHeartbeats 8000000 in
set_option maxRecDepth 100000 in
theorem lw_b1 {p : Program} {l : Launch} {e : Env} {s : State} {m : MethodId} {below : List Frame} {meth : Method} {c : Code} (dC : Nat → ClassId) (dI : Nat → Nat → Nat) (cI cZ cY : ClassId) {b9 L : Nat} {sc : Nat → Int32} (a : Nat → Nat) (B0 h : Nat) (hs : Nat → Int32) (fx : Int32) (n t : Nat) (xs ys lf sy co : Nat → Int32) (n2 t2 : Nat) (xs2 ys2 lf2 sy2 co2 : Nat → Int32) (nC : Nat) (C : Nat → Nat → Int32) (nT : Nat) (T : Nat → Nat → Int32) (nS : Nat) (S : Nat → Nat → Int32) (fl : Int32) (x : Int32) (i : Nat) (R : lX → lS → Prop) (p9 q9 : Nat) (hp9 : p9 = l_bel (x >>> (2 &&& 31)) 31) (hq9 : q9 = l_bel (x >>> (4 &&& 31)) 31) (M N W1 V1 : Nat) (hC0 : lw_At p s m meth c b9 L sc) (hl0 : l.stackTraces = false) (hX9 : xE (fun q => B0 ≤ q) s s.heap) (hK : kS (dC, dI) cI cZ cY s) (hB : B0 ≤ s.heap.size) (hi : i < 14) (hr3 : i % 3 = 1) (hnC : 1 ≤ nC ∧ nC ≤ 16) (hnT : 1 ≤ nT ∧ nT ≤ 30) (hnS : nS ≤ 200) (hn : 1 ≤ n ∧ n ≤ 15) (ht : t ≤ 28) (hF : s_okF nC nT T) (hok : ∀ k : Nat, k < nT → ∀ j : Nat, j < 3 → vp_in (T k j) nC) (hR0 : R (hs, fx, n, t, xs, ys, lf, sy, co, n2, t2, xs2, ys2, lf2, sy2, co2) (nC, C, nT, T, nS, S, fl))
    (HE : (x_cntOf n t xs ys lf sy fx 2) + 1 = nI n + (x_cntOf n t xs ys lf sy fx 1) ∧ 2 * (x_cntOf n t xs ys lf sy fx 2) = 3 * (x_cntOf n t xs ys lf sy fx 1) + (x_cntOf n t xs ys lf sy fx 3)) (hWM : ((m_tuN n xs ys sy (t, lf, co)) + 1) * W1 ≤ M) (hVN : ((m_tuN n xs ys sy (t, lf, co)) + 1) * V1 ≤ N) (HS5 : s_okSt nC C nT T nS S (m_tuN n xs ys sy (t, lf, co)) W1 V1 ∧ R (hs, fx + nI (m_tuN n xs ys sy (t, lf, co)), n, (m_tuS n xs ys sy (t, lf, co) (m_tuN n xs ys sy (t, lf, co))).1, xs, ys, (m_tuS n xs ys sy (t, lf, co) (m_tuN n xs ys sy (t, lf, co))).2.1, sy, (m_tuS n xs ys sy (t, lf, co) (m_tuN n xs ys sy (t, lf, co))).2.2, n, (m_tuS n xs ys sy (t, lf, co) (m_tuN n xs ys sy (t, lf, co))).1, xs, ys, (m_tuS n xs ys sy (t, lf, co) (m_tuN n xs ys sy (t, lf, co))).2.1, sy, (m_tuS n xs ys sy (t, lf, co) (m_tuN n xs ys sy (t, lf, co))).2.2) (nC, C, (s_sq nC C nS S (nT, T) (m_tuN n xs ys sy (t, lf, co))).1, (s_sq nC C nS S (nT, T) (m_tuN n xs ys sy (t, lf, co))).2, nS, S, fl + nI (m_tuN n xs ys sy (t, lf, co)))) (HS6 : (x_cntOf n ((m_tuS n xs ys sy (t, lf, co) (m_tuN n xs ys sy (t, lf, co))).1) xs ys ((m_tuS n xs ys sy (t, lf, co) (m_tuN n xs ys sy (t, lf, co))).2.1) sy (fx + nI (m_tuN n xs ys sy (t, lf, co))) 6) = (x_cntOf n t xs ys lf sy fx 6) + nI (m_tuN n xs ys sy (t, lf, co))) (HS4 : (x_cntOf n ((m_tuS n xs ys sy (t, lf, co) (m_tuN n xs ys sy (t, lf, co))).1) xs ys ((m_tuS n xs ys sy (t, lf, co) (m_tuN n xs ys sy (t, lf, co))).2.1) sy (fx + nI (m_tuN n xs ys sy (t, lf, co))) 4) = (x_cntOf n t xs ys lf sy fx 4))
    (HSE : ∀ i j : Nat, i < n → j < n → x_okEd n (nI i) (nI j) 3 = true ∧ x_okEd n (nI i) (nI j) 2 = true ∧ (x_eFact n xs ys ((m_tuS n xs ys sy (t, lf, co) (m_tuN n xs ys sy (t, lf, co))).2.1) sy (nI i) (nI j) 3 = 1 → ¬ x_eFact n xs ys ((m_tuS n xs ys sy (t, lf, co) (m_tuN n xs ys sy (t, lf, co))).2.1) sy (nI i) (nI j) 2 = 0))
    (H0 : Heap) (locs0 : List Loc) (c0 d0 : Nat) (hc0 : c0 + (1500 + M) ≤ 890197) (hd0 : d0 + (9000 + N) ≤ 6430878) (hJ : lJ (dC, dI) cI cY a B0 h (hs, fx, n, t, xs, ys, lf, sy, co, n2, t2, xs2, ys2, lf2, sy2, co2) (nC, C, nT, T, nS, S, fl) H0) (hS : va_S (fun q => B0 ≤ q) s.heap H0 locs0) (ls : Array Slot) (hl : lv_has ls 18 [(4, .int x), (3, .int (nI i)), (2, .ref h), (1, .ref (a 0)), (0, .ref b9)])
    (hnext : ∀ (u1 : lX) (v1 : lS) (H : Heap) (locs : List Loc) (ls : Array Slot), R u1 v1 → lJ (dC, dI) cI cY a B0 h u1 v1 H → va_S (fun q => B0 ≤ q) s.heap H locs → lv_has ls 18 [(3, .int (nI (i + 1))), (2, .ref h), (1, .ref (a 0)), (0, .ref b9)] → W p l e ({ frames := 2048, cells := 890197, slots := 6430878, locals := 84000 } : Room) s m #[Value.ref b9] below meth c H locs (c0 + (1500 + M)) (d0 + (9000 + N)) (lw_Z below #[Value.ref b9] s) (F0 m 22 ls [])) : W p l e ({ frames := 2048, cells := 890197, slots := 6430878, locals := 84000 } : Room) s m #[Value.ref b9] below meth c H0 locs0 c0 d0 (lw_Z below #[Value.ref b9] s) (F0 m 53 ls []) := by
  obtain ⟨hx, hb, hr, hml, hown, hts0, hX, hbl, hlocks, hgv⟩ := hC0
  have hts : ∀ w ∈ wsL_law, w.before #[Value.ref b9] s = true := fun w h => hts0 w (wsL_law_in w h)
  have F : CallFix p m c cL_law 18 s #[Value.ref b9] wsL_law RL := ⟨hx, hb, hml, hown, hts⟩
  have hA : ∀ q : Nat, s.heap.size ≤ q → B0 ≤ q := fun q z => Nat.le_trans hB z
  obtain ⟨hP, hD, qc, qt, qs, hO, hC, hTt, hSt, hn1, hn2⟩ := hJ
  have hC : hT cI cY (h + 1) H0 qc nC 3 C := hC
  have hTt : hT cI cY (h + 1) H0 qt nT 3 T := hTt
  have hSt : hT cI cY (h + 1) H0 qs nS 2 S := hSt
  have hO : sO (dC, dI) H0 h qc qt qs fl := hO
  have hAh : B0 ≤ h := Nat.le_trans (hD.2 0 _ rfl).1 (Nat.le_of_lt (hD.2 0 _ rfl).2)
  have hok1 : ∀ i : Nat, i < nT → ∀ j : Nat, j < 3 → vp_in (T i j) (nC + 1) := fun i hi j hj => in_up (hok i hi j hj)
  refine lv_aload_n hx hb dL_law_53 rfl (lv_at hl 3 rfl) ?_
  refine lv_iconst (v := 0) hx hb dL_law_54 (by decide) ?_
  refine lc_xi (As := [.int 0]) (rest := []) hX9 F (c_X1_count l hl0 dC dI cI cZ cY (a 0) (a 1) hs fx (a 2) (a 3) (a 4) (a 5) (a 6) (a 7) n t xs ys lf sy co (a 8) (a 9) (a 10) (a 11) (a 12) (a 13) n2 t2 xs2 ys2 lf2 sy2 co2 0 H0.size (by omega)) (cwV 1 hts gL_law_X1_count rfl rfl rfl hd_X1_count ⟨Nat.le_of_ble_eq_true rfl, Nat.le_of_ble_eq_true rfl⟩) (by decide) rfl hP hK hD hS hB (lW_recv hK.1 hP) rfl hl.1 rfl (lv_room (Nat.le_of_ble_eq_true rfl)) dL_law_55 ⟨(by first | exact Nat.le_of_ble_eq_true rfl | omega | (dsimp only; omega)), (by first | exact Nat.le_of_ble_eq_true rfl | omega | (dsimp only; omega))⟩ (fun H1 locs2 hP hD hY hS => ?_)
  have hP : va_P (dC, dI) vwCl (lW cI a (hs, fx, n, t, xs, ys, lf, sy, co, n2, t2, xs2, ys2, lf2, sy2, co2)) H1 := hP
  have hD : va_D (lB B0 h) (lW cI a (hs, fx, n, t, xs, ys, lf, sy, co, n2, t2, xs2, ys2, lf2, sy2, co2)) := hD
  have hC := hC.ext (hY.up (Nat.le_succ h))
  have hTt := hTt.ext (hY.up (Nat.le_succ h))
  have hSt := hSt.ext (hY.up (Nat.le_succ h))
  have hO := hO.ext hY
  refine lv_cvi (y := nI n) (by rfl) ?_
  refine lv_istore (lv' := [(5, .int (nI n)), (4, .int x), (3, .int (nI i)), (2, .ref h), (1, .ref (a 0)), (0, .ref b9)]) hx hb dL_law_58 hl (by decide) rfl (fun ls hl => ?_)
  refine lv_aload_n hx hb dL_law_60 rfl (lv_at hl 4 rfl) ?_
  refine lv_iconst (v := 2) hx hb dL_law_61 (by decide) ?_
  refine lc_xi (As := [.int 2]) (rest := []) hX9 F (c_X1_count l hl0 dC dI cI cZ cY (a 0) (a 1) hs fx (a 2) (a 3) (a 4) (a 5) (a 6) (a 7) n t xs ys lf sy co (a 8) (a 9) (a 10) (a 11) (a 12) (a 13) n2 t2 xs2 ys2 lf2 sy2 co2 2 H1.size (by omega)) (cwV 1 hts gL_law_X1_count rfl rfl rfl hd_X1_count ⟨Nat.le_of_ble_eq_true rfl, Nat.le_of_ble_eq_true rfl⟩) (by decide) rfl hP hK hD hS hB (lW_recv hK.1 hP) rfl hl.1 rfl (lv_room (Nat.le_of_ble_eq_true rfl)) dL_law_62 ⟨(by first | exact Nat.le_of_ble_eq_true rfl | omega | (dsimp only; omega)), (by first | exact Nat.le_of_ble_eq_true rfl | omega | (dsimp only; omega))⟩ (fun H3 locs4 hP hD hY hS => ?_)
  have hP : va_P (dC, dI) vwCl (lW cI a (hs, fx, n, t, xs, ys, lf, sy, co, n2, t2, xs2, ys2, lf2, sy2, co2)) H3 := hP
  have hD : va_D (lB B0 h) (lW cI a (hs, fx, n, t, xs, ys, lf, sy, co, n2, t2, xs2, ys2, lf2, sy2, co2)) := hD
  have hC := hC.ext (hY.up (Nat.le_succ h))
  have hTt := hTt.ext (hY.up (Nat.le_succ h))
  have hSt := hSt.ext (hY.up (Nat.le_succ h))
  have hO := hO.ext hY
  refine lv_iconst (v := 1) hx hb dL_law_65 (by decide) ?_
  refine lv_iadd hx hb dL_law_66 ?_
  refine lv_iload hx hb dL_law_67 (lv_at hl 0 rfl) ?_
  refine lv_aload_n hx hb dL_law_69 rfl (lv_at hl 4 rfl) ?_
  refine lv_iconst (v := 1) hx hb dL_law_70 (by decide) ?_
  refine lc_xi (As := [.int 1]) (rest := [.int (nI n), .int ((x_cntOf n t xs ys lf sy fx 2) + 1)]) hX9 F (c_X1_count l hl0 dC dI cI cZ cY (a 0) (a 1) hs fx (a 2) (a 3) (a 4) (a 5) (a 6) (a 7) n t xs ys lf sy co (a 8) (a 9) (a 10) (a 11) (a 12) (a 13) n2 t2 xs2 ys2 lf2 sy2 co2 1 H3.size (by omega)) (cwV 1 hts gL_law_X1_count rfl rfl rfl hd_X1_count ⟨Nat.le_of_ble_eq_true rfl, Nat.le_of_ble_eq_true rfl⟩) (by decide) rfl hP hK hD hS hB (lW_recv hK.1 hP) rfl hl.1 rfl (lv_room (Nat.le_of_ble_eq_true rfl)) dL_law_71 ⟨(by first | exact Nat.le_of_ble_eq_true rfl | omega | (dsimp only; omega)), (by first | exact Nat.le_of_ble_eq_true rfl | omega | (dsimp only; omega))⟩ (fun H5 locs6 hP hD hY hS => ?_)
  have hP : va_P (dC, dI) vwCl (lW cI a (hs, fx, n, t, xs, ys, lf, sy, co, n2, t2, xs2, ys2, lf2, sy2, co2)) H5 := hP
  have hD : va_D (lB B0 h) (lW cI a (hs, fx, n, t, xs, ys, lf, sy, co, n2, t2, xs2, ys2, lf2, sy2, co2)) := hD
  have hC := hC.ext (hY.up (Nat.le_succ h))
  have hTt := hTt.ext (hY.up (Nat.le_succ h))
  have hSt := hSt.ext (hY.up (Nat.le_succ h))
  have hO := hO.ext hY
  refine lv_iadd hx hb dL_law_74 ?_
  refine lv_icmp_ne (tgt := 101) hx hb dL_law_75 (by decide) (fun c_7 => ?_) (fun c_7 => ?_)
  · exact absurd HE.1 c_7
  · refine lv_iconst (v := 2) hx hb dL_law_78 (by decide) ?_
    refine lv_aload_n hx hb dL_law_79 rfl (lv_at hl 4 rfl) ?_
    refine lv_iconst (v := 2) hx hb dL_law_80 (by decide) ?_
    refine lc_xi (As := [.int 2]) (rest := [.int 2]) hX9 F (c_X1_count l hl0 dC dI cI cZ cY (a 0) (a 1) hs fx (a 2) (a 3) (a 4) (a 5) (a 6) (a 7) n t xs ys lf sy co (a 8) (a 9) (a 10) (a 11) (a 12) (a 13) n2 t2 xs2 ys2 lf2 sy2 co2 2 H5.size (by omega)) (cwV 1 hts gL_law_X1_count rfl rfl rfl hd_X1_count ⟨Nat.le_of_ble_eq_true rfl, Nat.le_of_ble_eq_true rfl⟩) (by decide) rfl hP hK hD hS hB (lW_recv hK.1 hP) rfl hl.1 rfl (lv_room (Nat.le_of_ble_eq_true rfl)) dL_law_81 ⟨(by first | exact Nat.le_of_ble_eq_true rfl | omega | (dsimp only; omega)), (by first | exact Nat.le_of_ble_eq_true rfl | omega | (dsimp only; omega))⟩ (fun H8 locs9 hP hD hY hS => ?_)
    have hP : va_P (dC, dI) vwCl (lW cI a (hs, fx, n, t, xs, ys, lf, sy, co, n2, t2, xs2, ys2, lf2, sy2, co2)) H8 := hP
    have hD : va_D (lB B0 h) (lW cI a (hs, fx, n, t, xs, ys, lf, sy, co, n2, t2, xs2, ys2, lf2, sy2, co2)) := hD
    have hC := hC.ext (hY.up (Nat.le_succ h))
    have hTt := hTt.ext (hY.up (Nat.le_succ h))
    have hSt := hSt.ext (hY.up (Nat.le_succ h))
    have hO := hO.ext hY
    refine lv_imul hx hb dL_law_84 ?_
    refine lv_iconst (v := 3) hx hb dL_law_85 (by decide) ?_
    refine lv_aload_n hx hb dL_law_86 rfl (lv_at hl 4 rfl) ?_
    refine lv_iconst (v := 1) hx hb dL_law_87 (by decide) ?_
    refine lc_xi (As := [.int 1]) (rest := [.int 3, .int (2 * (x_cntOf n t xs ys lf sy fx 2))]) hX9 F (c_X1_count l hl0 dC dI cI cZ cY (a 0) (a 1) hs fx (a 2) (a 3) (a 4) (a 5) (a 6) (a 7) n t xs ys lf sy co (a 8) (a 9) (a 10) (a 11) (a 12) (a 13) n2 t2 xs2 ys2 lf2 sy2 co2 1 H8.size (by omega)) (cwV 1 hts gL_law_X1_count rfl rfl rfl hd_X1_count ⟨Nat.le_of_ble_eq_true rfl, Nat.le_of_ble_eq_true rfl⟩) (by decide) rfl hP hK hD hS hB (lW_recv hK.1 hP) rfl hl.1 rfl (lv_room (Nat.le_of_ble_eq_true rfl)) dL_law_88 ⟨(by first | exact Nat.le_of_ble_eq_true rfl | omega | (dsimp only; omega)), (by first | exact Nat.le_of_ble_eq_true rfl | omega | (dsimp only; omega))⟩ (fun H10 locs11 hP hD hY hS => ?_)
    have hP : va_P (dC, dI) vwCl (lW cI a (hs, fx, n, t, xs, ys, lf, sy, co, n2, t2, xs2, ys2, lf2, sy2, co2)) H10 := hP
    have hD : va_D (lB B0 h) (lW cI a (hs, fx, n, t, xs, ys, lf, sy, co, n2, t2, xs2, ys2, lf2, sy2, co2)) := hD
    have hC := hC.ext (hY.up (Nat.le_succ h))
    have hTt := hTt.ext (hY.up (Nat.le_succ h))
    have hSt := hSt.ext (hY.up (Nat.le_succ h))
    have hO := hO.ext hY
    refine lv_imul hx hb dL_law_91 ?_
    refine lv_aload_n hx hb dL_law_92 rfl (lv_at hl 4 rfl) ?_
    refine lv_iconst (v := 3) hx hb dL_law_93 (by decide) ?_
    refine lc_xi (As := [.int 3]) (rest := [.int (3 * (x_cntOf n t xs ys lf sy fx 1)), .int (2 * (x_cntOf n t xs ys lf sy fx 2))]) hX9 F (c_X1_count l hl0 dC dI cI cZ cY (a 0) (a 1) hs fx (a 2) (a 3) (a 4) (a 5) (a 6) (a 7) n t xs ys lf sy co (a 8) (a 9) (a 10) (a 11) (a 12) (a 13) n2 t2 xs2 ys2 lf2 sy2 co2 3 H10.size (by omega)) (cwV 1 hts gL_law_X1_count rfl rfl rfl hd_X1_count ⟨Nat.le_of_ble_eq_true rfl, Nat.le_of_ble_eq_true rfl⟩) (by decide) rfl hP hK hD hS hB (lW_recv hK.1 hP) rfl hl.1 rfl (lv_room (Nat.le_of_ble_eq_true rfl)) dL_law_94 ⟨(by first | exact Nat.le_of_ble_eq_true rfl | omega | (dsimp only; omega)), (by first | exact Nat.le_of_ble_eq_true rfl | omega | (dsimp only; omega))⟩ (fun H12 locs13 hP hD hY hS => ?_)
    have hP : va_P (dC, dI) vwCl (lW cI a (hs, fx, n, t, xs, ys, lf, sy, co, n2, t2, xs2, ys2, lf2, sy2, co2)) H12 := hP
    have hD : va_D (lB B0 h) (lW cI a (hs, fx, n, t, xs, ys, lf, sy, co, n2, t2, xs2, ys2, lf2, sy2, co2)) := hD
    have hC := hC.ext (hY.up (Nat.le_succ h))
    have hTt := hTt.ext (hY.up (Nat.le_succ h))
    have hSt := hSt.ext (hY.up (Nat.le_succ h))
    have hO := hO.ext hY
    refine lv_iadd hx hb dL_law_97 ?_
    refine lv_icmp_eq (tgt := 103) hx hb dL_law_98 (by decide) (fun c_14 => ?_) (fun c_14 => ?_)
    · refine lv_iload hx hb dL_law_103 (lv_at hl 1 rfl) ?_
      refine lv_iconst (v := 2) hx hb dL_law_105 (by decide) ?_
      refine lv_ishr hx hb dL_law_106 ?_
      refine lv_bipush (v := 31) hx hb dL_law_107 (by decide) ?_
      refine lv_cvi (y := nI 31) (by decide) ?_
      refine sr_cSi (As := [.int (x >>> (2 &&& 31)), .int (nI 31)]) (rest := []) F (c_L_below l dC dI cI cZ cY (x >>> (2 &&& 31)) 31 ⟨by omega, by omega⟩) (va_cwS 2 hts gL_law_L_below rfl rfl rfl hd_L_below.2 ⟨Nat.le_of_ble_eq_true rfl, Nat.le_of_ble_eq_true rfl⟩) trivial hK rfl hl.1 rfl (lv_room (Nat.le_of_ble_eq_true rfl)) dL_law_109 ⟨(by first | exact Nat.le_of_ble_eq_true rfl | omega | (dsimp only; omega)), (by first | exact Nat.le_of_ble_eq_true rfl | omega | (dsimp only; omega))⟩ ?_
      refine lv_cvi (y := nI p9) (by rw [hp9]) ?_
      refine lv_istore (lv' := [(6, .int (nI p9)), (5, .int (nI n)), (4, .int x), (3, .int (nI i)), (2, .ref h), (1, .ref (a 0)), (0, .ref b9)]) hx hb dL_law_112 hl (by decide) rfl (fun ls hl => ?_)
      refine lv_iload hx hb dL_law_114 (lv_at hl 2 rfl) ?_
      refine lv_iconst (v := 4) hx hb dL_law_116 (by decide) ?_
      refine lv_ishr hx hb dL_law_117 ?_
      refine lv_bipush (v := 31) hx hb dL_law_118 (by decide) ?_
      refine lv_cvi (y := nI 31) (by decide) ?_
      refine sr_cSi (As := [.int (x >>> (4 &&& 31)), .int (nI 31)]) (rest := []) F (c_L_below l dC dI cI cZ cY (x >>> (4 &&& 31)) 31 ⟨by omega, by omega⟩) (va_cwS 2 hts gL_law_L_below rfl rfl rfl hd_L_below.2 ⟨Nat.le_of_ble_eq_true rfl, Nat.le_of_ble_eq_true rfl⟩) trivial hK rfl hl.1 rfl (lv_room (Nat.le_of_ble_eq_true rfl)) dL_law_120 ⟨(by first | exact Nat.le_of_ble_eq_true rfl | omega | (dsimp only; omega)), (by first | exact Nat.le_of_ble_eq_true rfl | omega | (dsimp only; omega))⟩ ?_
      refine lv_cvi (y := nI q9) (by rw [hq9]) ?_
      refine lv_istore (lv' := [(7, .int (nI q9)), (6, .int (nI p9)), (5, .int (nI n)), (4, .int x), (3, .int (nI i)), (2, .ref h), (1, .ref (a 0)), (0, .ref b9)]) hx hb dL_law_123 hl (by decide) rfl (fun ls hl => ?_)
      refine lv_iload_n hx hb dL_law_125 rfl (lv_at hl 4 rfl) ?_
      refine lv_iconst (v := 3) hx hb dL_law_126 (by decide) ?_
      refine lv_irem hx hb dL_law_127 (by decide) ?_
      refine lv_cvi (y := 1) ((pk_rem (a := i) (d := 3) (by omega) (by decide) (by decide)).trans (by rw [hr3]; rfl)) ?_
      refine lv_if_ne (tgt := 403) hx hb dL_law_128 (by decide) (fun c_15 => ?_) (fun c_15 => ?_)
      · refine lv_iload_n hx hb dL_law_403 rfl (lv_at hl 4 rfl) ?_
        refine lv_iconst (v := 3) hx hb dL_law_404 (by decide) ?_
        refine lv_irem hx hb dL_law_405 (by decide) ?_
        refine lv_cvi (y := 1) ((pk_rem (a := i) (d := 3) (by omega) (by decide) (by decide)).trans (by rw [hr3]; rfl)) ?_
        refine lv_iconst (v := 1) hx hb dL_law_406 (by decide) ?_
        refine lv_icmp_ne (tgt := 534) hx hb dL_law_407 (by decide) (fun c_16 => ?_) (fun c_16 => ?_)
        · exact absurd c_16 (by decide)
        · refine lv_aload_n hx hb dL_law_410 rfl (lv_at hl 6 rfl) ?_
          refine lv_iconst (v := 4) hx hb dL_law_411 (by decide) ?_
          refine lc_xi (As := [.int 4]) (rest := []) hX9 F (c_X1_count l hl0 dC dI cI cZ cY (a 0) (a 1) hs fx (a 2) (a 3) (a 4) (a 5) (a 6) (a 7) n t xs ys lf sy co (a 8) (a 9) (a 10) (a 11) (a 12) (a 13) n2 t2 xs2 ys2 lf2 sy2 co2 4 H12.size (by omega)) (cwV 1 hts gL_law_X1_count rfl rfl rfl hd_X1_count ⟨Nat.le_of_ble_eq_true rfl, Nat.le_of_ble_eq_true rfl⟩) (by decide) rfl hP hK hD hS hB (lW_recv hK.1 hP) rfl hl.1 rfl (lv_room (Nat.le_of_ble_eq_true rfl)) dL_law_412 ⟨(by first | exact Nat.le_of_ble_eq_true rfl | omega | (dsimp only; omega)), (by first | exact Nat.le_of_ble_eq_true rfl | omega | (dsimp only; omega))⟩ (fun H17 locs18 hP hD hY hS => ?_)
          have hP : va_P (dC, dI) vwCl (lW cI a (hs, fx, n, t, xs, ys, lf, sy, co, n2, t2, xs2, ys2, lf2, sy2, co2)) H17 := hP
          have hD : va_D (lB B0 h) (lW cI a (hs, fx, n, t, xs, ys, lf, sy, co, n2, t2, xs2, ys2, lf2, sy2, co2)) := hD
          have hC := hC.ext (hY.up (Nat.le_succ h))
          have hTt := hTt.ext (hY.up (Nat.le_succ h))
          have hSt := hSt.ext (hY.up (Nat.le_succ h))
          have hO := hO.ext hY
          refine lv_istore (lv' := [(8, .int (x_cntOf n t xs ys lf sy fx 4)), (7, .int (nI q9)), (6, .int (nI p9)), (5, .int (nI n)), (4, .int x), (3, .int (nI i)), (2, .ref h), (1, .ref (a 0)), (0, .ref b9)]) hx hb dL_law_415 hl (by decide) rfl (fun ls hl => ?_)
          refine lv_aload_n hx hb dL_law_417 rfl (lv_at hl 7 rfl) ?_
          refine lc_wi (As := []) (rest := []) F (c_X1_settles l dC dI cI cZ cY (a 0) (a 1) hs fx (a 2) (a 3) (a 4) (a 5) (a 6) (a 7) n t xs ys lf sy co (a 8) (a 9) (a 10) (a 11) (a 12) (a 13) n2 t2 xs2 ys2 lf2 sy2 co2 H17.size (by omega)) (cwV 0 hts gL_law_X1_settles rfl rfl rfl hd_X1_settles ⟨Nat.le_of_ble_eq_true rfl, Nat.le_of_ble_eq_true rfl⟩) rfl hP hK hD hS hB (lW_recv hK.1 hP) rfl hl.1 rfl (lv_room (Nat.le_of_ble_eq_true rfl)) dL_law_418 ⟨(by first | exact Nat.le_of_ble_eq_true rfl | omega | (dsimp only; omega)), (by first | exact Nat.le_of_ble_eq_true rfl | omega | (dsimp only; omega))⟩ (fun H19 locs20 hP hD hY hS => ?_)
          have hP : va_P (dC, dI) vwCl (lW cI a (hs, fx, n, t, xs, ys, lf, sy, co, n, (m_tuS n xs ys sy (t, lf, co) (m_tuN n xs ys sy (t, lf, co))).1, xs, ys, (m_tuS n xs ys sy (t, lf, co) (m_tuN n xs ys sy (t, lf, co))).2.1, sy, (m_tuS n xs ys sy (t, lf, co) (m_tuN n xs ys sy (t, lf, co))).2.2)) H19 := hP
          have hD : va_D (lB B0 h) (lW cI a (hs, fx, n, t, xs, ys, lf, sy, co, n, (m_tuS n xs ys sy (t, lf, co) (m_tuN n xs ys sy (t, lf, co))).1, xs, ys, (m_tuS n xs ys sy (t, lf, co) (m_tuN n xs ys sy (t, lf, co))).2.1, sy, (m_tuS n xs ys sy (t, lf, co) (m_tuN n xs ys sy (t, lf, co))).2.2)) := hD
          have hC := hC.ext (hY.up (Nat.le_succ h))
          have hTt := hTt.ext (hY.up (Nat.le_succ h))
          have hSt := hSt.ext (hY.up (Nat.le_succ h))
          have hO := hO.ext hY
          refine lv_istore (lv' := [(9, .int (nI (m_tuN n xs ys sy (t, lf, co)))), (8, .int (x_cntOf n t xs ys lf sy fx 4)), (7, .int (nI q9)), (6, .int (nI p9)), (5, .int (nI n)), (4, .int x), (3, .int (nI i)), (2, .ref h), (1, .ref (a 0)), (0, .ref b9)]) hx hb dL_law_421 hl (by decide) rfl (fun ls hl => ?_)
          refine lv_aload_n hx hb dL_law_423 rfl (lv_at hl 8 rfl) ?_
          refine lv_bipush (v := 6) hx hb dL_law_424 (by decide) ?_
          refine lc_xi (As := [.int 6]) (rest := []) hX9 F (c_X1_count l hl0 dC dI cI cZ cY (a 0) (a 1) hs fx (a 2) (a 3) (a 4) (a 5) (a 6) (a 7) n t xs ys lf sy co (a 8) (a 9) (a 10) (a 11) (a 12) (a 13) n ((m_tuS n xs ys sy (t, lf, co) (m_tuN n xs ys sy (t, lf, co))).1) xs ys ((m_tuS n xs ys sy (t, lf, co) (m_tuN n xs ys sy (t, lf, co))).2.1) sy ((m_tuS n xs ys sy (t, lf, co) (m_tuN n xs ys sy (t, lf, co))).2.2) 6 H19.size (by omega)) (cwV 1 hts gL_law_X1_count rfl rfl rfl hd_X1_count ⟨Nat.le_of_ble_eq_true rfl, Nat.le_of_ble_eq_true rfl⟩) (by decide) rfl hP hK hD hS hB (lW_recv hK.1 hP) rfl hl.1 rfl (lv_room (Nat.le_of_ble_eq_true rfl)) dL_law_426 ⟨(by first | exact Nat.le_of_ble_eq_true rfl | omega | (dsimp only; omega)), (by first | exact Nat.le_of_ble_eq_true rfl | omega | (dsimp only; omega))⟩ (fun H21 locs22 hP hD hY hS => ?_)
          have hP : va_P (dC, dI) vwCl (lW cI a (hs, fx, n, t, xs, ys, lf, sy, co, n, (m_tuS n xs ys sy (t, lf, co) (m_tuN n xs ys sy (t, lf, co))).1, xs, ys, (m_tuS n xs ys sy (t, lf, co) (m_tuN n xs ys sy (t, lf, co))).2.1, sy, (m_tuS n xs ys sy (t, lf, co) (m_tuN n xs ys sy (t, lf, co))).2.2)) H21 := hP
          have hD : va_D (lB B0 h) (lW cI a (hs, fx, n, t, xs, ys, lf, sy, co, n, (m_tuS n xs ys sy (t, lf, co) (m_tuN n xs ys sy (t, lf, co))).1, xs, ys, (m_tuS n xs ys sy (t, lf, co) (m_tuN n xs ys sy (t, lf, co))).2.1, sy, (m_tuS n xs ys sy (t, lf, co) (m_tuN n xs ys sy (t, lf, co))).2.2)) := hD
          have hC := hC.ext (hY.up (Nat.le_succ h))
          have hTt := hTt.ext (hY.up (Nat.le_succ h))
          have hSt := hSt.ext (hY.up (Nat.le_succ h))
          have hO := hO.ext hY
          refine lv_istore (lv' := [(10, .int (x_cntOf n t xs ys lf sy fx 6)), (9, .int (nI (m_tuN n xs ys sy (t, lf, co)))), (8, .int (x_cntOf n t xs ys lf sy fx 4)), (7, .int (nI q9)), (6, .int (nI p9)), (5, .int (nI n)), (4, .int x), (3, .int (nI i)), (2, .ref h), (1, .ref (a 0)), (0, .ref b9)]) hx hb dL_law_429 hl (by decide) rfl (fun ls hl => ?_)
          refine lv_aload_n hx hb dL_law_431 rfl (lv_at hl 9 rfl) ?_
          refine lc_wi (As := []) (rest := []) F (c_X1_settle l dC dI cI cZ cY (a 0) (a 1) hs fx (a 2) (a 3) (a 4) (a 5) (a 6) (a 7) n t xs ys lf sy co (a 8) (a 9) (a 10) (a 11) (a 12) (a 13) n ((m_tuS n xs ys sy (t, lf, co) (m_tuN n xs ys sy (t, lf, co))).1) xs ys ((m_tuS n xs ys sy (t, lf, co) (m_tuN n xs ys sy (t, lf, co))).2.1) sy ((m_tuS n xs ys sy (t, lf, co) (m_tuN n xs ys sy (t, lf, co))).2.2) H21.size (by omega)) (cwV 0 hts gL_law_X1_settle rfl rfl rfl hd_X1_settle ⟨Nat.le_of_ble_eq_true rfl, Nat.le_of_ble_eq_true rfl⟩) rfl hP hK hD hS hB (lW_recv hK.1 hP) rfl hl.1 rfl (lv_room (Nat.le_of_ble_eq_true rfl)) dL_law_432 ⟨(by first | exact Nat.le_of_ble_eq_true rfl | omega | (dsimp only; omega)), (by first | exact Nat.le_of_ble_eq_true rfl | omega | (dsimp only; omega))⟩ (fun H23 locs24 hP hD hY hS => ?_)
          have hP : va_P (dC, dI) vwCl (lW cI a (hs, fx + nI (m_tuN n xs ys sy (t, lf, co)), n, (m_tuS n xs ys sy (t, lf, co) (m_tuN n xs ys sy (t, lf, co))).1, xs, ys, (m_tuS n xs ys sy (t, lf, co) (m_tuN n xs ys sy (t, lf, co))).2.1, sy, (m_tuS n xs ys sy (t, lf, co) (m_tuN n xs ys sy (t, lf, co))).2.2, n, (m_tuS n xs ys sy (t, lf, co) (m_tuN n xs ys sy (t, lf, co))).1, xs, ys, (m_tuS n xs ys sy (t, lf, co) (m_tuN n xs ys sy (t, lf, co))).2.1, sy, (m_tuS n xs ys sy (t, lf, co) (m_tuN n xs ys sy (t, lf, co))).2.2)) H23 := hP
          have hD : va_D (lB B0 h) (lW cI a (hs, fx + nI (m_tuN n xs ys sy (t, lf, co)), n, (m_tuS n xs ys sy (t, lf, co) (m_tuN n xs ys sy (t, lf, co))).1, xs, ys, (m_tuS n xs ys sy (t, lf, co) (m_tuN n xs ys sy (t, lf, co))).2.1, sy, (m_tuS n xs ys sy (t, lf, co) (m_tuN n xs ys sy (t, lf, co))).2.2, n, (m_tuS n xs ys sy (t, lf, co) (m_tuN n xs ys sy (t, lf, co))).1, xs, ys, (m_tuS n xs ys sy (t, lf, co) (m_tuN n xs ys sy (t, lf, co))).2.1, sy, (m_tuS n xs ys sy (t, lf, co) (m_tuN n xs ys sy (t, lf, co))).2.2)) := hD
          have hC := hC.ext (hY.up (Nat.le_succ h))
          have hTt := hTt.ext (hY.up (Nat.le_succ h))
          have hSt := hSt.ext (hY.up (Nat.le_succ h))
          have hO := hO.ext hY
          refine lv_iload hx hb dL_law_435 (lv_at hl 1 rfl) ?_
          refine lv_icmp_ne (tgt := 473) hx hb dL_law_437 (by decide) (fun c_25 => ?_) (fun c_25 => ?_)
          · exact absurd rfl c_25
          · refine lv_aload_n hx hb dL_law_440 rfl (lv_at hl 8 rfl) ?_
            refine sc_cVHi (hh := h) (As := []) (rest := []) F (c_X2_settle l dC dI cI cZ cY h nC C nT T nS S fl (m_tuN n xs ys sy (t, lf, co)) W1 V1 (by omega) (by omega) HS5.1.1 HS5.1.2.1 HS5.1.2.2.1 HS5.1.2.2.2.1 HS5.1.2.2.2.2 H23.size) (cwV 0 hts gL_law_X2_settle rfl rfl rfl hd_X2_settle ⟨Nat.le_of_ble_eq_true rfl, Nat.le_of_ble_eq_true rfl⟩) ⟨qc, qt, qs, hO, hC, hTt, hSt, hn1, hn2⟩ hK hS hA hAh (sM.recv hK.1 ⟨qc, qt, qs, hO, hC, hTt, hSt, hn1, hn2⟩) rfl hl.1 rfl (lv_room (Nat.le_of_ble_eq_true rfl)) dL_law_441 ⟨(by first | exact Nat.le_of_ble_eq_true rfl | omega | (dsimp only; omega)), (by first | exact Nat.le_of_ble_eq_true rfl | omega | (dsimp only; omega))⟩ (fun H26 locs27 hf28 hZ hS => ?_)
            have hP := hP.hz9 hD hZ
            obtain ⟨qc30, qt30, qs30, hO, hC, hTt, hSt, hn1, hn2⟩ := hf28
            refine lv_iload hx hb dL_law_444 (lv_at hl 1 rfl) ?_
            refine lv_icmp_ne (tgt := 473) hx hb dL_law_446 (by decide) (fun c_31 => ?_) (fun c_31 => ?_)
            · exact absurd rfl c_31
            · refine lv_aload_n hx hb dL_law_449 rfl (lv_at hl 9 rfl) ?_
              refine lv_bipush (v := 6) hx hb dL_law_450 (by decide) ?_
              refine lc_xi (As := [.int 6]) (rest := []) hX9 F (c_X1_count l hl0 dC dI cI cZ cY (a 0) (a 1) hs (fx + nI (m_tuN n xs ys sy (t, lf, co))) (a 2) (a 3) (a 4) (a 5) (a 6) (a 7) n ((m_tuS n xs ys sy (t, lf, co) (m_tuN n xs ys sy (t, lf, co))).1) xs ys ((m_tuS n xs ys sy (t, lf, co) (m_tuN n xs ys sy (t, lf, co))).2.1) sy ((m_tuS n xs ys sy (t, lf, co) (m_tuN n xs ys sy (t, lf, co))).2.2) (a 8) (a 9) (a 10) (a 11) (a 12) (a 13) n ((m_tuS n xs ys sy (t, lf, co) (m_tuN n xs ys sy (t, lf, co))).1) xs ys ((m_tuS n xs ys sy (t, lf, co) (m_tuN n xs ys sy (t, lf, co))).2.1) sy ((m_tuS n xs ys sy (t, lf, co) (m_tuN n xs ys sy (t, lf, co))).2.2) 6 H26.size (by omega)) (cwV 1 hts gL_law_X1_count rfl rfl rfl hd_X1_count ⟨Nat.le_of_ble_eq_true rfl, Nat.le_of_ble_eq_true rfl⟩) (by decide) rfl hP hK hD hS hB (lW_recv hK.1 hP) rfl hl.1 rfl (lv_room (Nat.le_of_ble_eq_true rfl)) dL_law_452 ⟨(by first | exact Nat.le_of_ble_eq_true rfl | omega | (dsimp only; omega)), (by first | exact Nat.le_of_ble_eq_true rfl | omega | (dsimp only; omega))⟩ (fun H32 locs33 hP hD hY hS => ?_)
              have hP : va_P (dC, dI) vwCl (lW cI a (hs, fx + nI (m_tuN n xs ys sy (t, lf, co)), n, (m_tuS n xs ys sy (t, lf, co) (m_tuN n xs ys sy (t, lf, co))).1, xs, ys, (m_tuS n xs ys sy (t, lf, co) (m_tuN n xs ys sy (t, lf, co))).2.1, sy, (m_tuS n xs ys sy (t, lf, co) (m_tuN n xs ys sy (t, lf, co))).2.2, n, (m_tuS n xs ys sy (t, lf, co) (m_tuN n xs ys sy (t, lf, co))).1, xs, ys, (m_tuS n xs ys sy (t, lf, co) (m_tuN n xs ys sy (t, lf, co))).2.1, sy, (m_tuS n xs ys sy (t, lf, co) (m_tuN n xs ys sy (t, lf, co))).2.2)) H32 := hP
              have hD : va_D (lB B0 h) (lW cI a (hs, fx + nI (m_tuN n xs ys sy (t, lf, co)), n, (m_tuS n xs ys sy (t, lf, co) (m_tuN n xs ys sy (t, lf, co))).1, xs, ys, (m_tuS n xs ys sy (t, lf, co) (m_tuN n xs ys sy (t, lf, co))).2.1, sy, (m_tuS n xs ys sy (t, lf, co) (m_tuN n xs ys sy (t, lf, co))).2.2, n, (m_tuS n xs ys sy (t, lf, co) (m_tuN n xs ys sy (t, lf, co))).1, xs, ys, (m_tuS n xs ys sy (t, lf, co) (m_tuN n xs ys sy (t, lf, co))).2.1, sy, (m_tuS n xs ys sy (t, lf, co) (m_tuN n xs ys sy (t, lf, co))).2.2)) := hD
              have hC := hC.ext (hY.up (Nat.le_succ h))
              have hTt := hTt.ext (hY.up (Nat.le_succ h))
              have hSt := hSt.ext (hY.up (Nat.le_succ h))
              have hO := hO.ext hY
              refine lv_iload hx hb dL_law_455 (lv_at hl 0 rfl) ?_
              refine lv_iload hx hb dL_law_457 (lv_at hl 1 rfl) ?_
              refine lv_iadd hx hb dL_law_459 ?_
              refine lv_icmp_ne (tgt := 473) hx hb dL_law_460 (by decide) (fun c_34 => ?_) (fun c_34 => ?_)
              · exact absurd HS6 c_34
              · refine lv_aload_n hx hb dL_law_463 rfl (lv_at hl 9 rfl) ?_
                refine lv_iconst (v := 4) hx hb dL_law_464 (by decide) ?_
                refine lc_xi (As := [.int 4]) (rest := []) hX9 F (c_X1_count l hl0 dC dI cI cZ cY (a 0) (a 1) hs (fx + nI (m_tuN n xs ys sy (t, lf, co))) (a 2) (a 3) (a 4) (a 5) (a 6) (a 7) n ((m_tuS n xs ys sy (t, lf, co) (m_tuN n xs ys sy (t, lf, co))).1) xs ys ((m_tuS n xs ys sy (t, lf, co) (m_tuN n xs ys sy (t, lf, co))).2.1) sy ((m_tuS n xs ys sy (t, lf, co) (m_tuN n xs ys sy (t, lf, co))).2.2) (a 8) (a 9) (a 10) (a 11) (a 12) (a 13) n ((m_tuS n xs ys sy (t, lf, co) (m_tuN n xs ys sy (t, lf, co))).1) xs ys ((m_tuS n xs ys sy (t, lf, co) (m_tuN n xs ys sy (t, lf, co))).2.1) sy ((m_tuS n xs ys sy (t, lf, co) (m_tuN n xs ys sy (t, lf, co))).2.2) 4 H32.size (by omega)) (cwV 1 hts gL_law_X1_count rfl rfl rfl hd_X1_count ⟨Nat.le_of_ble_eq_true rfl, Nat.le_of_ble_eq_true rfl⟩) (by decide) rfl hP hK hD hS hB (lW_recv hK.1 hP) rfl hl.1 rfl (lv_room (Nat.le_of_ble_eq_true rfl)) dL_law_465 ⟨(by first | exact Nat.le_of_ble_eq_true rfl | omega | (dsimp only; omega)), (by first | exact Nat.le_of_ble_eq_true rfl | omega | (dsimp only; omega))⟩ (fun H35 locs36 hP hD hY hS => ?_)
                have hP : va_P (dC, dI) vwCl (lW cI a (hs, fx + nI (m_tuN n xs ys sy (t, lf, co)), n, (m_tuS n xs ys sy (t, lf, co) (m_tuN n xs ys sy (t, lf, co))).1, xs, ys, (m_tuS n xs ys sy (t, lf, co) (m_tuN n xs ys sy (t, lf, co))).2.1, sy, (m_tuS n xs ys sy (t, lf, co) (m_tuN n xs ys sy (t, lf, co))).2.2, n, (m_tuS n xs ys sy (t, lf, co) (m_tuN n xs ys sy (t, lf, co))).1, xs, ys, (m_tuS n xs ys sy (t, lf, co) (m_tuN n xs ys sy (t, lf, co))).2.1, sy, (m_tuS n xs ys sy (t, lf, co) (m_tuN n xs ys sy (t, lf, co))).2.2)) H35 := hP
                have hD : va_D (lB B0 h) (lW cI a (hs, fx + nI (m_tuN n xs ys sy (t, lf, co)), n, (m_tuS n xs ys sy (t, lf, co) (m_tuN n xs ys sy (t, lf, co))).1, xs, ys, (m_tuS n xs ys sy (t, lf, co) (m_tuN n xs ys sy (t, lf, co))).2.1, sy, (m_tuS n xs ys sy (t, lf, co) (m_tuN n xs ys sy (t, lf, co))).2.2, n, (m_tuS n xs ys sy (t, lf, co) (m_tuN n xs ys sy (t, lf, co))).1, xs, ys, (m_tuS n xs ys sy (t, lf, co) (m_tuN n xs ys sy (t, lf, co))).2.1, sy, (m_tuS n xs ys sy (t, lf, co) (m_tuN n xs ys sy (t, lf, co))).2.2)) := hD
                have hC := hC.ext (hY.up (Nat.le_succ h))
                have hTt := hTt.ext (hY.up (Nat.le_succ h))
                have hSt := hSt.ext (hY.up (Nat.le_succ h))
                have hO := hO.ext hY
                refine lv_iload hx hb dL_law_468 (lv_at hl 2 rfl) ?_
                refine lv_icmp_eq (tgt := 475) hx hb dL_law_470 (by decide) (fun c_37 => ?_) (fun c_37 => ?_)
                · refine lv_iconst (v := 0) hx hb dL_law_475 (by decide) ?_
                  refine lv_istore (lv' := [(11, .int 0), (10, .int (x_cntOf n t xs ys lf sy fx 6)), (9, .int (nI (m_tuN n xs ys sy (t, lf, co)))), (8, .int (x_cntOf n t xs ys lf sy fx 4)), (7, .int (nI q9)), (6, .int (nI p9)), (5, .int (nI n)), (4, .int x), (3, .int (nI i)), (2, .ref h), (1, .ref (a 0)), (0, .ref b9)]) hx hb dL_law_476 hl (by decide) rfl (fun ls hl => ?_)
                  have hL478_38 : ∀ (k39 : Nat) (v9 : Nat), (n - v9) < k39 → (v9 ≤ n) → ∀ (H42 : Heap) (locs43 : List Loc), hy h H35 H42 → va_S (fun q => B0 ≤ q) s.heap H42 locs43 → va_P (dC, dI) vwCl (lW cI a (hs, fx + nI (m_tuN n xs ys sy (t, lf, co)), n, (m_tuS n xs ys sy (t, lf, co) (m_tuN n xs ys sy (t, lf, co))).1, xs, ys, (m_tuS n xs ys sy (t, lf, co) (m_tuN n xs ys sy (t, lf, co))).2.1, sy, (m_tuS n xs ys sy (t, lf, co) (m_tuN n xs ys sy (t, lf, co))).2.2, n, (m_tuS n xs ys sy (t, lf, co) (m_tuN n xs ys sy (t, lf, co))).1, xs, ys, (m_tuS n xs ys sy (t, lf, co) (m_tuN n xs ys sy (t, lf, co))).2.1, sy, (m_tuS n xs ys sy (t, lf, co) (m_tuN n xs ys sy (t, lf, co))).2.2)) H42 → ∀ ls : Array Slot, lv_has ls 18 [(11, .int (nI v9)), (10, .int (x_cntOf n t xs ys lf sy fx 6)), (9, .int (nI (m_tuN n xs ys sy (t, lf, co)))), (8, .int (x_cntOf n t xs ys lf sy fx 4)), (7, .int (nI q9)), (6, .int (nI p9)), (5, .int (nI n)), (4, .int x), (3, .int (nI i)), (2, .ref h), (1, .ref (a 0)), (0, .ref b9)] → W p l e ({ frames := 2048, cells := 890197, slots := 6430878, locals := 84000 } : Room) s m #[Value.ref b9] below meth c H42 locs43 (c0 + (40 + M) + v9 * 90) (d0 + (200 + N) + v9 * 540) (lw_Z below #[Value.ref b9] s) (F0 m 478 ls []) := by
                    intro k39
                    induction k39 with
                    | zero => intro v9 hk; exact absurd hk (Nat.not_lt_zero _)
                    | succ k39 ih40 =>
                      intro v9 hk_478 hi_v9 H42 locs43 hB41 hS hP  ls hl
                      have hC := hC.ext (hB41.up (Nat.le_succ h))
                      have hTt := hTt.ext (hB41.up (Nat.le_succ h))
                      have hSt := hSt.ext (hB41.up (Nat.le_succ h))
                      have hO := hO.ext hB41
                      refine lv_iload hx hb dL_law_478 (lv_at hl 0 rfl) ?_
                      refine lv_iload hx hb dL_law_480 (lv_at hl 6 rfl) ?_
                      refine lv_icmp_ge (tgt := 534) hx hb dL_law_482 (by decide) (fun c_44 => ?_) (fun c_44 => ?_)
                      · have hge_v9 : n ≤ v9 := nI_le_le (by omega) (by omega) c_44
                        have heq_v9 : v9 = n := by omega
                        have hl : lv_has ls 18 [(11, .int (nI n)), (10, .int (x_cntOf n t xs ys lf sy fx 6)), (9, .int (nI (m_tuN n xs ys sy (t, lf, co)))), (8, .int (x_cntOf n t xs ys lf sy fx 4)), (7, .int (nI q9)), (6, .int (nI p9)), (5, .int (nI n)), (4, .int x), (3, .int (nI i)), (2, .ref h), (1, .ref (a 0)), (0, .ref b9)] := by rw [heq_v9] at hl; exact hl
                        refine lv_iload_n hx hb dL_law_534 rfl (lv_at hl 8 rfl) ?_
                        refine lv_iconst (v := 3) hx hb dL_law_535 (by decide) ?_
                        refine lv_irem hx hb dL_law_536 (by decide) ?_
                        refine lv_cvi (y := 1) ((pk_rem (a := i) (d := 3) (by omega) (by decide) (by decide)).trans (by rw [hr3]; rfl)) ?_
                        refine lv_iconst (v := 2) hx hb dL_law_537 (by decide) ?_
                        refine lv_icmp_ne (tgt := 711) hx hb dL_law_538 (by decide) (fun c_45 => ?_) (fun c_45 => ?_)
                        · refine lv_iinc (v := nI (i + 1)) (lv' := [(3, .int (nI (i + 1))), (11, .int (nI n)), (10, .int (x_cntOf n t xs ys lf sy fx 6)), (9, .int (nI (m_tuN n xs ys sy (t, lf, co)))), (8, .int (x_cntOf n t xs ys lf sy fx 4)), (7, .int (nI q9)), (6, .int (nI p9)), (5, .int (nI n)), (4, .int x), (2, .ref h), (1, .ref (a 0)), (0, .ref b9)]) hx hb dL_law_711 hl (k := 8) rfl (nI_1 _) (by decide) rfl (fun ls hl => ?_)
                          refine lv_goto (tgt := 22) hx hb dL_law_714 (by decide) ?_
                          refine W.widen (show (c0 + (40 + M) + v9 * 90) ≤ _ from (by omega)) (show (d0 + (200 + N) + v9 * 540) ≤ _ from (by omega)) (hnext (hs, fx + nI (m_tuN n xs ys sy (t, lf, co)), n, (m_tuS n xs ys sy (t, lf, co) (m_tuN n xs ys sy (t, lf, co))).1, xs, ys, (m_tuS n xs ys sy (t, lf, co) (m_tuN n xs ys sy (t, lf, co))).2.1, sy, (m_tuS n xs ys sy (t, lf, co) (m_tuN n xs ys sy (t, lf, co))).2.2, n, (m_tuS n xs ys sy (t, lf, co) (m_tuN n xs ys sy (t, lf, co))).1, xs, ys, (m_tuS n xs ys sy (t, lf, co) (m_tuN n xs ys sy (t, lf, co))).2.1, sy, (m_tuS n xs ys sy (t, lf, co) (m_tuN n xs ys sy (t, lf, co))).2.2) (nC, C, (s_sq nC C nS S (nT, T) (m_tuN n xs ys sy (t, lf, co))).1, (s_sq nC C nS S (nT, T) (m_tuN n xs ys sy (t, lf, co))).2, nS, S, (fl + nI (m_tuN n xs ys sy (t, lf, co)))) _ _ _ HS5.2 ⟨hP, hD, ⟨qc30, qt30, qs30, hO, hC, hTt, hSt, hn1, hn2⟩⟩ hS (lv_sub hl [0, 9, 10, 11] rfl))
                        · exact absurd c_45 (by decide)
                      · have hlt_v9 : v9 < n := nI_nle_lt (by omega) (by omega) c_44
                        refine lv_iconst (v := 0) hx hb dL_law_485 (by decide) ?_
                        refine lv_istore (lv' := [(12, .int 0), (11, .int (nI v9)), (10, .int (x_cntOf n t xs ys lf sy fx 6)), (9, .int (nI (m_tuN n xs ys sy (t, lf, co)))), (8, .int (x_cntOf n t xs ys lf sy fx 4)), (7, .int (nI q9)), (6, .int (nI p9)), (5, .int (nI n)), (4, .int x), (3, .int (nI i)), (2, .ref h), (1, .ref (a 0)), (0, .ref b9)]) hx hb dL_law_486 hl (by decide) rfl (fun ls hl => ?_)
                        have hL488_46 : ∀ (k47 : Nat) (w9 : Nat), (n - w9) < k47 → (w9 ≤ n) → ∀ (H50 : Heap) (locs51 : List Loc), hy h H42 H50 → va_S (fun q => B0 ≤ q) s.heap H50 locs51 → va_P (dC, dI) vwCl (lW cI a (hs, fx + nI (m_tuN n xs ys sy (t, lf, co)), n, (m_tuS n xs ys sy (t, lf, co) (m_tuN n xs ys sy (t, lf, co))).1, xs, ys, (m_tuS n xs ys sy (t, lf, co) (m_tuN n xs ys sy (t, lf, co))).2.1, sy, (m_tuS n xs ys sy (t, lf, co) (m_tuN n xs ys sy (t, lf, co))).2.2, n, (m_tuS n xs ys sy (t, lf, co) (m_tuN n xs ys sy (t, lf, co))).1, xs, ys, (m_tuS n xs ys sy (t, lf, co) (m_tuN n xs ys sy (t, lf, co))).2.1, sy, (m_tuS n xs ys sy (t, lf, co) (m_tuN n xs ys sy (t, lf, co))).2.2)) H50 → ∀ ls : Array Slot, lv_has ls 18 [(12, .int (nI w9)), (11, .int (nI v9)), (10, .int (x_cntOf n t xs ys lf sy fx 6)), (9, .int (nI (m_tuN n xs ys sy (t, lf, co)))), (8, .int (x_cntOf n t xs ys lf sy fx 4)), (7, .int (nI q9)), (6, .int (nI p9)), (5, .int (nI n)), (4, .int x), (3, .int (nI i)), (2, .ref h), (1, .ref (a 0)), (0, .ref b9)] → W p l e ({ frames := 2048, cells := 890197, slots := 6430878, locals := 84000 } : Room) s m #[Value.ref b9] below meth c H50 locs51 (c0 + (40 + M) + v9 * 90 + w9 * 6) (d0 + (200 + N) + v9 * 540 + w9 * 36) (lw_Z below #[Value.ref b9] s) (F0 m 488 ls []) := by
                          intro k47
                          induction k47 with
                          | zero => intro w9 hk; exact absurd hk (Nat.not_lt_zero _)
                          | succ k47 ih48 =>
                            intro w9 hk_488 hi_w9 H50 locs51 hB49 hS hP  ls hl
                            have hB41 := hB41.tr hB49
                            have hC := hC.ext (hB49.up (Nat.le_succ h))
                            have hTt := hTt.ext (hB49.up (Nat.le_succ h))
                            have hSt := hSt.ext (hB49.up (Nat.le_succ h))
                            have hO := hO.ext hB49
                            refine lv_iload hx hb dL_law_488 (lv_at hl 0 rfl) ?_
                            refine lv_iload hx hb dL_law_490 (lv_at hl 7 rfl) ?_
                            refine lv_icmp_ge (tgt := 528) hx hb dL_law_492 (by decide) (fun c_52 => ?_) (fun c_52 => ?_)
                            · have hge_w9 : n ≤ w9 := nI_le_le (by omega) (by omega) c_52
                              have heq_w9 : w9 = n := by omega
                              have hl : lv_has ls 18 [(12, .int (nI n)), (11, .int (nI v9)), (10, .int (x_cntOf n t xs ys lf sy fx 6)), (9, .int (nI (m_tuN n xs ys sy (t, lf, co)))), (8, .int (x_cntOf n t xs ys lf sy fx 4)), (7, .int (nI q9)), (6, .int (nI p9)), (5, .int (nI n)), (4, .int x), (3, .int (nI i)), (2, .ref h), (1, .ref (a 0)), (0, .ref b9)] := by rw [heq_w9] at hl; exact hl
                              refine lv_iinc (v := nI (v9 + 1)) (lv' := [(11, .int (nI (v9 + 1))), (12, .int (nI n)), (10, .int (x_cntOf n t xs ys lf sy fx 6)), (9, .int (nI (m_tuN n xs ys sy (t, lf, co)))), (8, .int (x_cntOf n t xs ys lf sy fx 4)), (7, .int (nI q9)), (6, .int (nI p9)), (5, .int (nI n)), (4, .int x), (3, .int (nI i)), (2, .ref h), (1, .ref (a 0)), (0, .ref b9)]) hx hb dL_law_528 hl (k := 1) rfl (nI_1 _) (by decide) rfl (fun ls hl => ?_)
                              refine lv_goto (tgt := 478) hx hb dL_law_531 (by decide) ?_
                              have hl := lv_sub (l' := [(11, .int (nI (v9 + 1))), (10, .int (x_cntOf n t xs ys lf sy fx 6)), (9, .int (nI (m_tuN n xs ys sy (t, lf, co)))), (8, .int (x_cntOf n t xs ys lf sy fx 4)), (7, .int (nI q9)), (6, .int (nI p9)), (5, .int (nI n)), (4, .int x), (3, .int (nI i)), (2, .ref h), (1, .ref (a 0)), (0, .ref b9)]) hl [0, 2, 3, 4, 5, 6, 7, 8, 9, 10, 11, 12] rfl
                              have hl : lv_has ls 18 [(11, .int (nI (v9 + 1))), (10, .int (x_cntOf n t xs ys lf sy fx 6)), (9, .int (nI (m_tuN n xs ys sy (t, lf, co)))), (8, .int (x_cntOf n t xs ys lf sy fx 4)), (7, .int (nI q9)), (6, .int (nI p9)), (5, .int (nI n)), (4, .int x), (3, .int (nI i)), (2, .ref h), (1, .ref (a 0)), (0, .ref b9)] := by
                                have e9 : [(11, .int (nI (v9 + 1))), (10, .int (x_cntOf n t xs ys lf sy fx 6)), (9, .int (nI (m_tuN n xs ys sy (t, lf, co)))), (8, .int (x_cntOf n t xs ys lf sy fx 4)), (7, .int (nI q9)), (6, .int (nI p9)), (5, .int (nI n)), (4, .int x), (3, .int (nI i)), (2, .ref h), (1, .ref (a 0)), (0, .ref b9)] = ([(11, .int (nI (v9 + 1))), (10, .int (x_cntOf n t xs ys lf sy fx 6)), (9, .int (nI (m_tuN n xs ys sy (t, lf, co)))), (8, .int (x_cntOf n t xs ys lf sy fx 4)), (7, .int (nI q9)), (6, .int (nI p9)), (5, .int (nI n)), (4, .int x), (3, .int (nI i)), (2, .ref h), (1, .ref (a 0)), (0, .ref b9)] : List (Nat × Value)) := by rfl
                                rw [← e9]; exact hl
                              refine W.widen (show (c0 + (40 + M) + v9 * 90 + w9 * 6) ≤ c0 + (40 + M) + (v9 + 1) * 90 from (by omega)) (show (d0 + (200 + N) + v9 * 540 + w9 * 36) ≤ d0 + (200 + N) + (v9 + 1) * 540 from (by omega)) ?_
                              exact ih40 (v9 + 1) (by omega) (by omega) _ _ hB41 hS hP  _ hl
                            · have hlt_w9 : w9 < n := nI_nle_lt (by omega) (by omega) c_52
                              refine lv_aload_n hx hb dL_law_495 rfl (lv_at hl 11 rfl) ?_
                              refine lv_iload hx hb dL_law_496 (lv_at hl 1 rfl) ?_
                              refine lv_iload hx hb dL_law_498 (lv_at hl 0 rfl) ?_
                              refine lv_iconst (v := 3) hx hb dL_law_500 (by decide) ?_
                              refine lc_xi (As := [.int (nI v9), .int (nI w9), .int 3]) (rest := []) hX9 F (c_X1_edge l hl0 dC dI cI cZ cY (a 0) (a 1) hs (fx + nI (m_tuN n xs ys sy (t, lf, co))) (a 2) (a 3) (a 4) (a 5) (a 6) (a 7) n ((m_tuS n xs ys sy (t, lf, co) (m_tuN n xs ys sy (t, lf, co))).1) xs ys ((m_tuS n xs ys sy (t, lf, co) (m_tuN n xs ys sy (t, lf, co))).2.1) sy ((m_tuS n xs ys sy (t, lf, co) (m_tuN n xs ys sy (t, lf, co))).2.2) (a 8) (a 9) (a 10) (a 11) (a 12) (a 13) n ((m_tuS n xs ys sy (t, lf, co) (m_tuN n xs ys sy (t, lf, co))).1) xs ys ((m_tuS n xs ys sy (t, lf, co) (m_tuN n xs ys sy (t, lf, co))).2.1) sy ((m_tuS n xs ys sy (t, lf, co) (m_tuN n xs ys sy (t, lf, co))).2.2) (nI v9) (nI w9) 3 H50.size ) (cwV 3 hts gL_law_X1_edge rfl rfl rfl hd_X1_edge ⟨Nat.le_of_ble_eq_true rfl, Nat.le_of_ble_eq_true rfl⟩) (HSE v9 w9 hlt_v9 hlt_w9).1 rfl hP hK hD hS hB (lW_recv hK.1 hP) rfl hl.1 rfl (lv_room (Nat.le_of_ble_eq_true rfl)) dL_law_501 ⟨(by first | exact Nat.le_of_ble_eq_true rfl | omega | (dsimp only; omega)), (by first | exact Nat.le_of_ble_eq_true rfl | omega | (dsimp only; omega))⟩ (fun H53 locs54 hP hD hY hS => ?_)
                              have hP : va_P (dC, dI) vwCl (lW cI a (hs, fx + nI (m_tuN n xs ys sy (t, lf, co)), n, (m_tuS n xs ys sy (t, lf, co) (m_tuN n xs ys sy (t, lf, co))).1, xs, ys, (m_tuS n xs ys sy (t, lf, co) (m_tuN n xs ys sy (t, lf, co))).2.1, sy, (m_tuS n xs ys sy (t, lf, co) (m_tuN n xs ys sy (t, lf, co))).2.2, n, (m_tuS n xs ys sy (t, lf, co) (m_tuN n xs ys sy (t, lf, co))).1, xs, ys, (m_tuS n xs ys sy (t, lf, co) (m_tuN n xs ys sy (t, lf, co))).2.1, sy, (m_tuS n xs ys sy (t, lf, co) (m_tuN n xs ys sy (t, lf, co))).2.2)) H53 := hP
                              have hD : va_D (lB B0 h) (lW cI a (hs, fx + nI (m_tuN n xs ys sy (t, lf, co)), n, (m_tuS n xs ys sy (t, lf, co) (m_tuN n xs ys sy (t, lf, co))).1, xs, ys, (m_tuS n xs ys sy (t, lf, co) (m_tuN n xs ys sy (t, lf, co))).2.1, sy, (m_tuS n xs ys sy (t, lf, co) (m_tuN n xs ys sy (t, lf, co))).2.2, n, (m_tuS n xs ys sy (t, lf, co) (m_tuN n xs ys sy (t, lf, co))).1, xs, ys, (m_tuS n xs ys sy (t, lf, co) (m_tuN n xs ys sy (t, lf, co))).2.1, sy, (m_tuS n xs ys sy (t, lf, co) (m_tuN n xs ys sy (t, lf, co))).2.2)) := hD
                              have hC := hC.ext (hY.up (Nat.le_succ h))
                              have hTt := hTt.ext (hY.up (Nat.le_succ h))
                              have hSt := hSt.ext (hY.up (Nat.le_succ h))
                              have hO := hO.ext hY
                              have hB41 := hB41.tr hY
                              have hB49 := hB49.tr hY
                              refine lv_iconst (v := 1) hx hb dL_law_504 (by decide) ?_
                              refine lv_icmp_ne (tgt := 522) hx hb dL_law_505 (by decide) (fun c_55 => ?_) (fun c_55 => ?_)
                              · refine lv_iinc (v := nI (w9 + 1)) (lv' := [(12, .int (nI (w9 + 1))), (11, .int (nI v9)), (10, .int (x_cntOf n t xs ys lf sy fx 6)), (9, .int (nI (m_tuN n xs ys sy (t, lf, co)))), (8, .int (x_cntOf n t xs ys lf sy fx 4)), (7, .int (nI q9)), (6, .int (nI p9)), (5, .int (nI n)), (4, .int x), (3, .int (nI i)), (2, .ref h), (1, .ref (a 0)), (0, .ref b9)]) hx hb dL_law_522 hl (k := 0) rfl (nI_1 _) (by decide) rfl (fun ls hl => ?_)
                                refine lv_goto (tgt := 488) hx hb dL_law_525 (by decide) ?_
                                have hl := lv_sub (l' := [(12, .int (nI (w9 + 1))), (11, .int (nI v9)), (10, .int (x_cntOf n t xs ys lf sy fx 6)), (9, .int (nI (m_tuN n xs ys sy (t, lf, co)))), (8, .int (x_cntOf n t xs ys lf sy fx 4)), (7, .int (nI q9)), (6, .int (nI p9)), (5, .int (nI n)), (4, .int x), (3, .int (nI i)), (2, .ref h), (1, .ref (a 0)), (0, .ref b9)]) hl [0, 1, 2, 3, 4, 5, 6, 7, 8, 9, 10, 11, 12] rfl
                                have hl : lv_has ls 18 [(12, .int (nI (w9 + 1))), (11, .int (nI v9)), (10, .int (x_cntOf n t xs ys lf sy fx 6)), (9, .int (nI (m_tuN n xs ys sy (t, lf, co)))), (8, .int (x_cntOf n t xs ys lf sy fx 4)), (7, .int (nI q9)), (6, .int (nI p9)), (5, .int (nI n)), (4, .int x), (3, .int (nI i)), (2, .ref h), (1, .ref (a 0)), (0, .ref b9)] := by
                                  have e9 : [(12, .int (nI (w9 + 1))), (11, .int (nI v9)), (10, .int (x_cntOf n t xs ys lf sy fx 6)), (9, .int (nI (m_tuN n xs ys sy (t, lf, co)))), (8, .int (x_cntOf n t xs ys lf sy fx 4)), (7, .int (nI q9)), (6, .int (nI p9)), (5, .int (nI n)), (4, .int x), (3, .int (nI i)), (2, .ref h), (1, .ref (a 0)), (0, .ref b9)] = ([(12, .int (nI (w9 + 1))), (11, .int (nI v9)), (10, .int (x_cntOf n t xs ys lf sy fx 6)), (9, .int (nI (m_tuN n xs ys sy (t, lf, co)))), (8, .int (x_cntOf n t xs ys lf sy fx 4)), (7, .int (nI q9)), (6, .int (nI p9)), (5, .int (nI n)), (4, .int x), (3, .int (nI i)), (2, .ref h), (1, .ref (a 0)), (0, .ref b9)] : List (Nat × Value)) := by rfl
                                  rw [← e9]; exact hl
                                refine W.widen (show ((c0 + (40 + M) + v9 * 90 + w9 * 6) + 3) ≤ c0 + (40 + M) + v9 * 90 + (w9 + 1) * 6 from (by omega)) (show ((d0 + (200 + N) + v9 * 540 + w9 * 36) + 18) ≤ d0 + (200 + N) + v9 * 540 + (w9 + 1) * 36 from (by omega)) ?_
                                exact ih48 (w9 + 1) (by omega) (by omega) _ _ hB49 hS hP  _ hl
                              · refine lv_aload_n hx hb dL_law_508 rfl (lv_at hl 11 rfl) ?_
                                refine lv_iload hx hb dL_law_509 (lv_at hl 1 rfl) ?_
                                refine lv_iload hx hb dL_law_511 (lv_at hl 0 rfl) ?_
                                refine lv_iconst (v := 2) hx hb dL_law_513 (by decide) ?_
                                refine lc_xi (As := [.int (nI v9), .int (nI w9), .int 2]) (rest := []) hX9 F (c_X1_edge l hl0 dC dI cI cZ cY (a 0) (a 1) hs (fx + nI (m_tuN n xs ys sy (t, lf, co))) (a 2) (a 3) (a 4) (a 5) (a 6) (a 7) n ((m_tuS n xs ys sy (t, lf, co) (m_tuN n xs ys sy (t, lf, co))).1) xs ys ((m_tuS n xs ys sy (t, lf, co) (m_tuN n xs ys sy (t, lf, co))).2.1) sy ((m_tuS n xs ys sy (t, lf, co) (m_tuN n xs ys sy (t, lf, co))).2.2) (a 8) (a 9) (a 10) (a 11) (a 12) (a 13) n ((m_tuS n xs ys sy (t, lf, co) (m_tuN n xs ys sy (t, lf, co))).1) xs ys ((m_tuS n xs ys sy (t, lf, co) (m_tuN n xs ys sy (t, lf, co))).2.1) sy ((m_tuS n xs ys sy (t, lf, co) (m_tuN n xs ys sy (t, lf, co))).2.2) (nI v9) (nI w9) 2 H53.size ) (cwV 3 hts gL_law_X1_edge rfl rfl rfl hd_X1_edge ⟨Nat.le_of_ble_eq_true rfl, Nat.le_of_ble_eq_true rfl⟩) (HSE v9 w9 hlt_v9 hlt_w9).2.1 rfl hP hK hD hS hB (lW_recv hK.1 hP) rfl hl.1 rfl (lv_room (Nat.le_of_ble_eq_true rfl)) dL_law_514 ⟨(by first | exact Nat.le_of_ble_eq_true rfl | omega | (dsimp only; omega)), (by first | exact Nat.le_of_ble_eq_true rfl | omega | (dsimp only; omega))⟩ (fun H56 locs57 hP hD hY hS => ?_)
                                have hP : va_P (dC, dI) vwCl (lW cI a (hs, fx + nI (m_tuN n xs ys sy (t, lf, co)), n, (m_tuS n xs ys sy (t, lf, co) (m_tuN n xs ys sy (t, lf, co))).1, xs, ys, (m_tuS n xs ys sy (t, lf, co) (m_tuN n xs ys sy (t, lf, co))).2.1, sy, (m_tuS n xs ys sy (t, lf, co) (m_tuN n xs ys sy (t, lf, co))).2.2, n, (m_tuS n xs ys sy (t, lf, co) (m_tuN n xs ys sy (t, lf, co))).1, xs, ys, (m_tuS n xs ys sy (t, lf, co) (m_tuN n xs ys sy (t, lf, co))).2.1, sy, (m_tuS n xs ys sy (t, lf, co) (m_tuN n xs ys sy (t, lf, co))).2.2)) H56 := hP
                                have hD : va_D (lB B0 h) (lW cI a (hs, fx + nI (m_tuN n xs ys sy (t, lf, co)), n, (m_tuS n xs ys sy (t, lf, co) (m_tuN n xs ys sy (t, lf, co))).1, xs, ys, (m_tuS n xs ys sy (t, lf, co) (m_tuN n xs ys sy (t, lf, co))).2.1, sy, (m_tuS n xs ys sy (t, lf, co) (m_tuN n xs ys sy (t, lf, co))).2.2, n, (m_tuS n xs ys sy (t, lf, co) (m_tuN n xs ys sy (t, lf, co))).1, xs, ys, (m_tuS n xs ys sy (t, lf, co) (m_tuN n xs ys sy (t, lf, co))).2.1, sy, (m_tuS n xs ys sy (t, lf, co) (m_tuN n xs ys sy (t, lf, co))).2.2)) := hD
                                have hC := hC.ext (hY.up (Nat.le_succ h))
                                have hTt := hTt.ext (hY.up (Nat.le_succ h))
                                have hSt := hSt.ext (hY.up (Nat.le_succ h))
                                have hO := hO.ext hY
                                have hB41 := hB41.tr hY
                                have hB49 := hB49.tr hY
                                refine lv_if_ne (tgt := 522) hx hb dL_law_517 (by decide) (fun c_58 => ?_) (fun c_58 => ?_)
                                · refine lv_iinc (v := nI (w9 + 1)) (lv' := [(12, .int (nI (w9 + 1))), (11, .int (nI v9)), (10, .int (x_cntOf n t xs ys lf sy fx 6)), (9, .int (nI (m_tuN n xs ys sy (t, lf, co)))), (8, .int (x_cntOf n t xs ys lf sy fx 4)), (7, .int (nI q9)), (6, .int (nI p9)), (5, .int (nI n)), (4, .int x), (3, .int (nI i)), (2, .ref h), (1, .ref (a 0)), (0, .ref b9)]) hx hb dL_law_522 hl (k := 0) rfl (nI_1 _) (by decide) rfl (fun ls hl => ?_)
                                  refine lv_goto (tgt := 488) hx hb dL_law_525 (by decide) ?_
                                  have hl := lv_sub (l' := [(12, .int (nI (w9 + 1))), (11, .int (nI v9)), (10, .int (x_cntOf n t xs ys lf sy fx 6)), (9, .int (nI (m_tuN n xs ys sy (t, lf, co)))), (8, .int (x_cntOf n t xs ys lf sy fx 4)), (7, .int (nI q9)), (6, .int (nI p9)), (5, .int (nI n)), (4, .int x), (3, .int (nI i)), (2, .ref h), (1, .ref (a 0)), (0, .ref b9)]) hl [0, 1, 2, 3, 4, 5, 6, 7, 8, 9, 10, 11, 12] rfl
                                  have hl : lv_has ls 18 [(12, .int (nI (w9 + 1))), (11, .int (nI v9)), (10, .int (x_cntOf n t xs ys lf sy fx 6)), (9, .int (nI (m_tuN n xs ys sy (t, lf, co)))), (8, .int (x_cntOf n t xs ys lf sy fx 4)), (7, .int (nI q9)), (6, .int (nI p9)), (5, .int (nI n)), (4, .int x), (3, .int (nI i)), (2, .ref h), (1, .ref (a 0)), (0, .ref b9)] := by
                                    have e9 : [(12, .int (nI (w9 + 1))), (11, .int (nI v9)), (10, .int (x_cntOf n t xs ys lf sy fx 6)), (9, .int (nI (m_tuN n xs ys sy (t, lf, co)))), (8, .int (x_cntOf n t xs ys lf sy fx 4)), (7, .int (nI q9)), (6, .int (nI p9)), (5, .int (nI n)), (4, .int x), (3, .int (nI i)), (2, .ref h), (1, .ref (a 0)), (0, .ref b9)] = ([(12, .int (nI (w9 + 1))), (11, .int (nI v9)), (10, .int (x_cntOf n t xs ys lf sy fx 6)), (9, .int (nI (m_tuN n xs ys sy (t, lf, co)))), (8, .int (x_cntOf n t xs ys lf sy fx 4)), (7, .int (nI q9)), (6, .int (nI p9)), (5, .int (nI n)), (4, .int x), (3, .int (nI i)), (2, .ref h), (1, .ref (a 0)), (0, .ref b9)] : List (Nat × Value)) := by rfl
                                    rw [← e9]; exact hl
                                  refine W.widen (show (((c0 + (40 + M) + v9 * 90 + w9 * 6) + 3) + 3) ≤ c0 + (40 + M) + v9 * 90 + (w9 + 1) * 6 from (by omega)) (show (((d0 + (200 + N) + v9 * 540 + w9 * 36) + 18) + 18) ≤ d0 + (200 + N) + v9 * 540 + (w9 + 1) * 36 from (by omega)) ?_
                                  exact ih48 (w9 + 1) (by omega) (by omega) _ _ hB49 hS hP  _ hl
                                · exact absurd c_58 ((HSE v9 w9 hlt_v9 hlt_w9).2.2 c_55)
                        have hl := lv_sub (l' := [(12, .int 0), (11, .int (nI v9)), (10, .int (x_cntOf n t xs ys lf sy fx 6)), (9, .int (nI (m_tuN n xs ys sy (t, lf, co)))), (8, .int (x_cntOf n t xs ys lf sy fx 4)), (7, .int (nI q9)), (6, .int (nI p9)), (5, .int (nI n)), (4, .int x), (3, .int (nI i)), (2, .ref h), (1, .ref (a 0)), (0, .ref b9)]) hl [0, 1, 2, 3, 4, 5, 6, 7, 8, 9, 10, 11, 12] rfl
                        have hl : lv_has ls 18 [(12, .int (nI 0)), (11, .int (nI v9)), (10, .int (x_cntOf n t xs ys lf sy fx 6)), (9, .int (nI (m_tuN n xs ys sy (t, lf, co)))), (8, .int (x_cntOf n t xs ys lf sy fx 4)), (7, .int (nI q9)), (6, .int (nI p9)), (5, .int (nI n)), (4, .int x), (3, .int (nI i)), (2, .ref h), (1, .ref (a 0)), (0, .ref b9)] := by
                          have e9 : [(12, .int 0), (11, .int (nI v9)), (10, .int (x_cntOf n t xs ys lf sy fx 6)), (9, .int (nI (m_tuN n xs ys sy (t, lf, co)))), (8, .int (x_cntOf n t xs ys lf sy fx 4)), (7, .int (nI q9)), (6, .int (nI p9)), (5, .int (nI n)), (4, .int x), (3, .int (nI i)), (2, .ref h), (1, .ref (a 0)), (0, .ref b9)] = ([(12, .int (nI 0)), (11, .int (nI v9)), (10, .int (x_cntOf n t xs ys lf sy fx 6)), (9, .int (nI (m_tuN n xs ys sy (t, lf, co)))), (8, .int (x_cntOf n t xs ys lf sy fx 4)), (7, .int (nI q9)), (6, .int (nI p9)), (5, .int (nI n)), (4, .int x), (3, .int (nI i)), (2, .ref h), (1, .ref (a 0)), (0, .ref b9)] : List (Nat × Value)) := by rfl
                          rw [← e9]; exact hl
                        refine W.widen (show (c0 + (40 + M) + v9 * 90) ≤ c0 + (40 + M) + v9 * 90 + 0 * 6 from (by omega)) (show (d0 + (200 + N) + v9 * 540) ≤ d0 + (200 + N) + v9 * 540 + 0 * 36 from (by omega)) ?_
                        exact hL488_46 _ 0 (Nat.lt_succ_self _) (by omega) _ _ hy.rf hS hP  _ hl
                  have hl := lv_sub (l' := [(11, .int 0), (10, .int (x_cntOf n t xs ys lf sy fx 6)), (9, .int (nI (m_tuN n xs ys sy (t, lf, co)))), (8, .int (x_cntOf n t xs ys lf sy fx 4)), (7, .int (nI q9)), (6, .int (nI p9)), (5, .int (nI n)), (4, .int x), (3, .int (nI i)), (2, .ref h), (1, .ref (a 0)), (0, .ref b9)]) hl [0, 1, 2, 3, 4, 5, 6, 7, 8, 9, 10, 11] rfl
                  have hl : lv_has ls 18 [(11, .int (nI 0)), (10, .int (x_cntOf n t xs ys lf sy fx 6)), (9, .int (nI (m_tuN n xs ys sy (t, lf, co)))), (8, .int (x_cntOf n t xs ys lf sy fx 4)), (7, .int (nI q9)), (6, .int (nI p9)), (5, .int (nI n)), (4, .int x), (3, .int (nI i)), (2, .ref h), (1, .ref (a 0)), (0, .ref b9)] := by
                    have e9 : [(11, .int 0), (10, .int (x_cntOf n t xs ys lf sy fx 6)), (9, .int (nI (m_tuN n xs ys sy (t, lf, co)))), (8, .int (x_cntOf n t xs ys lf sy fx 4)), (7, .int (nI q9)), (6, .int (nI p9)), (5, .int (nI n)), (4, .int x), (3, .int (nI i)), (2, .ref h), (1, .ref (a 0)), (0, .ref b9)] = ([(11, .int (nI 0)), (10, .int (x_cntOf n t xs ys lf sy fx 6)), (9, .int (nI (m_tuN n xs ys sy (t, lf, co)))), (8, .int (x_cntOf n t xs ys lf sy fx 4)), (7, .int (nI q9)), (6, .int (nI p9)), (5, .int (nI n)), (4, .int x), (3, .int (nI i)), (2, .ref h), (1, .ref (a 0)), (0, .ref b9)] : List (Nat × Value)) := by rfl
                    rw [← e9]; exact hl
                  refine W.widen (show (((((((((((((c0 + 1) + 1) + 1) + 1) + 1) + 1) + 1) + 0) + 1) + 0) + (((m_tuN n xs ys sy (t, lf, co)) + 1) * W1)) + 1) + 1) ≤ c0 + (40 + M) + 0 * 90 from (by omega)) (show (((((((((((((d0 + 6) + 6) + 6) + 6) + 6) + 6) + 6) + 0) + 6) + 0) + (((m_tuN n xs ys sy (t, lf, co)) + 1) * V1)) + 6) + 6) ≤ d0 + (200 + N) + 0 * 540 from (by omega)) ?_
                  exact hL478_38 _ 0 (Nat.lt_succ_self _) (by omega) _ _ hy.rf hS hP  _ hl
                · exact absurd HS4 c_37
      · exact absurd c_15 (by decide)
    · exact absurd HE.2 c_14
