/-! the law: a flip, by program (gens.py) -/
set_option maxHeartbeats 8000000 in
set_option maxRecDepth 100000 in
theorem lw_b2 {p : Program} {l : Launch} {e : Env} {s : State} {m : MethodId} {below : List Frame} {meth : Method} {c : Code} (dC : Nat → ClassId) (dI : Nat → Nat → Nat) (cI cZ cY : ClassId) {b9 L : Nat} {sc : Nat → Int32} (a : Nat → Nat) (B0 h : Nat) (hs : Nat → Int32) (fx : Int32) (n t : Nat) (xs ys lf sy co : Nat → Int32) (n2 t2 : Nat) (xs2 ys2 lf2 sy2 co2 : Nat → Int32) (nC : Nat) (C : Nat → Nat → Int32) (nT : Nat) (T : Nat → Nat → Int32) (nS : Nat) (S : Nat → Nat → Int32) (fl : Int32) (x : Int32) (i : Nat) (R : lX → lS → Prop) (p9 q9 : Nat) (hp9 : p9 = l_bel (x >>> (2 &&& 31)) 31) (hq9 : q9 = l_bel (x >>> (4 &&& 31)) 31) (ka kb : Nat) (hC0 : lw_At p s m meth c b9 L sc) (hl0 : l.stackTraces = false) (hX9 : xE (fun q => B0 ≤ q) s s.heap) (hK : kS (dC, dI) cI cZ cY s) (hB : B0 ≤ s.heap.size) (hi : i < 14) (hr3 : i % 3 = 2) (hnC : 1 ≤ nC ∧ nC ≤ 16) (hnT : 1 ≤ nT ∧ nT ≤ 30) (hnS : nS ≤ 200) (hn : 1 ≤ n ∧ n ≤ 15) (ht : t ≤ 28) (hF : s_okF nC nT T) (hok : ∀ k : Nat, k < nT → ∀ j : Nat, j < 3 → vp_in (T k j) nC) (hR0 : R (hs, fx, n, t, xs, ys, lf, sy, co, n2, t2, xs2, ys2, lf2, sy2, co2) (nC, C, nT, T, nS, S, fl))
    (HE : (x_cntOf n t xs ys lf sy fx 2) + 1 = nI n + (x_cntOf n t xs ys lf sy fx 1) ∧ 2 * (x_cntOf n t xs ys lf sy fx 2) = 3 * (x_cntOf n t xs ys lf sy fx 1) + (x_cntOf n t xs ys lf sy fx 3)) (hka : ka = l_bel x n) (hkb : kb = l_bel (x >>> (5 &&& 31)) n) (HA4 : x_okEd n (nI ka) (nI kb) 4 = true) (HA3 : x_okEd n (nI ka) (nI kb) 3 = true)
    (HF : x_eFact n xs ys lf sy (nI ka) (nI kb) 4 = 1 → (s_fa T (nI ka) (nI kb) nT).1 = 2 ∧ x_okFl n xs ys lf sy (nI kb) (nI ka) = true ∧ 16 * min32 (m_leftOf lf (nI kb) (nI ka)) (m_leftOf lf (nI ka) (nI kb)) + max32 (m_leftOf lf (nI kb) (nI ka)) (m_leftOf lf (nI ka) (nI kb)) = (s_edge nT T (nI ka) (nI kb)) ∧ (x_okEd n (nI ka) (nI kb) 0 = true ∧ x_eFact n xs ys (m_tE n xs ys lf (nI kb) (nI ka)) sy (nI ka) (nI kb) 0 = 0) ∧ (x_okEd n ((s_edge nT T (nI ka) (nI kb)) / 16) ((s_edge nT T (nI ka) (nI kb)) - (s_edge nT T (nI ka) (nI kb)) / 16 * 16) 0 = true ∧ x_eFact n xs ys (m_tE n xs ys lf (nI kb) (nI ka)) sy ((s_edge nT T (nI ka) (nI kb)) / 16) ((s_edge nT T (nI ka) (nI kb)) - (s_edge nT T (nI ka) (nI kb)) / 16 * 16) 0 = 1) ∧ (x_okEd n ((s_edge nT T (nI ka) (nI kb)) / 16) ((s_edge nT T (nI ka) (nI kb)) - (s_edge nT T (nI ka) (nI kb)) / 16 * 16) 2 = true ∧ x_eFact n xs ys (m_tE n xs ys lf (nI kb) (nI ka)) sy ((s_edge nT T (nI ka) (nI kb)) / 16) ((s_edge nT T (nI ka) (nI kb)) - (s_edge nT T (nI ka) (nI kb)) / 16 * 16) 2 = 0) ∧ x_okEd n ((s_edge nT T (nI ka) (nI kb)) / 16) ((s_edge nT T (nI ka) (nI kb)) - (s_edge nT T (nI ka) (nI kb)) / 16 * 16) 3 = true ∧ (x_cntOf n ((m_list n (m_tE n xs ys lf (nI kb) (nI ka)) co).1) xs ys (m_tE n xs ys lf (nI kb) (nI ka)) sy (fx + 1) 2) = (x_cntOf n t xs ys lf sy fx 2) ∧ (x_eFact n xs ys lf sy (nI ka) (nI kb) 3 = 1 → ¬ x_eFact n xs ys (m_tE n xs ys lf (nI kb) (nI ka)) sy ((s_edge nT T (nI ka) (nI kb)) / 16) ((s_edge nT T (nI ka) (nI kb)) - (s_edge nT T (nI ka) (nI kb)) / 16 * 16) 3 = 1) ∧ R (hs, fx + 1, n, (m_list n (m_tE n xs ys lf (nI kb) (nI ka)) co).1, xs, ys, m_tE n xs ys lf (nI kb) (nI ka), sy, (m_list n (m_tE n xs ys lf (nI kb) (nI ka)) co).2, n2, t2, xs2, ys2, lf2, sy2, co2) (nC, C, (s_flip nT T (nI ka) (nI kb)).1, (s_flip nT T (nI ka) (nI kb)).2, nS, S, fl + 1))
    (H0 : Heap) (locs0 : List Loc) (c0 d0 : Nat) (hc0 : c0 + 200 ≤ 890197) (hd0 : d0 + 1000 ≤ 6430878) (hJ : lJ (dC, dI) cI cY a B0 h (hs, fx, n, t, xs, ys, lf, sy, co, n2, t2, xs2, ys2, lf2, sy2, co2) (nC, C, nT, T, nS, S, fl) H0) (hS : va_S (fun q => B0 ≤ q) s.heap H0 locs0) (ls : Array Slot) (hl : lv_has ls 18 [(4, .int x), (3, .int (nI i)), (2, .ref h), (1, .ref (a 0)), (0, .ref b9)])
    (hnext : ∀ (u1 : lX) (v1 : lS) (H : Heap) (locs : List Loc) (ls : Array Slot), R u1 v1 → lJ (dC, dI) cI cY a B0 h u1 v1 H → va_S (fun q => B0 ≤ q) s.heap H locs → lv_has ls 18 [(3, .int (nI (i + 1))), (2, .ref h), (1, .ref (a 0)), (0, .ref b9)] → W p l e ({ frames := 2048, cells := 890197, slots := 6430878, locals := 84000 } : Room) s m #[Value.ref b9] below meth c H locs (c0 + 200) (d0 + 1000) (lw_Z below #[Value.ref b9] s) (F0 m 22 ls [])) : W p l e ({ frames := 2048, cells := 890197, slots := 6430878, locals := 84000 } : Room) s m #[Value.ref b9] below meth c H0 locs0 c0 d0 (lw_Z below #[Value.ref b9] s) (F0 m 53 ls []) := by
  obtain ⟨hx, hb, hr, hml, hown, hts0, hX, hbl, hlocks, hgv⟩ := hC0
  have hts : ∀ w ∈ wsL_law, w.before #[Value.ref b9] s = true := fun w h => hts0 w (wsL_law_in w h)
  have F : CallFix p m c cL_law 18 s #[Value.ref b9] wsL_law RL := ⟨hx, hb, hml, hown, hts⟩
  have hA : ∀ q : Nat, s.heap.size ≤ q → B0 ≤ q := fun q z => Nat.le_trans hB z
  obtain ⟨hP, hD, qc, qt, qs, hO, hC, hTt, hSt, hn1, hn2⟩ := hJ
  have hC : hT cI cY (h + 1) H0 qc nC 3 C := hC
  have hTt : hT cI cY (h + 1) H0 qt nT 3 T := hTt
  have hSt : hT cI cY (h + 1) H0 qs nS 2 S := hSt
  have hO : sO (dC, dI) H0 h qc qt qs fl := hO
  have hAh : B0 ≤ h := Nat.le_trans (hD.2 0 _ rfl).1 (Nat.le_of_lt (hD.2 0 _ rfl).2)
  have hok1 : ∀ i : Nat, i < nT → ∀ j : Nat, j < 3 → vp_in (T i j) (nC + 1) := fun i hi j hj => in_up (hok i hi j hj)
  refine lv_aload_n hx hb dL_law_53 rfl (lv_at hl 3 rfl) ?_
  refine lv_iconst (v := 0) hx hb dL_law_54 (by decide) ?_
  refine lc_xi (As := [.int 0]) (rest := []) hX9 F (c_X1_count l hl0 dC dI cI cZ cY (a 0) (a 1) hs fx (a 2) (a 3) (a 4) (a 5) (a 6) (a 7) n t xs ys lf sy co (a 8) (a 9) (a 10) (a 11) (a 12) (a 13) n2 t2 xs2 ys2 lf2 sy2 co2 0 H0.size (by omega)) (cwV 1 hts gL_law_X1_count rfl rfl rfl hd_X1_count ⟨Nat.le_of_ble_eq_true rfl, Nat.le_of_ble_eq_true rfl⟩) (by decide) rfl hP hK hD hS hB (lW_recv hK.1 hP) rfl hl.1 rfl (lv_room (Nat.le_of_ble_eq_true rfl)) dL_law_55 ⟨(by first | exact Nat.le_of_ble_eq_true rfl | omega | (dsimp only; omega)), (by first | exact Nat.le_of_ble_eq_true rfl | omega | (dsimp only; omega))⟩ (fun H1 locs2 hP hD hY hS => ?_)
  have hP : va_P (dC, dI) vwCl (lW cI a (hs, fx, n, t, xs, ys, lf, sy, co, n2, t2, xs2, ys2, lf2, sy2, co2)) H1 := hP
  have hD : va_D (lB B0 h) (lW cI a (hs, fx, n, t, xs, ys, lf, sy, co, n2, t2, xs2, ys2, lf2, sy2, co2)) := hD
  have hC := hC.ext (hY.up (Nat.le_succ h))
  have hTt := hTt.ext (hY.up (Nat.le_succ h))
  have hSt := hSt.ext (hY.up (Nat.le_succ h))
  have hO := hO.ext hY
  refine lv_cvi (y := nI n) (by rfl) ?_
  refine lv_istore (lv' := [(5, .int (nI n)), (4, .int x), (3, .int (nI i)), (2, .ref h), (1, .ref (a 0)), (0, .ref b9)]) hx hb dL_law_58 hl (by decide) rfl (fun ls hl => ?_)
  refine lv_aload_n hx hb dL_law_60 rfl (lv_at hl 4 rfl) ?_
  refine lv_iconst (v := 2) hx hb dL_law_61 (by decide) ?_
  refine lc_xi (As := [.int 2]) (rest := []) hX9 F (c_X1_count l hl0 dC dI cI cZ cY (a 0) (a 1) hs fx (a 2) (a 3) (a 4) (a 5) (a 6) (a 7) n t xs ys lf sy co (a 8) (a 9) (a 10) (a 11) (a 12) (a 13) n2 t2 xs2 ys2 lf2 sy2 co2 2 H1.size (by omega)) (cwV 1 hts gL_law_X1_count rfl rfl rfl hd_X1_count ⟨Nat.le_of_ble_eq_true rfl, Nat.le_of_ble_eq_true rfl⟩) (by decide) rfl hP hK hD hS hB (lW_recv hK.1 hP) rfl hl.1 rfl (lv_room (Nat.le_of_ble_eq_true rfl)) dL_law_62 ⟨(by first | exact Nat.le_of_ble_eq_true rfl | omega | (dsimp only; omega)), (by first | exact Nat.le_of_ble_eq_true rfl | omega | (dsimp only; omega))⟩ (fun H3 locs4 hP hD hY hS => ?_)
  have hP : va_P (dC, dI) vwCl (lW cI a (hs, fx, n, t, xs, ys, lf, sy, co, n2, t2, xs2, ys2, lf2, sy2, co2)) H3 := hP
  have hD : va_D (lB B0 h) (lW cI a (hs, fx, n, t, xs, ys, lf, sy, co, n2, t2, xs2, ys2, lf2, sy2, co2)) := hD
  have hC := hC.ext (hY.up (Nat.le_succ h))
  have hTt := hTt.ext (hY.up (Nat.le_succ h))
  have hSt := hSt.ext (hY.up (Nat.le_succ h))
  have hO := hO.ext hY
  refine lv_iconst (v := 1) hx hb dL_law_65 (by decide) ?_
  refine lv_iadd hx hb dL_law_66 ?_
  refine lv_iload hx hb dL_law_67 (lv_at hl 0 rfl) ?_
  refine lv_aload_n hx hb dL_law_69 rfl (lv_at hl 4 rfl) ?_
  refine lv_iconst (v := 1) hx hb dL_law_70 (by decide) ?_
  refine lc_xi (As := [.int 1]) (rest := [.int (nI n), .int ((x_cntOf n t xs ys lf sy fx 2) + 1)]) hX9 F (c_X1_count l hl0 dC dI cI cZ cY (a 0) (a 1) hs fx (a 2) (a 3) (a 4) (a 5) (a 6) (a 7) n t xs ys lf sy co (a 8) (a 9) (a 10) (a 11) (a 12) (a 13) n2 t2 xs2 ys2 lf2 sy2 co2 1 H3.size (by omega)) (cwV 1 hts gL_law_X1_count rfl rfl rfl hd_X1_count ⟨Nat.le_of_ble_eq_true rfl, Nat.le_of_ble_eq_true rfl⟩) (by decide) rfl hP hK hD hS hB (lW_recv hK.1 hP) rfl hl.1 rfl (lv_room (Nat.le_of_ble_eq_true rfl)) dL_law_71 ⟨(by first | exact Nat.le_of_ble_eq_true rfl | omega | (dsimp only; omega)), (by first | exact Nat.le_of_ble_eq_true rfl | omega | (dsimp only; omega))⟩ (fun H5 locs6 hP hD hY hS => ?_)
  have hP : va_P (dC, dI) vwCl (lW cI a (hs, fx, n, t, xs, ys, lf, sy, co, n2, t2, xs2, ys2, lf2, sy2, co2)) H5 := hP
  have hD : va_D (lB B0 h) (lW cI a (hs, fx, n, t, xs, ys, lf, sy, co, n2, t2, xs2, ys2, lf2, sy2, co2)) := hD
  have hC := hC.ext (hY.up (Nat.le_succ h))
  have hTt := hTt.ext (hY.up (Nat.le_succ h))
  have hSt := hSt.ext (hY.up (Nat.le_succ h))
  have hO := hO.ext hY
  refine lv_iadd hx hb dL_law_74 ?_
  refine lv_icmp_ne (tgt := 101) hx hb dL_law_75 (by decide) (fun c_7 => ?_) (fun c_7 => ?_)
  · exact absurd HE.1 c_7
  · refine lv_iconst (v := 2) hx hb dL_law_78 (by decide) ?_
    refine lv_aload_n hx hb dL_law_79 rfl (lv_at hl 4 rfl) ?_
    refine lv_iconst (v := 2) hx hb dL_law_80 (by decide) ?_
    refine lc_xi (As := [.int 2]) (rest := [.int 2]) hX9 F (c_X1_count l hl0 dC dI cI cZ cY (a 0) (a 1) hs fx (a 2) (a 3) (a 4) (a 5) (a 6) (a 7) n t xs ys lf sy co (a 8) (a 9) (a 10) (a 11) (a 12) (a 13) n2 t2 xs2 ys2 lf2 sy2 co2 2 H5.size (by omega)) (cwV 1 hts gL_law_X1_count rfl rfl rfl hd_X1_count ⟨Nat.le_of_ble_eq_true rfl, Nat.le_of_ble_eq_true rfl⟩) (by decide) rfl hP hK hD hS hB (lW_recv hK.1 hP) rfl hl.1 rfl (lv_room (Nat.le_of_ble_eq_true rfl)) dL_law_81 ⟨(by first | exact Nat.le_of_ble_eq_true rfl | omega | (dsimp only; omega)), (by first | exact Nat.le_of_ble_eq_true rfl | omega | (dsimp only; omega))⟩ (fun H8 locs9 hP hD hY hS => ?_)
    have hP : va_P (dC, dI) vwCl (lW cI a (hs, fx, n, t, xs, ys, lf, sy, co, n2, t2, xs2, ys2, lf2, sy2, co2)) H8 := hP
    have hD : va_D (lB B0 h) (lW cI a (hs, fx, n, t, xs, ys, lf, sy, co, n2, t2, xs2, ys2, lf2, sy2, co2)) := hD
    have hC := hC.ext (hY.up (Nat.le_succ h))
    have hTt := hTt.ext (hY.up (Nat.le_succ h))
    have hSt := hSt.ext (hY.up (Nat.le_succ h))
    have hO := hO.ext hY
    refine lv_imul hx hb dL_law_84 ?_
    refine lv_iconst (v := 3) hx hb dL_law_85 (by decide) ?_
    refine lv_aload_n hx hb dL_law_86 rfl (lv_at hl 4 rfl) ?_
    refine lv_iconst (v := 1) hx hb dL_law_87 (by decide) ?_
    refine lc_xi (As := [.int 1]) (rest := [.int 3, .int (2 * (x_cntOf n t xs ys lf sy fx 2))]) hX9 F (c_X1_count l hl0 dC dI cI cZ cY (a 0) (a 1) hs fx (a 2) (a 3) (a 4) (a 5) (a 6) (a 7) n t xs ys lf sy co (a 8) (a 9) (a 10) (a 11) (a 12) (a 13) n2 t2 xs2 ys2 lf2 sy2 co2 1 H8.size (by omega)) (cwV 1 hts gL_law_X1_count rfl rfl rfl hd_X1_count ⟨Nat.le_of_ble_eq_true rfl, Nat.le_of_ble_eq_true rfl⟩) (by decide) rfl hP hK hD hS hB (lW_recv hK.1 hP) rfl hl.1 rfl (lv_room (Nat.le_of_ble_eq_true rfl)) dL_law_88 ⟨(by first | exact Nat.le_of_ble_eq_true rfl | omega | (dsimp only; omega)), (by first | exact Nat.le_of_ble_eq_true rfl | omega | (dsimp only; omega))⟩ (fun H10 locs11 hP hD hY hS => ?_)
    have hP : va_P (dC, dI) vwCl (lW cI a (hs, fx, n, t, xs, ys, lf, sy, co, n2, t2, xs2, ys2, lf2, sy2, co2)) H10 := hP
    have hD : va_D (lB B0 h) (lW cI a (hs, fx, n, t, xs, ys, lf, sy, co, n2, t2, xs2, ys2, lf2, sy2, co2)) := hD
    have hC := hC.ext (hY.up (Nat.le_succ h))
    have hTt := hTt.ext (hY.up (Nat.le_succ h))
    have hSt := hSt.ext (hY.up (Nat.le_succ h))
    have hO := hO.ext hY
    refine lv_imul hx hb dL_law_91 ?_
    refine lv_aload_n hx hb dL_law_92 rfl (lv_at hl 4 rfl) ?_
    refine lv_iconst (v := 3) hx hb dL_law_93 (by decide) ?_
    refine lc_xi (As := [.int 3]) (rest := [.int (3 * (x_cntOf n t xs ys lf sy fx 1)), .int (2 * (x_cntOf n t xs ys lf sy fx 2))]) hX9 F (c_X1_count l hl0 dC dI cI cZ cY (a 0) (a 1) hs fx (a 2) (a 3) (a 4) (a 5) (a 6) (a 7) n t xs ys lf sy co (a 8) (a 9) (a 10) (a 11) (a 12) (a 13) n2 t2 xs2 ys2 lf2 sy2 co2 3 H10.size (by omega)) (cwV 1 hts gL_law_X1_count rfl rfl rfl hd_X1_count ⟨Nat.le_of_ble_eq_true rfl, Nat.le_of_ble_eq_true rfl⟩) (by decide) rfl hP hK hD hS hB (lW_recv hK.1 hP) rfl hl.1 rfl (lv_room (Nat.le_of_ble_eq_true rfl)) dL_law_94 ⟨(by first | exact Nat.le_of_ble_eq_true rfl | omega | (dsimp only; omega)), (by first | exact Nat.le_of_ble_eq_true rfl | omega | (dsimp only; omega))⟩ (fun H12 locs13 hP hD hY hS => ?_)
    have hP : va_P (dC, dI) vwCl (lW cI a (hs, fx, n, t, xs, ys, lf, sy, co, n2, t2, xs2, ys2, lf2, sy2, co2)) H12 := hP
    have hD : va_D (lB B0 h) (lW cI a (hs, fx, n, t, xs, ys, lf, sy, co, n2, t2, xs2, ys2, lf2, sy2, co2)) := hD
    have hC := hC.ext (hY.up (Nat.le_succ h))
    have hTt := hTt.ext (hY.up (Nat.le_succ h))
    have hSt := hSt.ext (hY.up (Nat.le_succ h))
    have hO := hO.ext hY
    refine lv_iadd hx hb dL_law_97 ?_
    refine lv_icmp_eq (tgt := 103) hx hb dL_law_98 (by decide) (fun c_14 => ?_) (fun c_14 => ?_)
    · refine lv_iload hx hb dL_law_103 (lv_at hl 1 rfl) ?_
      refine lv_iconst (v := 2) hx hb dL_law_105 (by decide) ?_
      refine lv_ishr hx hb dL_law_106 ?_
      refine lv_bipush (v := 31) hx hb dL_law_107 (by decide) ?_
      refine lv_cvi (y := nI 31) (by decide) ?_
      refine sr_cSi (As := [.int (x >>> (2 &&& 31)), .int (nI 31)]) (rest := []) F (c_L_below l dC dI cI cZ cY (x >>> (2 &&& 31)) 31 ⟨by omega, by omega⟩) (va_cwS 2 hts gL_law_L_below rfl rfl rfl hd_L_below.2 ⟨Nat.le_of_ble_eq_true rfl, Nat.le_of_ble_eq_true rfl⟩) trivial hK rfl hl.1 rfl (lv_room (Nat.le_of_ble_eq_true rfl)) dL_law_109 ⟨(by first | exact Nat.le_of_ble_eq_true rfl | omega | (dsimp only; omega)), (by first | exact Nat.le_of_ble_eq_true rfl | omega | (dsimp only; omega))⟩ ?_
      refine lv_cvi (y := nI p9) (by rw [hp9]) ?_
      refine lv_istore (lv' := [(6, .int (nI p9)), (5, .int (nI n)), (4, .int x), (3, .int (nI i)), (2, .ref h), (1, .ref (a 0)), (0, .ref b9)]) hx hb dL_law_112 hl (by decide) rfl (fun ls hl => ?_)
      refine lv_iload hx hb dL_law_114 (lv_at hl 2 rfl) ?_
      refine lv_iconst (v := 4) hx hb dL_law_116 (by decide) ?_
      refine lv_ishr hx hb dL_law_117 ?_
      refine lv_bipush (v := 31) hx hb dL_law_118 (by decide) ?_
      refine lv_cvi (y := nI 31) (by decide) ?_
      refine sr_cSi (As := [.int (x >>> (4 &&& 31)), .int (nI 31)]) (rest := []) F (c_L_below l dC dI cI cZ cY (x >>> (4 &&& 31)) 31 ⟨by omega, by omega⟩) (va_cwS 2 hts gL_law_L_below rfl rfl rfl hd_L_below.2 ⟨Nat.le_of_ble_eq_true rfl, Nat.le_of_ble_eq_true rfl⟩) trivial hK rfl hl.1 rfl (lv_room (Nat.le_of_ble_eq_true rfl)) dL_law_120 ⟨(by first | exact Nat.le_of_ble_eq_true rfl | omega | (dsimp only; omega)), (by first | exact Nat.le_of_ble_eq_true rfl | omega | (dsimp only; omega))⟩ ?_
      refine lv_cvi (y := nI q9) (by rw [hq9]) ?_
      refine lv_istore (lv' := [(7, .int (nI q9)), (6, .int (nI p9)), (5, .int (nI n)), (4, .int x), (3, .int (nI i)), (2, .ref h), (1, .ref (a 0)), (0, .ref b9)]) hx hb dL_law_123 hl (by decide) rfl (fun ls hl => ?_)
      refine lv_iload_n hx hb dL_law_125 rfl (lv_at hl 4 rfl) ?_
      refine lv_iconst (v := 3) hx hb dL_law_126 (by decide) ?_
      refine lv_irem hx hb dL_law_127 (by decide) ?_
      refine lv_cvi (y := 2) ((pk_rem (a := i) (d := 3) (by omega) (by decide) (by decide)).trans (by rw [hr3]; rfl)) ?_
      refine lv_if_ne (tgt := 403) hx hb dL_law_128 (by decide) (fun c_15 => ?_) (fun c_15 => ?_)
      · refine lv_iload_n hx hb dL_law_403 rfl (lv_at hl 4 rfl) ?_
        refine lv_iconst (v := 3) hx hb dL_law_404 (by decide) ?_
        refine lv_irem hx hb dL_law_405 (by decide) ?_
        refine lv_cvi (y := 2) ((pk_rem (a := i) (d := 3) (by omega) (by decide) (by decide)).trans (by rw [hr3]; rfl)) ?_
        refine lv_iconst (v := 1) hx hb dL_law_406 (by decide) ?_
        refine lv_icmp_ne (tgt := 534) hx hb dL_law_407 (by decide) (fun c_16 => ?_) (fun c_16 => ?_)
        · refine lv_iload_n hx hb dL_law_534 rfl (lv_at hl 4 rfl) ?_
          refine lv_iconst (v := 3) hx hb dL_law_535 (by decide) ?_
          refine lv_irem hx hb dL_law_536 (by decide) ?_
          refine lv_cvi (y := 2) ((pk_rem (a := i) (d := 3) (by omega) (by decide) (by decide)).trans (by rw [hr3]; rfl)) ?_
          refine lv_iconst (v := 2) hx hb dL_law_537 (by decide) ?_
          refine lv_icmp_ne (tgt := 711) hx hb dL_law_538 (by decide) (fun c_17 => ?_) (fun c_17 => ?_)
          · exact absurd c_17 (by decide)
          · refine lv_iload hx hb dL_law_541 (lv_at hl 3 rfl) ?_
            refine lv_iload hx hb dL_law_543 (lv_at hl 2 rfl) ?_
            refine sr_cSi (As := [.int x, .int (nI n)]) (rest := []) F (c_L_below l dC dI cI cZ cY x n ⟨by omega, by omega⟩) (va_cwS 2 hts gL_law_L_below rfl rfl rfl hd_L_below.2 ⟨Nat.le_of_ble_eq_true rfl, Nat.le_of_ble_eq_true rfl⟩) trivial hK rfl hl.1 rfl (lv_room (Nat.le_of_ble_eq_true rfl)) dL_law_545 ⟨(by first | exact Nat.le_of_ble_eq_true rfl | omega | (dsimp only; omega)), (by first | exact Nat.le_of_ble_eq_true rfl | omega | (dsimp only; omega))⟩ ?_
            refine lv_cvi (y := nI ka) (by rw [hka]) ?_
            refine lv_istore (lv' := [(8, .int (nI ka)), (7, .int (nI q9)), (6, .int (nI p9)), (5, .int (nI n)), (4, .int x), (3, .int (nI i)), (2, .ref h), (1, .ref (a 0)), (0, .ref b9)]) hx hb dL_law_548 hl (by decide) rfl (fun ls hl => ?_)
            refine lv_iload hx hb dL_law_550 (lv_at hl 4 rfl) ?_
            refine lv_iconst (v := 5) hx hb dL_law_552 (by decide) ?_
            refine lv_ishr hx hb dL_law_553 ?_
            refine lv_iload hx hb dL_law_554 (lv_at hl 3 rfl) ?_
            refine sr_cSi (As := [.int (x >>> (5 &&& 31)), .int (nI n)]) (rest := []) F (c_L_below l dC dI cI cZ cY (x >>> (5 &&& 31)) n ⟨by omega, by omega⟩) (va_cwS 2 hts gL_law_L_below rfl rfl rfl hd_L_below.2 ⟨Nat.le_of_ble_eq_true rfl, Nat.le_of_ble_eq_true rfl⟩) trivial hK rfl hl.1 rfl (lv_room (Nat.le_of_ble_eq_true rfl)) dL_law_556 ⟨(by first | exact Nat.le_of_ble_eq_true rfl | omega | (dsimp only; omega)), (by first | exact Nat.le_of_ble_eq_true rfl | omega | (dsimp only; omega))⟩ ?_
            refine lv_cvi (y := nI kb) (by rw [hkb]) ?_
            refine lv_istore (lv' := [(9, .int (nI kb)), (8, .int (nI ka)), (7, .int (nI q9)), (6, .int (nI p9)), (5, .int (nI n)), (4, .int x), (3, .int (nI i)), (2, .ref h), (1, .ref (a 0)), (0, .ref b9)]) hx hb dL_law_559 hl (by decide) rfl (fun ls hl => ?_)
            refine lv_aload_n hx hb dL_law_561 rfl (lv_at hl 8 rfl) ?_
            refine lv_iload hx hb dL_law_562 (lv_at hl 1 rfl) ?_
            refine lv_iload hx hb dL_law_564 (lv_at hl 0 rfl) ?_
            refine lv_iconst (v := 4) hx hb dL_law_566 (by decide) ?_
            refine lc_xi (As := [.int (nI ka), .int (nI kb), .int 4]) (rest := []) hX9 F (c_X1_edge l hl0 dC dI cI cZ cY (a 0) (a 1) hs fx (a 2) (a 3) (a 4) (a 5) (a 6) (a 7) n t xs ys lf sy co (a 8) (a 9) (a 10) (a 11) (a 12) (a 13) n2 t2 xs2 ys2 lf2 sy2 co2 (nI ka) (nI kb) 4 H12.size ) (cwV 3 hts gL_law_X1_edge rfl rfl rfl hd_X1_edge ⟨Nat.le_of_ble_eq_true rfl, Nat.le_of_ble_eq_true rfl⟩) HA4 rfl hP hK hD hS hB (lW_recv hK.1 hP) rfl hl.1 rfl (lv_room (Nat.le_of_ble_eq_true rfl)) dL_law_567 ⟨(by first | exact Nat.le_of_ble_eq_true rfl | omega | (dsimp only; omega)), (by first | exact Nat.le_of_ble_eq_true rfl | omega | (dsimp only; omega))⟩ (fun H18 locs19 hP hD hY hS => ?_)
            have hP : va_P (dC, dI) vwCl (lW cI a (hs, fx, n, t, xs, ys, lf, sy, co, n2, t2, xs2, ys2, lf2, sy2, co2)) H18 := hP
            have hD : va_D (lB B0 h) (lW cI a (hs, fx, n, t, xs, ys, lf, sy, co, n2, t2, xs2, ys2, lf2, sy2, co2)) := hD
            have hC := hC.ext (hY.up (Nat.le_succ h))
            have hTt := hTt.ext (hY.up (Nat.le_succ h))
            have hSt := hSt.ext (hY.up (Nat.le_succ h))
            have hO := hO.ext hY
            refine lv_iconst (v := 1) hx hb dL_law_570 (by decide) ?_
            refine lv_icmp_ne (tgt := 711) hx hb dL_law_571 (by decide) (fun c_20 => ?_) (fun c_20 => ?_)
            · refine lv_iinc (v := nI (i + 1)) (lv' := [(3, .int (nI (i + 1))), (9, .int (nI kb)), (8, .int (nI ka)), (7, .int (nI q9)), (6, .int (nI p9)), (5, .int (nI n)), (4, .int x), (2, .ref h), (1, .ref (a 0)), (0, .ref b9)]) hx hb dL_law_711 hl (k := 6) rfl (nI_1 _) (by decide) rfl (fun ls hl => ?_)
              refine lv_goto (tgt := 22) hx hb dL_law_714 (by decide) ?_
              refine W.widen (show (((((((c0 + 1) + 1) + 1) + 1) + 1) + 1) + 3) ≤ _ from (by omega)) (show (((((((d0 + 6) + 6) + 6) + 6) + 6) + 6) + 18) ≤ _ from (by omega)) (hnext (hs, fx, n, t, xs, ys, lf, sy, co, n2, t2, xs2, ys2, lf2, sy2, co2) (nC, C, nT, T, nS, S, fl) _ _ _ hR0 ⟨hP, hD, ⟨qc, qt, qs, hO, hC, hTt, hSt, hn1, hn2⟩⟩ hS (lv_sub hl [0, 7, 8, 9] rfl))
            · obtain ⟨hfa, hfo, hfa2, ⟨ho0, he0⟩, ⟨ho1, he1⟩, ⟨ho2, he2⟩, ho3, hcc, hwas, hR9⟩ := HF c_20
              have hct2 := s_ct_le (nT := nT) (T := T) (a := nI ka) (b := nI kb)
              refine lv_aload_n hx hb dL_law_574 rfl (lv_at hl 8 rfl) ?_
              refine lv_iload hx hb dL_law_575 (lv_at hl 1 rfl) ?_
              refine lv_iload hx hb dL_law_577 (lv_at hl 0 rfl) ?_
              refine lv_iconst (v := 3) hx hb dL_law_579 (by decide) ?_
              refine lc_xi (As := [.int (nI ka), .int (nI kb), .int 3]) (rest := []) hX9 F (c_X1_edge l hl0 dC dI cI cZ cY (a 0) (a 1) hs fx (a 2) (a 3) (a 4) (a 5) (a 6) (a 7) n t xs ys lf sy co (a 8) (a 9) (a 10) (a 11) (a 12) (a 13) n2 t2 xs2 ys2 lf2 sy2 co2 (nI ka) (nI kb) 3 H18.size ) (cwV 3 hts gL_law_X1_edge rfl rfl rfl hd_X1_edge ⟨Nat.le_of_ble_eq_true rfl, Nat.le_of_ble_eq_true rfl⟩) HA3 rfl hP hK hD hS hB (lW_recv hK.1 hP) rfl hl.1 rfl (lv_room (Nat.le_of_ble_eq_true rfl)) dL_law_580 ⟨(by first | exact Nat.le_of_ble_eq_true rfl | omega | (dsimp only; omega)), (by first | exact Nat.le_of_ble_eq_true rfl | omega | (dsimp only; omega))⟩ (fun H21 locs22 hP hD hY hS => ?_)
              have hP : va_P (dC, dI) vwCl (lW cI a (hs, fx, n, t, xs, ys, lf, sy, co, n2, t2, xs2, ys2, lf2, sy2, co2)) H21 := hP
              have hD : va_D (lB B0 h) (lW cI a (hs, fx, n, t, xs, ys, lf, sy, co, n2, t2, xs2, ys2, lf2, sy2, co2)) := hD
              have hC := hC.ext (hY.up (Nat.le_succ h))
              have hTt := hTt.ext (hY.up (Nat.le_succ h))
              have hSt := hSt.ext (hY.up (Nat.le_succ h))
              have hO := hO.ext hY
              refine lv_iconst (v := 1) hx hb dL_law_583 (by decide) ?_
              have hj584 : W p l e ({ frames := 2048, cells := 890197, slots := 6430878, locals := 84000 } : Room) s m #[Value.ref b9] below meth c H21 locs22 ((((((((c0 + 1) + 1) + 1) + 1) + 1) + 1) + 3) + 3) ((((((((d0 + 6) + 6) + 6) + 6) + 6) + 6) + 18) + 18) (lw_Z below #[Value.ref b9] s) (F0 m 592 ls [.int (bI (l_one (x_eFact n xs ys lf sy (nI ka) (nI kb) 3)))]) := by
                refine lv_istore (lv' := [(10, .int (bI (l_one (x_eFact n xs ys lf sy (nI ka) (nI kb) 3)))), (9, .int (nI kb)), (8, .int (nI ka)), (7, .int (nI q9)), (6, .int (nI p9)), (5, .int (nI n)), (4, .int x), (3, .int (nI i)), (2, .ref h), (1, .ref (a 0)), (0, .ref b9)]) hx hb dL_law_592 hl (by decide) rfl (fun ls hl => ?_)
                refine lv_aload_n hx hb dL_law_594 rfl (lv_at hl 9 rfl) ?_
                refine lv_iconst (v := 2) hx hb dL_law_595 (by decide) ?_
                refine lc_xi (As := [.int 2]) (rest := []) hX9 F (c_X1_count l hl0 dC dI cI cZ cY (a 0) (a 1) hs fx (a 2) (a 3) (a 4) (a 5) (a 6) (a 7) n t xs ys lf sy co (a 8) (a 9) (a 10) (a 11) (a 12) (a 13) n2 t2 xs2 ys2 lf2 sy2 co2 2 H21.size (by omega)) (cwV 1 hts gL_law_X1_count rfl rfl rfl hd_X1_count ⟨Nat.le_of_ble_eq_true rfl, Nat.le_of_ble_eq_true rfl⟩) (by decide) rfl hP hK hD hS hB (lW_recv hK.1 hP) rfl hl.1 rfl (lv_room (Nat.le_of_ble_eq_true rfl)) dL_law_596 ⟨(by first | exact Nat.le_of_ble_eq_true rfl | omega | (dsimp only; omega)), (by first | exact Nat.le_of_ble_eq_true rfl | omega | (dsimp only; omega))⟩ (fun H23 locs24 hP hD hY hS => ?_)
                have hP : va_P (dC, dI) vwCl (lW cI a (hs, fx, n, t, xs, ys, lf, sy, co, n2, t2, xs2, ys2, lf2, sy2, co2)) H23 := hP
                have hD : va_D (lB B0 h) (lW cI a (hs, fx, n, t, xs, ys, lf, sy, co, n2, t2, xs2, ys2, lf2, sy2, co2)) := hD
                have hC := hC.ext (hY.up (Nat.le_succ h))
                have hTt := hTt.ext (hY.up (Nat.le_succ h))
                have hSt := hSt.ext (hY.up (Nat.le_succ h))
                have hO := hO.ext hY
                refine lv_istore (lv' := [(11, .int (x_cntOf n t xs ys lf sy fx 2)), (10, .int (bI (l_one (x_eFact n xs ys lf sy (nI ka) (nI kb) 3)))), (9, .int (nI kb)), (8, .int (nI ka)), (7, .int (nI q9)), (6, .int (nI p9)), (5, .int (nI n)), (4, .int x), (3, .int (nI i)), (2, .ref h), (1, .ref (a 0)), (0, .ref b9)]) hx hb dL_law_599 hl (by decide) rfl (fun ls hl => ?_)
                refine lv_aload_n hx hb dL_law_601 rfl (lv_at hl 9 rfl) ?_
                refine lv_iload hx hb dL_law_602 (lv_at hl 3 rfl) ?_
                refine lv_iload hx hb dL_law_604 (lv_at hl 2 rfl) ?_
                refine sc_cVHi (hh := h) (As := [.int (nI ka), .int (nI kb)]) (rest := []) F (c_X2_flip l dC dI cI cZ cY h nC C nT T nS S fl (nI ka) (nI kb) (by omega) hfa H23.size) (cwV 2 hts gL_law_X2_flip rfl rfl rfl hd_X2_flip ⟨Nat.le_of_ble_eq_true rfl, Nat.le_of_ble_eq_true rfl⟩) ⟨qc, qt, qs, hO, hC, hTt, hSt, hn1, hn2⟩ hK hS hA hAh (sM.recv hK.1 ⟨qc, qt, qs, hO, hC, hTt, hSt, hn1, hn2⟩) rfl hl.1 rfl (lv_room (Nat.le_of_ble_eq_true rfl)) dL_law_606 ⟨(by first | exact Nat.le_of_ble_eq_true rfl | omega | (dsimp only; omega)), (by first | exact Nat.le_of_ble_eq_true rfl | omega | (dsimp only; omega))⟩ (fun H25 locs26 hf27 hZ hS => ?_)
                have hP := hP.hz9 hD hZ
                obtain ⟨qc29, qt29, qs29, hO, hC, hTt, hSt, hn1, hn2⟩ := hf27
                refine lv_istore (lv' := [(12, .int (s_edge nT T (nI ka) (nI kb))), (11, .int (x_cntOf n t xs ys lf sy fx 2)), (10, .int (bI (l_one (x_eFact n xs ys lf sy (nI ka) (nI kb) 3)))), (9, .int (nI kb)), (8, .int (nI ka)), (7, .int (nI q9)), (6, .int (nI p9)), (5, .int (nI n)), (4, .int x), (3, .int (nI i)), (2, .ref h), (1, .ref (a 0)), (0, .ref b9)]) hx hb dL_law_609 hl (by decide) rfl (fun ls hl => ?_)
                refine lv_aload_n hx hb dL_law_611 rfl (lv_at hl 11 rfl) ?_
                refine lv_iload hx hb dL_law_612 (lv_at hl 3 rfl) ?_
                refine lv_iload hx hb dL_law_614 (lv_at hl 4 rfl) ?_
                refine lc_xi (As := [.int (nI kb), .int (nI ka)]) (rest := []) hX9 F (c_X1_flip l hl0 dC dI cI cZ cY (a 0) (a 1) hs fx (a 2) (a 3) (a 4) (a 5) (a 6) (a 7) n t xs ys lf sy co (a 8) (a 9) (a 10) (a 11) (a 12) (a 13) n2 t2 xs2 ys2 lf2 sy2 co2 (nI kb) (nI ka) H25.size (by omega)) (cwV 2 hts gL_law_X1_flip rfl rfl rfl hd_X1_flip ⟨Nat.le_of_ble_eq_true rfl, Nat.le_of_ble_eq_true rfl⟩) hfo rfl hP hK hD hS hB (lW_recv hK.1 hP) rfl hl.1 rfl (lv_room (Nat.le_of_ble_eq_true rfl)) dL_law_616 ⟨(by first | exact Nat.le_of_ble_eq_true rfl | omega | (dsimp only; omega)), (by first | exact Nat.le_of_ble_eq_true rfl | omega | (dsimp only; omega))⟩ (fun H30 locs31 hP hD hY hS => ?_)
                have hP : va_P (dC, dI) vwCl (lW cI a (hs, fx + 1, n, (m_list n (m_tE n xs ys lf (nI kb) (nI ka)) co).1, xs, ys, m_tE n xs ys lf (nI kb) (nI ka), sy, (m_list n (m_tE n xs ys lf (nI kb) (nI ka)) co).2, n2, t2, xs2, ys2, lf2, sy2, co2)) H30 := hP
                have hD : va_D (lB B0 h) (lW cI a (hs, fx + 1, n, (m_list n (m_tE n xs ys lf (nI kb) (nI ka)) co).1, xs, ys, m_tE n xs ys lf (nI kb) (nI ka), sy, (m_list n (m_tE n xs ys lf (nI kb) (nI ka)) co).2, n2, t2, xs2, ys2, lf2, sy2, co2)) := hD
                have hC := hC.ext (hY.up (Nat.le_succ h))
                have hTt := hTt.ext (hY.up (Nat.le_succ h))
                have hSt := hSt.ext (hY.up (Nat.le_succ h))
                have hO := hO.ext hY
                refine lv_iload hx hb dL_law_619 (lv_at hl 0 rfl) ?_
                refine lv_icmp_ne (tgt := 683) hx hb dL_law_621 (by decide) (fun c_32 => ?_) (fun c_32 => ?_)
                · exact absurd hfa2 c_32
                · refine lv_aload_n hx hb dL_law_624 rfl (lv_at hl 11 rfl) ?_
                  refine lv_iload hx hb dL_law_625 (lv_at hl 4 rfl) ?_
                  refine lv_iload hx hb dL_law_627 (lv_at hl 3 rfl) ?_
                  refine lv_iconst (v := 0) hx hb dL_law_629 (by decide) ?_
                  refine lc_xi (As := [.int (nI ka), .int (nI kb), .int 0]) (rest := []) hX9 F (c_X1_edge l hl0 dC dI cI cZ cY (a 0) (a 1) hs (fx + 1) (a 2) (a 3) (a 4) (a 5) (a 6) (a 7) n ((m_list n (m_tE n xs ys lf (nI kb) (nI ka)) co).1) xs ys (m_tE n xs ys lf (nI kb) (nI ka)) sy ((m_list n (m_tE n xs ys lf (nI kb) (nI ka)) co).2) (a 8) (a 9) (a 10) (a 11) (a 12) (a 13) n2 t2 xs2 ys2 lf2 sy2 co2 (nI ka) (nI kb) 0 H30.size ) (cwV 3 hts gL_law_X1_edge rfl rfl rfl hd_X1_edge ⟨Nat.le_of_ble_eq_true rfl, Nat.le_of_ble_eq_true rfl⟩) ho0 rfl hP hK hD hS hB (lW_recv hK.1 hP) rfl hl.1 rfl (lv_room (Nat.le_of_ble_eq_true rfl)) dL_law_630 ⟨(by first | exact Nat.le_of_ble_eq_true rfl | omega | (dsimp only; omega)), (by first | exact Nat.le_of_ble_eq_true rfl | omega | (dsimp only; omega))⟩ (fun H33 locs34 hP hD hY hS => ?_)
                  have hP : va_P (dC, dI) vwCl (lW cI a (hs, fx + 1, n, (m_list n (m_tE n xs ys lf (nI kb) (nI ka)) co).1, xs, ys, m_tE n xs ys lf (nI kb) (nI ka), sy, (m_list n (m_tE n xs ys lf (nI kb) (nI ka)) co).2, n2, t2, xs2, ys2, lf2, sy2, co2)) H33 := hP
                  have hD : va_D (lB B0 h) (lW cI a (hs, fx + 1, n, (m_list n (m_tE n xs ys lf (nI kb) (nI ka)) co).1, xs, ys, m_tE n xs ys lf (nI kb) (nI ka), sy, (m_list n (m_tE n xs ys lf (nI kb) (nI ka)) co).2, n2, t2, xs2, ys2, lf2, sy2, co2)) := hD
                  have hC := hC.ext (hY.up (Nat.le_succ h))
                  have hTt := hTt.ext (hY.up (Nat.le_succ h))
                  have hSt := hSt.ext (hY.up (Nat.le_succ h))
                  have hO := hO.ext hY
                  refine lv_if_ne (tgt := 683) hx hb dL_law_633 (by decide) (fun c_35 => ?_) (fun c_35 => ?_)
                  · exact absurd he0 c_35
                  · refine lv_aload_n hx hb dL_law_636 rfl (lv_at hl 11 rfl) ?_
                    refine lv_iload hx hb dL_law_637 (lv_at hl 0 rfl) ?_
                    refine lv_bipush (v := 16) hx hb dL_law_639 (by decide) ?_
                    refine lv_idiv hx hb dL_law_641 (by decide) ?_
                    refine lv_iload hx hb dL_law_642 (lv_at hl 0 rfl) ?_
                    refine lv_bipush (v := 16) hx hb dL_law_644 (by decide) ?_
                    refine lv_irem hx hb dL_law_646 (by decide) ?_
                    refine lv_iconst (v := 0) hx hb dL_law_647 (by decide) ?_
                    refine lc_xi (As := [.int ((s_edge nT T (nI ka) (nI kb)) / 16), .int ((s_edge nT T (nI ka) (nI kb)) - (s_edge nT T (nI ka) (nI kb)) / 16 * 16), .int 0]) (rest := []) hX9 F (c_X1_edge l hl0 dC dI cI cZ cY (a 0) (a 1) hs (fx + 1) (a 2) (a 3) (a 4) (a 5) (a 6) (a 7) n ((m_list n (m_tE n xs ys lf (nI kb) (nI ka)) co).1) xs ys (m_tE n xs ys lf (nI kb) (nI ka)) sy ((m_list n (m_tE n xs ys lf (nI kb) (nI ka)) co).2) (a 8) (a 9) (a 10) (a 11) (a 12) (a 13) n2 t2 xs2 ys2 lf2 sy2 co2 ((s_edge nT T (nI ka) (nI kb)) / 16) ((s_edge nT T (nI ka) (nI kb)) - (s_edge nT T (nI ka) (nI kb)) / 16 * 16) 0 H33.size ) (cwV 3 hts gL_law_X1_edge rfl rfl rfl hd_X1_edge ⟨Nat.le_of_ble_eq_true rfl, Nat.le_of_ble_eq_true rfl⟩) ho1 rfl hP hK hD hS hB (lW_recv hK.1 hP) rfl hl.1 rfl (lv_room (Nat.le_of_ble_eq_true rfl)) dL_law_648 ⟨(by first | exact Nat.le_of_ble_eq_true rfl | omega | (dsimp only; omega)), (by first | exact Nat.le_of_ble_eq_true rfl | omega | (dsimp only; omega))⟩ (fun H36 locs37 hP hD hY hS => ?_)
                    have hP : va_P (dC, dI) vwCl (lW cI a (hs, fx + 1, n, (m_list n (m_tE n xs ys lf (nI kb) (nI ka)) co).1, xs, ys, m_tE n xs ys lf (nI kb) (nI ka), sy, (m_list n (m_tE n xs ys lf (nI kb) (nI ka)) co).2, n2, t2, xs2, ys2, lf2, sy2, co2)) H36 := hP
                    have hD : va_D (lB B0 h) (lW cI a (hs, fx + 1, n, (m_list n (m_tE n xs ys lf (nI kb) (nI ka)) co).1, xs, ys, m_tE n xs ys lf (nI kb) (nI ka), sy, (m_list n (m_tE n xs ys lf (nI kb) (nI ka)) co).2, n2, t2, xs2, ys2, lf2, sy2, co2)) := hD
                    have hC := hC.ext (hY.up (Nat.le_succ h))
                    have hTt := hTt.ext (hY.up (Nat.le_succ h))
                    have hSt := hSt.ext (hY.up (Nat.le_succ h))
                    have hO := hO.ext hY
                    refine lv_iconst (v := 1) hx hb dL_law_651 (by decide) ?_
                    refine lv_icmp_ne (tgt := 683) hx hb dL_law_652 (by decide) (fun c_38 => ?_) (fun c_38 => ?_)
                    · exact absurd he1 c_38
                    · refine lv_aload_n hx hb dL_law_655 rfl (lv_at hl 11 rfl) ?_
                      refine lv_iload hx hb dL_law_656 (lv_at hl 0 rfl) ?_
                      refine lv_bipush (v := 16) hx hb dL_law_658 (by decide) ?_
                      refine lv_idiv hx hb dL_law_660 (by decide) ?_
                      refine lv_iload hx hb dL_law_661 (lv_at hl 0 rfl) ?_
                      refine lv_bipush (v := 16) hx hb dL_law_663 (by decide) ?_
                      refine lv_irem hx hb dL_law_665 (by decide) ?_
                      refine lv_iconst (v := 2) hx hb dL_law_666 (by decide) ?_
                      refine lc_xi (As := [.int ((s_edge nT T (nI ka) (nI kb)) / 16), .int ((s_edge nT T (nI ka) (nI kb)) - (s_edge nT T (nI ka) (nI kb)) / 16 * 16), .int 2]) (rest := []) hX9 F (c_X1_edge l hl0 dC dI cI cZ cY (a 0) (a 1) hs (fx + 1) (a 2) (a 3) (a 4) (a 5) (a 6) (a 7) n ((m_list n (m_tE n xs ys lf (nI kb) (nI ka)) co).1) xs ys (m_tE n xs ys lf (nI kb) (nI ka)) sy ((m_list n (m_tE n xs ys lf (nI kb) (nI ka)) co).2) (a 8) (a 9) (a 10) (a 11) (a 12) (a 13) n2 t2 xs2 ys2 lf2 sy2 co2 ((s_edge nT T (nI ka) (nI kb)) / 16) ((s_edge nT T (nI ka) (nI kb)) - (s_edge nT T (nI ka) (nI kb)) / 16 * 16) 2 H36.size ) (cwV 3 hts gL_law_X1_edge rfl rfl rfl hd_X1_edge ⟨Nat.le_of_ble_eq_true rfl, Nat.le_of_ble_eq_true rfl⟩) ho2 rfl hP hK hD hS hB (lW_recv hK.1 hP) rfl hl.1 rfl (lv_room (Nat.le_of_ble_eq_true rfl)) dL_law_667 ⟨(by first | exact Nat.le_of_ble_eq_true rfl | omega | (dsimp only; omega)), (by first | exact Nat.le_of_ble_eq_true rfl | omega | (dsimp only; omega))⟩ (fun H39 locs40 hP hD hY hS => ?_)
                      have hP : va_P (dC, dI) vwCl (lW cI a (hs, fx + 1, n, (m_list n (m_tE n xs ys lf (nI kb) (nI ka)) co).1, xs, ys, m_tE n xs ys lf (nI kb) (nI ka), sy, (m_list n (m_tE n xs ys lf (nI kb) (nI ka)) co).2, n2, t2, xs2, ys2, lf2, sy2, co2)) H39 := hP
                      have hD : va_D (lB B0 h) (lW cI a (hs, fx + 1, n, (m_list n (m_tE n xs ys lf (nI kb) (nI ka)) co).1, xs, ys, m_tE n xs ys lf (nI kb) (nI ka), sy, (m_list n (m_tE n xs ys lf (nI kb) (nI ka)) co).2, n2, t2, xs2, ys2, lf2, sy2, co2)) := hD
                      have hC := hC.ext (hY.up (Nat.le_succ h))
                      have hTt := hTt.ext (hY.up (Nat.le_succ h))
                      have hSt := hSt.ext (hY.up (Nat.le_succ h))
                      have hO := hO.ext hY
                      refine lv_if_ne (tgt := 683) hx hb dL_law_670 (by decide) (fun c_41 => ?_) (fun c_41 => ?_)
                      · exact absurd he2 c_41
                      · refine lv_aload_n hx hb dL_law_673 rfl (lv_at hl 11 rfl) ?_
                        refine lv_iconst (v := 2) hx hb dL_law_674 (by decide) ?_
                        refine lc_xi (As := [.int 2]) (rest := []) hX9 F (c_X1_count l hl0 dC dI cI cZ cY (a 0) (a 1) hs (fx + 1) (a 2) (a 3) (a 4) (a 5) (a 6) (a 7) n ((m_list n (m_tE n xs ys lf (nI kb) (nI ka)) co).1) xs ys (m_tE n xs ys lf (nI kb) (nI ka)) sy ((m_list n (m_tE n xs ys lf (nI kb) (nI ka)) co).2) (a 8) (a 9) (a 10) (a 11) (a 12) (a 13) n2 t2 xs2 ys2 lf2 sy2 co2 2 H39.size (by omega)) (cwV 1 hts gL_law_X1_count rfl rfl rfl hd_X1_count ⟨Nat.le_of_ble_eq_true rfl, Nat.le_of_ble_eq_true rfl⟩) (by decide) rfl hP hK hD hS hB (lW_recv hK.1 hP) rfl hl.1 rfl (lv_room (Nat.le_of_ble_eq_true rfl)) dL_law_675 ⟨(by first | exact Nat.le_of_ble_eq_true rfl | omega | (dsimp only; omega)), (by first | exact Nat.le_of_ble_eq_true rfl | omega | (dsimp only; omega))⟩ (fun H42 locs43 hP hD hY hS => ?_)
                        have hP : va_P (dC, dI) vwCl (lW cI a (hs, fx + 1, n, (m_list n (m_tE n xs ys lf (nI kb) (nI ka)) co).1, xs, ys, m_tE n xs ys lf (nI kb) (nI ka), sy, (m_list n (m_tE n xs ys lf (nI kb) (nI ka)) co).2, n2, t2, xs2, ys2, lf2, sy2, co2)) H42 := hP
                        have hD : va_D (lB B0 h) (lW cI a (hs, fx + 1, n, (m_list n (m_tE n xs ys lf (nI kb) (nI ka)) co).1, xs, ys, m_tE n xs ys lf (nI kb) (nI ka), sy, (m_list n (m_tE n xs ys lf (nI kb) (nI ka)) co).2, n2, t2, xs2, ys2, lf2, sy2, co2)) := hD
                        have hC := hC.ext (hY.up (Nat.le_succ h))
                        have hTt := hTt.ext (hY.up (Nat.le_succ h))
                        have hSt := hSt.ext (hY.up (Nat.le_succ h))
                        have hO := hO.ext hY
                        refine lv_iload hx hb dL_law_678 (lv_at hl 1 rfl) ?_
                        refine lv_icmp_eq (tgt := 685) hx hb dL_law_680 (by decide) (fun c_44 => ?_) (fun c_44 => ?_)
                        · refine lv_iload hx hb dL_law_685 (lv_at hl 2 rfl) ?_
                          refine lv_if_eqB (tgt := 711) hx hb dL_law_687 (by decide) (fun c_45 => ?_) (fun c_45 => ?_)
                          · refine lv_iinc (v := nI (i + 1)) (lv' := [(3, .int (nI (i + 1))), (12, .int (s_edge nT T (nI ka) (nI kb))), (11, .int (x_cntOf n t xs ys lf sy fx 2)), (10, .int (bI (l_one (x_eFact n xs ys lf sy (nI ka) (nI kb) 3)))), (9, .int (nI kb)), (8, .int (nI ka)), (7, .int (nI q9)), (6, .int (nI p9)), (5, .int (nI n)), (4, .int x), (2, .ref h), (1, .ref (a 0)), (0, .ref b9)]) hx hb dL_law_711 hl (k := 9) rfl (nI_1 _) (by decide) rfl (fun ls hl => ?_)
                            refine lv_goto (tgt := 22) hx hb dL_law_714 (by decide) ?_
                            refine W.widen (show (((((((((((((((c0 + 1) + 1) + 1) + 1) + 1) + 1) + 3) + 3) + 1) + (s_ct T (nI ka) (nI kb) nT + 9)) + 4) + 3) + 3) + 3) + 1) ≤ _ from (by omega)) (show (((((((((((((((d0 + 6) + 6) + 6) + 6) + 6) + 6) + 18) + 18) + 6) + (2 * s_ct T (nI ka) (nI kb) nT + 4 * nT + 20)) + 24) + 18) + 18) + 18) + 6) ≤ _ from (by omega)) (hnext (hs, fx + 1, n, (m_list n (m_tE n xs ys lf (nI kb) (nI ka)) co).1, xs, ys, m_tE n xs ys lf (nI kb) (nI ka), sy, (m_list n (m_tE n xs ys lf (nI kb) (nI ka)) co).2, n2, t2, xs2, ys2, lf2, sy2, co2) (nC, C, (s_flip nT T (nI ka) (nI kb)).1, (s_flip nT T (nI ka) (nI kb)).2, nS, S, fl + 1) _ _ _ hR9 ⟨hP, hD, ⟨qc29, qt29, qs29, hO, hC, hTt, hSt, hn1, hn2⟩⟩ hS (lv_sub hl [0, 10, 11, 12] rfl))
                          · refine lv_aload_n hx hb dL_law_690 rfl (lv_at hl 11 rfl) ?_
                            refine lv_iload hx hb dL_law_691 (lv_at hl 0 rfl) ?_
                            refine lv_bipush (v := 16) hx hb dL_law_693 (by decide) ?_
                            refine lv_idiv hx hb dL_law_695 (by decide) ?_
                            refine lv_iload hx hb dL_law_696 (lv_at hl 0 rfl) ?_
                            refine lv_bipush (v := 16) hx hb dL_law_698 (by decide) ?_
                            refine lv_irem hx hb dL_law_700 (by decide) ?_
                            refine lv_iconst (v := 3) hx hb dL_law_701 (by decide) ?_
                            refine lc_xi (As := [.int ((s_edge nT T (nI ka) (nI kb)) / 16), .int ((s_edge nT T (nI ka) (nI kb)) - (s_edge nT T (nI ka) (nI kb)) / 16 * 16), .int 3]) (rest := []) hX9 F (c_X1_edge l hl0 dC dI cI cZ cY (a 0) (a 1) hs (fx + 1) (a 2) (a 3) (a 4) (a 5) (a 6) (a 7) n ((m_list n (m_tE n xs ys lf (nI kb) (nI ka)) co).1) xs ys (m_tE n xs ys lf (nI kb) (nI ka)) sy ((m_list n (m_tE n xs ys lf (nI kb) (nI ka)) co).2) (a 8) (a 9) (a 10) (a 11) (a 12) (a 13) n2 t2 xs2 ys2 lf2 sy2 co2 ((s_edge nT T (nI ka) (nI kb)) / 16) ((s_edge nT T (nI ka) (nI kb)) - (s_edge nT T (nI ka) (nI kb)) / 16 * 16) 3 H42.size ) (cwV 3 hts gL_law_X1_edge rfl rfl rfl hd_X1_edge ⟨Nat.le_of_ble_eq_true rfl, Nat.le_of_ble_eq_true rfl⟩) ho3 rfl hP hK hD hS hB (lW_recv hK.1 hP) rfl hl.1 rfl (lv_room (Nat.le_of_ble_eq_true rfl)) dL_law_702 ⟨(by first | exact Nat.le_of_ble_eq_true rfl | omega | (dsimp only; omega)), (by first | exact Nat.le_of_ble_eq_true rfl | omega | (dsimp only; omega))⟩ (fun H46 locs47 hP hD hY hS => ?_)
                            have hP : va_P (dC, dI) vwCl (lW cI a (hs, fx + 1, n, (m_list n (m_tE n xs ys lf (nI kb) (nI ka)) co).1, xs, ys, m_tE n xs ys lf (nI kb) (nI ka), sy, (m_list n (m_tE n xs ys lf (nI kb) (nI ka)) co).2, n2, t2, xs2, ys2, lf2, sy2, co2)) H46 := hP
                            have hD : va_D (lB B0 h) (lW cI a (hs, fx + 1, n, (m_list n (m_tE n xs ys lf (nI kb) (nI ka)) co).1, xs, ys, m_tE n xs ys lf (nI kb) (nI ka), sy, (m_list n (m_tE n xs ys lf (nI kb) (nI ka)) co).2, n2, t2, xs2, ys2, lf2, sy2, co2)) := hD
                            have hC := hC.ext (hY.up (Nat.le_succ h))
                            have hTt := hTt.ext (hY.up (Nat.le_succ h))
                            have hSt := hSt.ext (hY.up (Nat.le_succ h))
                            have hO := hO.ext hY
                            refine lv_iconst (v := 1) hx hb dL_law_705 (by decide) ?_
                            refine lv_icmp_ne (tgt := 711) hx hb dL_law_706 (by decide) (fun c_48 => ?_) (fun c_48 => ?_)
                            · refine lv_iinc (v := nI (i + 1)) (lv' := [(3, .int (nI (i + 1))), (12, .int (s_edge nT T (nI ka) (nI kb))), (11, .int (x_cntOf n t xs ys lf sy fx 2)), (10, .int (bI (l_one (x_eFact n xs ys lf sy (nI ka) (nI kb) 3)))), (9, .int (nI kb)), (8, .int (nI ka)), (7, .int (nI q9)), (6, .int (nI p9)), (5, .int (nI n)), (4, .int x), (2, .ref h), (1, .ref (a 0)), (0, .ref b9)]) hx hb dL_law_711 hl (k := 9) rfl (nI_1 _) (by decide) rfl (fun ls hl => ?_)
                              refine lv_goto (tgt := 22) hx hb dL_law_714 (by decide) ?_
                              refine W.widen (show ((((((((((((((((c0 + 1) + 1) + 1) + 1) + 1) + 1) + 3) + 3) + 1) + (s_ct T (nI ka) (nI kb) nT + 9)) + 4) + 3) + 3) + 3) + 1) + 3) ≤ _ from (by omega)) (show ((((((((((((((((d0 + 6) + 6) + 6) + 6) + 6) + 6) + 18) + 18) + 6) + (2 * s_ct T (nI ka) (nI kb) nT + 4 * nT + 20)) + 24) + 18) + 18) + 18) + 6) + 18) ≤ _ from (by omega)) (hnext (hs, fx + 1, n, (m_list n (m_tE n xs ys lf (nI kb) (nI ka)) co).1, xs, ys, m_tE n xs ys lf (nI kb) (nI ka), sy, (m_list n (m_tE n xs ys lf (nI kb) (nI ka)) co).2, n2, t2, xs2, ys2, lf2, sy2, co2) (nC, C, (s_flip nT T (nI ka) (nI kb)).1, (s_flip nT T (nI ka) (nI kb)).2, nS, S, fl + 1) _ _ _ hR9 ⟨hP, hD, ⟨qc29, qt29, qs29, hO, hC, hTt, hSt, hn1, hn2⟩⟩ hS (lv_sub hl [0, 10, 11, 12] rfl))
                            · exact absurd c_48 (hwas (l_one_t c_45))
                        · exact absurd hcc c_44
              refine lv_icmp_ne (tgt := 591) hx hb dL_law_584 (by decide) (fun c_49 => ?_) (fun c_49 => ?_)
              · refine lv_iconst (v := 0) hx hb dL_law_591 (by decide) ?_
                refine lv_cvi (y := (bI (l_one (x_eFact n xs ys lf sy (nI ka) (nI kb) 3)))) (by rw [l_one, if_neg c_49]; rfl) ?_
                exact hj584
              · refine lv_iconst (v := 1) hx hb dL_law_587 (by decide) ?_
                refine lv_goto (tgt := 592) hx hb dL_law_588 (by decide) ?_
                refine lv_cvi (y := (bI (l_one (x_eFact n xs ys lf sy (nI ka) (nI kb) 3)))) (by rw [l_one, if_pos c_49]; rfl) ?_
                exact hj584
        · exact absurd c_16 (by decide)
      · exact absurd c_15 (by decide)
    · exact absurd HE.2 c_14
