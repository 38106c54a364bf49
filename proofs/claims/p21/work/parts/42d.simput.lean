/-! the law's own moor: rows out and in, by program (gens.py) -/
theorem in_X2_takeOut_X2 : ∀ w ∈ wsX20, w ∈ wsX2_takeOut := by decide +kernel
theorem fl_X2_takeOut_15 : (Cond.fieldLink RX2 15 "MoorTrianglesLaw$Sim" "triangles" "[[I") ∈ wsX2_takeOut := by decide +kernel
theorem hd_X2_takeOut : yX2_takeOut.cls = RX2 ∧ yX2_takeOut.cls ≠ "java/lang/invoke/MethodHandle" ∧ yX2_takeOut.cls ≠ "java/lang/invoke/VarHandle" ∧ (parseMethodDescriptor yX2_takeOut.desc).map (fun d => d.parameters.length) = some 1 := by decide +kernel
set_option maxHeartbeats 4000000 in
set_option maxRecDepth 100000 in
theorem c_X2_takeOut (l : Launch) (dC : Nat → ClassId) (dI : Nat → Nat → Nat) (cI cZ cY : ClassId) (h : Nat) (nC : Nat) (C : Nat → Nat → Int32) (nT : Nat) (T : Nat → Nat → Int32) (nS : Nat) (S : Nat → Nat → Int32) (fl : Int32) (x1 : Nat) (f1 : Nat → Int32) (hnT : nT ≤ 1000) (sz : Nat) : Met l yX2_takeOut wsX2_takeOut ({ frames := 1, cells := 1, slots := nT, locals := 23 }) (va_Pc [.ref h, .ref x1] (sPz (dC, dI) cI cZ cY (fun H => sM (dC, dI) cI cY h nC C nT T nS S fl H ∧ hI cI (h + 1) H x1 3 f1) sz)) (sQv (sM (dC, dI) cI cY h nC C (s_to nT T f1).1 (s_to nT T f1).2 nS S fl) ((aH h) sz)) 1 nT ((aH h) sz) := by
  refine sa_start (cc := cX2_takeOut) (maxL := 3) (ret := none) (Q0 := sQv (sM (dC, dI) cI cY h nC C (s_to nT T f1).1 (s_to nT T f1).2 nS S fl)) (aH h) (aH_ok h) RX2 (by decide) rfl rfl (Nat.le_of_ble_eq_true rfl) ?_
  intro p e s m below meth c ⟨hx, hb, hr, hml, hown, hts, hlocks, hini⟩ hM0 hK A hAe hA hS ls hl
  have hAh : A h := by rw [hAe]; exact Or.inl rfl
  have F : CallFix p m c cX2_takeOut 3 s ([.ref h, .ref x1] : List Value).toArray wsX2_takeOut RX2 := ⟨hx, hb, hml, hown, hts⟩
  have hl : lv_has ls 3 [(0, .ref h), (1, .ref x1)] := hl
  obtain ⟨⟨qc, qt, qs, hO, hC, hTt, hSt, hn1, hn2⟩, hx1⟩ := hM0
  refine lv_iconst (v := 0) hx hb dX2_takeOut_0 (by decide) ?_
  refine lv_istore_n (lv' := [(2, .int 0), (0, .ref h), (1, .ref x1)]) hx hb dX2_takeOut_1 rfl hl (by decide) rfl (fun ls hl => ?_)
  have hL2 : ∀ (k_1 : Nat) (i : Nat), (nT - i) < k_1 → (i ≤ nT) → (∀ j, j < i → s_same f1 (T j) = false) → ∀ ls : Array Slot, lv_has ls 3 [(2, .int (nI i)), (0, .ref h), (1, .ref x1)] → W p l e ({ frames := 1, cells := 1, slots := nT, locals := 23 } : Room) s m ([.ref h, .ref x1] : List Value).toArray below meth c s.heap [] 0 0 (MQ below (sQv (sM (dC, dI) cI cY h nC C (s_to nT T f1).1 (s_to nT T f1).2 nS S fl) A) ([.ref h, .ref x1] : List Value).toArray s 1 nT A) (F0 m 2 ls []) := by
    intro k_1
    induction k_1 with
    | zero => intro i hk; exact absurd hk (Nat.not_lt_zero _)
    | succ k_1 ih_2 =>
      intro i hk_2 hi_i hbi ls hl
      refine lv_iload_n hx hb dX2_takeOut_2 rfl (lv_at hl 0 rfl) ?_
      refine lv_aload_n hx hb dX2_takeOut_3 rfl (lv_at hl 1 rfl) ?_
      refine va_get (D := (dC, dI)) (ci := 2) (v := .ref qt) (C := RX2) (T := TX2) (N := 4) hx hb hts in_X2_takeOut_X2 hown hK.1 (va_P.one hO) 0 rfl rfl 1 (by decide) (hts (.fieldLink RX2 15 "MoorTrianglesLaw$Sim" "triangles" "[[I") fl_X2_takeOut_15) (fun _ h9 => h9) rfl dX2_takeOut_4 ?_
      refine sx_alenT hx hb hK.1 hTt dX2_takeOut_7 ?_
      refine lv_icmp_ge (tgt := 59) hx hb dX2_takeOut_8 (by decide) (fun c_3 => ?_) (fun c_3 => ?_)
      · have hge_i : nT ≤ i := nI_le_le (by omega) (by omega) c_3
        have heq_i : i = nT := by omega
        have hl : lv_has ls 3 [(2, .int (nI nT)), (0, .ref h), (1, .ref x1)] := by rw [heq_i] at hl; exact hl
        rw [heq_i] at hbi
        exact sa_vret (Pf := sM (dC, dI) cI cY h nC C (s_to nT T f1).1 (s_to nT T f1).2 nS S fl) hx hb hr hlocks (by rw [s_to_none hbi]; exact ⟨qc, qt, qs, hO, hC, hTt, hSt, hn1, hn2⟩) hS (by first | exact Nat.le_of_ble_eq_true rfl | omega | (dsimp only; omega)) (by first | exact Nat.le_of_ble_eq_true rfl | omega | (dsimp only; omega)) dX2_takeOut_59
      · have hlt_i : i < nT := nI_nle_lt (by omega) (by omega) c_3
        refine lv_aload_n hx hb dX2_takeOut_11 rfl (lv_at hl 2 rfl) ?_
        refine lv_aload_n hx hb dX2_takeOut_12 rfl (lv_at hl 1 rfl) ?_
        refine va_get (D := (dC, dI)) (ci := 2) (v := .ref qt) (C := RX2) (T := TX2) (N := 4) hx hb hts in_X2_takeOut_X2 hown hK.1 (va_P.one hO) 0 rfl rfl 1 (by decide) (hts (.fieldLink RX2 15 "MoorTrianglesLaw$Sim" "triangles" "[[I") fl_X2_takeOut_15) (fun _ h9 => h9) rfl dX2_takeOut_13 ?_
        refine lv_iload_n hx hb dX2_takeOut_16 rfl (lv_at hl 0 rfl) ?_
        refine sx_aald hx hb hK.1 hTt (ix_nI (by omega)) hlt_i dX2_takeOut_17 (fun xq4 hr5 => ?_)
        refine sr_cSi (As := [.ref x1, .ref xq4]) (rest := []) F (c_X2_isAhead l dC dI cI cZ cY (h + 1) x1 xq4 f1 (T i)) (cwS 2 hts gX2_takeOut_X2_isAhead rfl rfl rfl hd_X2_isAhead ⟨Nat.le_of_ble_eq_true rfl, Nat.le_of_ble_eq_true rfl⟩) ⟨hx1, hr5⟩ hK rfl hl.1 rfl (lv_room (Nat.le_of_ble_eq_true rfl)) dX2_takeOut_18 ⟨(by first | exact Nat.le_of_ble_eq_true rfl | omega | (dsimp only; omega)), (by first | exact Nat.le_of_ble_eq_true rfl | omega | (dsimp only; omega))⟩ ?_
        refine lv_if_neB (tgt := 53) hx hb dX2_takeOut_21 (by decide) (fun c_6 => ?_) (fun c_6 => ?_)
        · refine lv_iinc (v := nI (i + 1)) (lv' := [(2, .int (nI (i + 1))), (0, .ref h), (1, .ref x1)]) hx hb dX2_takeOut_53 hl (k := 0) rfl (nI_1 _) (by decide) rfl (fun ls hl => ?_)
          refine lv_goto (tgt := 2) hx hb dX2_takeOut_56 (by decide) ?_
          have hl := lv_sub (l' := [(2, .int (nI (i + 1))), (0, .ref h), (1, .ref x1)]) hl [0, 1, 2] rfl
          have hl : lv_has ls 3 [(2, .int (nI (i + 1))), (0, .ref h), (1, .ref x1)] := by
            have e9 : [(2, .int (nI (i + 1))), (0, .ref h), (1, .ref x1)] = ([(2, .int (nI (i + 1))), (0, .ref h), (1, .ref x1)] : List (Nat × Value)) := by rfl
            rw [← e9]; exact hl
          exact ih_2 (i + 1) (by omega) (by omega) (rg_bef (p := fun k => s_same f1 (T k)) hbi (show s_same f1 (T i) = false from by rw [s_same, if_pos c_6])) _ hl
        · refine lv_aload_n hx hb dX2_takeOut_24 rfl (lv_at hl 1 rfl) ?_
          refine va_get (D := (dC, dI)) (ci := 2) (v := .ref qt) (C := RX2) (T := TX2) (N := 4) hx hb hts in_X2_takeOut_X2 hown hK.1 (va_P.one hO) 0 rfl rfl 1 (by decide) (hts (.fieldLink RX2 15 "MoorTrianglesLaw$Sim" "triangles" "[[I") fl_X2_takeOut_15) (fun _ h9 => h9) rfl dX2_takeOut_25 ?_
          refine lv_iload_n hx hb dX2_takeOut_28 rfl (lv_at hl 0 rfl) ?_
          refine sx_aald hx hb hK.1 hTt (ix_nI (by omega)) (by omega) dX2_takeOut_29 (fun xq7 hr8 => ?_)
          refine lv_aload_n hx hb dX2_takeOut_30 rfl (lv_at hl 2 rfl) ?_
          refine sr_cSi (As := [.ref xq7, .ref x1]) (rest := []) F (c_X2_isAhead l dC dI cI cZ cY (h + 1) xq7 x1 (T i) f1) (cwS 2 hts gX2_takeOut_X2_isAhead rfl rfl rfl hd_X2_isAhead ⟨Nat.le_of_ble_eq_true rfl, Nat.le_of_ble_eq_true rfl⟩) ⟨hr8, hx1⟩ hK rfl hl.1 rfl (lv_room (Nat.le_of_ble_eq_true rfl)) dX2_takeOut_31 ⟨(by first | exact Nat.le_of_ble_eq_true rfl | omega | (dsimp only; omega)), (by first | exact Nat.le_of_ble_eq_true rfl | omega | (dsimp only; omega))⟩ ?_
          refine lv_if_eqB (tgt := 40) hx hb dX2_takeOut_34 (by decide) (fun c_9 => ?_) (fun c_9 => ?_)
          · refine lv_aload_n hx hb dX2_takeOut_40 rfl (lv_at hl 1 rfl) ?_
            refine lv_aload_n hx hb dX2_takeOut_41 rfl (lv_at hl 1 rfl) ?_
            refine va_get (D := (dC, dI)) (ci := 2) (v := .ref qt) (C := RX2) (T := TX2) (N := 4) hx hb hts in_X2_takeOut_X2 hown hK.1 (va_P.one hO) 0 rfl rfl 1 (by decide) (hts (.fieldLink RX2 15 "MoorTrianglesLaw$Sim" "triangles" "[[I") fl_X2_takeOut_15) (fun _ h9 => h9) rfl dX2_takeOut_42 ?_
            refine lv_iload_n hx hb dX2_takeOut_45 rfl (lv_at hl 0 rfl) ?_
            have lt9 := hC.lt
            have lt7 := hTt.lt
            have lt8 := hSt.lt
            refine sc_cSNr (As := [.ref qt, .int (nI i)]) (rest := [.ref h]) F (c_X2_less l dC dI cI cZ cY (h + 1) qt i nT 3 T (by omega) hlt_i s.heap.size) (cwS 2 hts gX2_takeOut_X2_less rfl rfl rfl hd_X2_less ⟨Nat.le_of_ble_eq_true rfl, Nat.le_of_ble_eq_true rfl⟩) ⟨hTt, (Nat.succ_le_of_lt hO.lt)⟩ hK hS hA rfl hl.1 rfl (lv_room (Nat.le_of_ble_eq_true rfl)) dX2_takeOut_46 ⟨(by first | exact Nat.le_of_ble_eq_true rfl | omega | (dsimp only; omega)), (by first | exact Nat.le_of_ble_eq_true rfl | omega | (dsimp only; omega))⟩ (fun q13 H10 locs11 hf12 hE hS => ?_)
            have hC := hC.ext0 hE
            have hTt := hTt.ext0 hE
            have hSt := hSt.ext0 hE
            have hx1 := hx1.ext0 hE
            have hr5 := hr5.ext0 hE
            have hr8 := hr8.ext0 hE
            have hO := hO.ext0 hE
            have hf12T := hf12.T
            refine sx_put (k := 1) (v := .ref q13) (ty := .array (.array .int)) hx hb hts in_X2_takeOut_X2 hown hK.1 hO hS hAh (hts (.fieldLink RX2 15 "MoorTrianglesLaw$Sim" "triangles" "[[I") fl_X2_takeOut_15) (by decide) rfl rfl (by rfl) (by rfl) rfl rfl dX2_takeOut_49 (fun H14 locs15 hO hZ hS => ?_)
            have hO : sO (dC, dI) H14 h qc q13 qs fl := hO
            have hC := hC.extZ hZ
            have hTt := hTt.extZ hZ
            have hSt := hSt.extZ hZ
            have hx1 := hx1.extZ hZ
            have hr5 := hr5.extZ hZ
            have hr8 := hr8.extZ hZ
            have hf12T := hf12T.extZ hZ
            have hn1 : qc ≠ q13 := fun e => by have := hf12.1; omega
            exact sa_vret (Pf := sM (dC, dI) cI cY h nC C (s_to nT T f1).1 (s_to nT T f1).2 nS S fl) hx hb hr hlocks (by rw [s_to_some (show s_same f1 (T i) = true from by rw [s_same, if_neg (by rw [c_6]; decide), if_neg (by rw [c_9]; decide)]) hbi hlt_i]; exact ⟨qc, q13, qs, hO, hC, hf12T, hSt, hn1, hn2⟩) hS (by first | exact Nat.le_of_ble_eq_true rfl | omega | (dsimp only; omega)) (by first | exact Nat.le_of_ble_eq_true rfl | omega | (dsimp only; omega)) dX2_takeOut_52
          · refine lv_goto (tgt := 53) hx hb dX2_takeOut_37 (by decide) ?_
            refine lv_iinc (v := nI (i + 1)) (lv' := [(2, .int (nI (i + 1))), (0, .ref h), (1, .ref x1)]) hx hb dX2_takeOut_53 hl (k := 0) rfl (nI_1 _) (by decide) rfl (fun ls hl => ?_)
            refine lv_goto (tgt := 2) hx hb dX2_takeOut_56 (by decide) ?_
            have hl := lv_sub (l' := [(2, .int (nI (i + 1))), (0, .ref h), (1, .ref x1)]) hl [0, 1, 2] rfl
            have hl : lv_has ls 3 [(2, .int (nI (i + 1))), (0, .ref h), (1, .ref x1)] := by
              have e9 : [(2, .int (nI (i + 1))), (0, .ref h), (1, .ref x1)] = ([(2, .int (nI (i + 1))), (0, .ref h), (1, .ref x1)] : List (Nat × Value)) := by rfl
              rw [← e9]; exact hl
            exact ih_2 (i + 1) (by omega) (by omega) (rg_bef (p := fun k => s_same f1 (T k)) hbi (show s_same f1 (T i) = false from by rw [s_same, if_neg (by rw [c_6]; decide), if_pos c_9])) _ hl
  have hl := lv_sub (l' := [(2, .int 0), (0, .ref h), (1, .ref x1)]) hl [0, 1, 2] rfl
  have hl : lv_has ls 3 [(2, .int (nI 0)), (0, .ref h), (1, .ref x1)] := by
    have e9 : [(2, .int 0), (0, .ref h), (1, .ref x1)] = ([(2, .int (nI 0)), (0, .ref h), (1, .ref x1)] : List (Nat × Value)) := by rfl
    rw [← e9]; exact hl
  exact hL2 _ 0 (Nat.lt_succ_self _) (by omega) (fun j hj => absurd hj (Nat.not_lt_zero _)) _ hl
theorem in_X2_put_X2 : ∀ w ∈ wsX20, w ∈ wsX2_put := by decide +kernel
theorem fl_X2_put_15 : (Cond.fieldLink RX2 15 "MoorTrianglesLaw$Sim" "triangles" "[[I") ∈ wsX2_put := by decide +kernel
theorem hd_X2_put : yX2_put.cls = RX2 ∧ yX2_put.cls ≠ "java/lang/invoke/MethodHandle" ∧ yX2_put.cls ≠ "java/lang/invoke/VarHandle" ∧ (parseMethodDescriptor yX2_put.desc).map (fun d => d.parameters.length) = some 3 := by decide +kernel
set_option maxHeartbeats 4000000 in
set_option maxRecDepth 100000 in
theorem c_X2_put (l : Launch) (dC : Nat → ClassId) (dI : Nat → Nat → Nat) (cI cZ cY : ClassId) (h : Nat) (nC : Nat) (C : Nat → Nat → Int32) (nT : Nat) (T : Nat → Nat → Int32) (nS : Nat) (S : Nat → Nat → Int32) (fl : Int32) (a : Int32) (b : Int32) (c9 : Int32) (hnT : nT ≤ 1000) (sz : Nat) : Met l yX2_put wsX2_put ({ frames := 4, cells := 2, slots := nT + 4, locals := 88 }) (va_Pc [.ref h, .int a, .int b, .int c9] (sPz (dC, dI) cI cZ cY (sM (dC, dI) cI cY h nC C nT T nS S fl) sz)) (sQv (sM (dC, dI) cI cY h nC C (nT + 1) (s_put nT T (s_three a b c9)) nS S fl) ((aH h) sz)) 2 (nT + 4) ((aH h) sz) := by
  refine sa_start (cc := cX2_put) (maxL := 6) (ret := none) (Q0 := sQv (sM (dC, dI) cI cY h nC C (nT + 1) (s_put nT T (s_three a b c9)) nS S fl)) (aH h) (aH_ok h) RX2 (by decide) rfl rfl (Nat.le_of_ble_eq_true rfl) ?_
  intro p e s m below meth c ⟨hx, hb, hr, hml, hown, hts, hlocks, hini⟩ hM0 hK A hAe hA hS ls hl
  have hAh : A h := by rw [hAe]; exact Or.inl rfl
  have F : CallFix p m c cX2_put 6 s ([.ref h, .int a, .int b, .int c9] : List Value).toArray wsX2_put RX2 := ⟨hx, hb, hml, hown, hts⟩
  have hl : lv_has ls 6 [(0, .ref h), (1, .int a), (2, .int b), (3, .int c9)] := hl
  obtain ⟨qc, qt, qs, hO, hC, hTt, hSt, hn1, hn2⟩ := hM0
  refine lv_aload_n hx hb dX2_put_0 rfl (lv_at hl 0 rfl) ?_
  refine lv_aload_n hx hb dX2_put_1 rfl (lv_at hl 0 rfl) ?_
  refine va_get (D := (dC, dI)) (ci := 2) (v := .ref qt) (C := RX2) (T := TX2) (N := 4) hx hb hts in_X2_put_X2 hown hK.1 (va_P.one hO) 0 rfl rfl 1 (by decide) (hts (.fieldLink RX2 15 "MoorTrianglesLaw$Sim" "triangles" "[[I") fl_X2_put_15) (fun _ h9 => h9) rfl dX2_put_2 ?_
  refine lv_iload_n hx hb dX2_put_5 rfl (lv_at hl 1 rfl) ?_
  refine lv_iload_n hx hb dX2_put_6 rfl (lv_at hl 2 rfl) ?_
  refine lv_iload_n hx hb dX2_put_7 rfl (lv_at hl 3 rfl) ?_
  refine sc_cSNr (As := [.int a, .int b, .int c9]) (rest := [.ref qt, .ref h]) F (c_X2_three l dC dI cI cZ cY (h + 1) a b c9 s.heap.size) (cwS 3 hts gX2_put_X2_three rfl rfl rfl hd_X2_three ⟨Nat.le_of_ble_eq_true rfl, Nat.le_of_ble_eq_true rfl⟩) (Nat.succ_le_of_lt hO.lt) hK hS hA rfl hl.1 rfl (lv_room (Nat.le_of_ble_eq_true rfl)) dX2_put_8 ⟨(by first | exact Nat.le_of_ble_eq_true rfl | omega | (dsimp only; omega)), (by first | exact Nat.le_of_ble_eq_true rfl | omega | (dsimp only; omega))⟩ (fun q4 H1 locs2 hf3 hE hS => ?_)
  have hC := hC.ext0 hE
  have hTt := hTt.ext0 hE
  have hSt := hSt.ext0 hE
  have hO := hO.ext0 hE
  have hC9 := hC
  have hSt9 := hSt
  have hS9 := hS
  have lt9 := hC.lt
  have lt7 := hTt.lt
  have lt8 := hSt.lt
  refine sc_cSNr (As := [.ref qt, .ref q4]) (rest := [.ref h]) F (c_X2_more l dC dI cI cZ cY (h + 1) qt q4 nT 3 T (s_three a b c9) (by omega) H1.size) (cwS 2 hts gX2_put_X2_more rfl rfl rfl hd_X2_more ⟨Nat.le_of_ble_eq_true rfl, Nat.le_of_ble_eq_true rfl⟩) ⟨hTt, hf3, (Nat.succ_le_of_lt hO.lt)⟩ hK hS hA rfl hl.1 rfl (lv_room (Nat.le_of_ble_eq_true rfl)) dX2_put_11 ⟨(by first | exact Nat.le_of_ble_eq_true rfl | omega | (dsimp only; omega)), (by first | exact Nat.le_of_ble_eq_true rfl | omega | (dsimp only; omega))⟩ (fun q8 H5 locs6 hf7 hE hS => ?_)
  have hC := hC.ext0 hE
  have hTt := hTt.ext0 hE
  have hSt := hSt.ext0 hE
  have hf3 := hf3.ext0 hE
  have hO := hO.ext0 hE
  have hf7T := hf7.T
  refine sx_put (k := 1) (v := .ref q8) (ty := .array (.array .int)) hx hb hts in_X2_put_X2 hown hK.1 hO hS hAh (hts (.fieldLink RX2 15 "MoorTrianglesLaw$Sim" "triangles" "[[I") fl_X2_put_15) (by decide) rfl rfl (by rfl) (by rfl) rfl rfl dX2_put_14 (fun H9 locs10 hO hZ hS => ?_)
  have hO : sO (dC, dI) H9 h qc q8 qs fl := hO
  have hC := hC.extZ hZ
  have hTt := hTt.extZ hZ
  have hSt := hSt.extZ hZ
  have hf3 := hf3.extZ hZ
  have hf7T := hf7T.extZ hZ
  have hn1 : qc ≠ q8 := fun e => by have := hf7.1; omega
  refine lv_aload_n hx hb dX2_put_17 rfl (lv_at hl 0 rfl) ?_
  refine va_get (D := (dC, dI)) (ci := 2) (v := .ref q8) (C := RX2) (T := TX2) (N := 4) hx hb hts in_X2_put_X2 hown hK.1 (va_P.one hO) 0 rfl rfl 1 (by decide) (hts (.fieldLink RX2 15 "MoorTrianglesLaw$Sim" "triangles" "[[I") fl_X2_put_15) (fun _ h9 => h9) rfl dX2_put_18 ?_
  refine sx_alenT hx hb hK.1 hf7T dX2_put_21 ?_
  refine lv_iconst (v := 1) hx hb dX2_put_22 (by decide) ?_
  refine lv_isub hx hb dX2_put_23 ?_
  refine lv_cvi (nI_m1 nT) ?_
  refine lv_istore (lv' := [(4, .int (nI nT)), (0, .ref h), (1, .int a), (2, .int b), (3, .int c9)]) hx hb dX2_put_24 hl (by decide) rfl (fun ls hl => ?_)
  obtain ⟨hq9, ad0, ⟨g0, hg0, hga0⟩, hrw0⟩ := hf7
  have hz9 := (hE.z h).tr hZ
  have hL : ∀ (k : Nat) (Fm : Nat → Nat → Int32) (ad : Nat → Nat), k ≤ nT → ∀ (H : Heap) (locs : List Loc) (g : Nat → Option Nat), hz h H1 H → va_S A s.heap H locs → sO (dC, dI) H h qc q8 qs fl → hG cY (h + 1) H q8 (nT + 1) g → (∀ j : Nat, j < nT + 1 → g j = some (ad j)) → (∀ j : Nat, j < nT + 1 → hI cI (h + 1) H (ad j) 3 (Fm j) ∧ ad j < H1.size) → s_bub Fm k = s_put nT T (s_three a b c9) → ∀ ls : Array Slot, lv_has ls 6 [(4, .int (nI k)), (0, .ref h), (1, .int a), (2, .int b), (3, .int c9)] → W p l e ({ frames := 4, cells := 2, slots := nT + 4, locals := 88 } : Room) s m ([.ref h, .int a, .int b, .int c9] : List Value).toArray below meth c H locs ((0 + 1) + 1) ((0 + 3) + (nT + 1)) (MQ below (sQv (sM (dC, dI) cI cY h nC C (nT + 1) (s_put nT T (s_three a b c9)) nS S fl) A) ([.ref h, .int a, .int b, .int c9] : List Value).toArray s 2 (nT + 4) A) (F0 m 26 ls []) := by
    intro k
    induction k with
    | zero =>
      intro Fm ad hk H locs g hz1 hS hO hN hg hrw he ls hl
      refine lv_iload hx hb dX2_put_26 (lv_at hl 0 rfl) ?_
      refine lv_if_le (tgt := 95) hx hb dX2_put_28 (by decide) (fun c1 => ?_) (fun c1 => ?_)
      · refine sa_vret (Pf := _) hx hb hr hlocks (show sM (dC, dI) cI cY h nC C (nT + 1) (s_put nT T (s_three a b c9)) nS S fl H from ?_) hS (by first | exact Nat.le_of_ble_eq_true rfl | omega | (dsimp only; omega)) (by first | exact Nat.le_of_ble_eq_true rfl | omega | (dsimp only; omega)) dX2_put_95
        exact ⟨qc, q8, qs, hO, hC9.extZ hz1, ⟨ad, ⟨g, hN, hg⟩, fun j hj => by rw [← he]; exact (hrw j hj).1⟩, hSt9.extZ hz1, fun e => by have := hC9.lt; omega, hn2⟩
      · exact absurd (by decide) c1
    | succ k ih =>
      intro Fm ad hk H locs g hz1 hS hO hN hg hrw he ls hl
      refine lv_iload hx hb dX2_put_26 (lv_at hl 0 rfl) ?_
      refine lv_if_le (tgt := 95) hx hb dX2_put_28 (by decide) (fun c1 => ?_) (fun c1 => ?_)
      · exact absurd c1 (nI_s_nle (by omega))
      · refine lv_aload_n hx hb dX2_put_31 rfl (lv_at hl 1 rfl) ?_
        refine va_get (D := (dC, dI)) (ci := 2) (v := .ref q8) (C := RX2) (T := TX2) (N := 4) hx hb hts in_X2_put_X2 hown hK.1 (va_P.one hO) 0 rfl rfl 1 (by decide) (hts (.fieldLink RX2 15 "MoorTrianglesLaw$Sim" "triangles" "[[I") fl_X2_put_15) (fun _ h9 => h9) rfl dX2_put_32 ?_
        refine lv_iload hx hb dX2_put_35 (lv_at hl 0 rfl) ?_
        refine sx_aaldG (x := ad (k + 1)) hx hb hK.1 hN (hg (k + 1) (by omega)) (ix_nI (by omega)) (by omega) dX2_put_37 ?_
        refine lv_aload_n hx hb dX2_put_38 rfl (lv_at hl 1 rfl) ?_
        refine va_get (D := (dC, dI)) (ci := 2) (v := .ref q8) (C := RX2) (T := TX2) (N := 4) hx hb hts in_X2_put_X2 hown hK.1 (va_P.one hO) 0 rfl rfl 1 (by decide) (hts (.fieldLink RX2 15 "MoorTrianglesLaw$Sim" "triangles" "[[I") fl_X2_put_15) (fun _ h9 => h9) rfl dX2_put_39 ?_
        refine lv_iload hx hb dX2_put_42 (lv_at hl 0 rfl) ?_
        refine lv_iconst (v := 1) hx hb dX2_put_44 (by decide) ?_
        refine lv_isub hx hb dX2_put_45 ?_
        refine lv_cvi (nI_m1 k) ?_
        refine sx_aaldG (x := ad k) hx hb hK.1 hN (hg k (by omega)) (ix_nI (by omega)) (by omega) dX2_put_46 ?_
        refine sr_cSi (As := [.ref (ad (k + 1)), .ref (ad k)]) (rest := []) F (c_X2_isAhead l dC dI cI cZ cY (h + 1) (ad (k + 1)) (ad k) (Fm (k + 1)) (Fm k)) (cwS 2 hts gX2_put_X2_isAhead rfl rfl rfl hd_X2_isAhead ⟨Nat.le_of_ble_eq_true rfl, Nat.le_of_ble_eq_true rfl⟩) ⟨(hrw (k + 1) (by omega)).1, (hrw k (by omega)).1⟩ hK rfl hl.1 rfl (lv_room (Nat.le_of_ble_eq_true rfl)) dX2_put_47 ⟨(by first | exact Nat.le_of_ble_eq_true rfl | omega | (dsimp only; omega)), (by first | exact Nat.le_of_ble_eq_true rfl | omega | (dsimp only; omega))⟩ ?_
        refine lv_if_eqB (tgt := 95) hx hb dX2_put_50 (by decide) (fun c2 => ?_) (fun c2 => ?_)
        · have he : Fm = s_put nT T (s_three a b c9) := by rw [← he, s_bub, if_neg (by rw [c2]; decide)]
          refine sa_vret (Pf := _) hx hb hr hlocks (show sM (dC, dI) cI cY h nC C (nT + 1) (s_put nT T (s_three a b c9)) nS S fl H from ?_) hS (by first | exact Nat.le_of_ble_eq_true rfl | omega | (dsimp only; omega)) (by first | exact Nat.le_of_ble_eq_true rfl | omega | (dsimp only; omega)) dX2_put_95
          exact ⟨qc, q8, qs, hO, hC9.extZ hz1, ⟨ad, ⟨g, hN, hg⟩, fun j hj => by rw [← he]; exact (hrw j hj).1⟩, hSt9.extZ hz1, fun e => by have := hC9.lt; omega, hn2⟩
        · refine lv_aload_n hx hb dX2_put_53 rfl (lv_at hl 1 rfl) ?_
          refine va_get (D := (dC, dI)) (ci := 2) (v := .ref q8) (C := RX2) (T := TX2) (N := 4) hx hb hts in_X2_put_X2 hown hK.1 (va_P.one hO) 0 rfl rfl 1 (by decide) (hts (.fieldLink RX2 15 "MoorTrianglesLaw$Sim" "triangles" "[[I") fl_X2_put_15) (fun _ h9 => h9) rfl dX2_put_54 ?_
          refine lv_iload hx hb dX2_put_57 (lv_at hl 0 rfl) ?_
          refine sx_aaldG (x := ad (k + 1)) hx hb hK.1 hN (hg (k + 1) (by omega)) (ix_nI (by omega)) (by omega) dX2_put_59 ?_
          refine lv_astore (lv' := [(5, .ref (ad (k + 1))), (4, .int (nI (k + 1))), (0, .ref h), (1, .int a), (2, .int b), (3, .int c9)]) hx hb dX2_put_60 hl (by decide) rfl (fun ls hl => ?_)
          refine lv_aload_n hx hb dX2_put_62 rfl (lv_at hl 2 rfl) ?_
          refine va_get (D := (dC, dI)) (ci := 2) (v := .ref q8) (C := RX2) (T := TX2) (N := 4) hx hb hts in_X2_put_X2 hown hK.1 (va_P.one hO) 0 rfl rfl 1 (by decide) (hts (.fieldLink RX2 15 "MoorTrianglesLaw$Sim" "triangles" "[[I") fl_X2_put_15) (fun _ h9 => h9) rfl dX2_put_63 ?_
          refine lv_iload hx hb dX2_put_66 (lv_at hl 1 rfl) ?_
          refine lv_aload_n hx hb dX2_put_68 rfl (lv_at hl 2 rfl) ?_
          refine va_get (D := (dC, dI)) (ci := 2) (v := .ref q8) (C := RX2) (T := TX2) (N := 4) hx hb hts in_X2_put_X2 hown hK.1 (va_P.one hO) 0 rfl rfl 1 (by decide) (hts (.fieldLink RX2 15 "MoorTrianglesLaw$Sim" "triangles" "[[I") fl_X2_put_15) (fun _ h9 => h9) rfl dX2_put_69 ?_
          refine lv_iload hx hb dX2_put_72 (lv_at hl 1 rfl) ?_
          refine lv_iconst (v := 1) hx hb dX2_put_74 (by decide) ?_
          refine lv_isub hx hb dX2_put_75 ?_
          refine lv_cvi (nI_m1 k) ?_
          refine sx_aaldG (x := ad k) hx hb hK.1 hN (hg k (by omega)) (ix_nI (by omega)) (by omega) dX2_put_76 ?_
          have hN9 := hN
          refine sx_aast hx hb hK hS hN (hrw k (by omega)).1 (hA q8 (Nat.le_trans hS9.1 hq9)) (ix_nI (by omega)) (by omega) dX2_put_77 (fun Ha9 la9 hN hz_ ho_ hS => ?_)
          have hz1 := hz1.wr hq9 hz_ ho_
          have hO : sO (dC, dI) _ h qc q8 qs fl := va_at.kept hO (ho_ h (by have := hN9.1; omega))
          have hrw : ∀ j : Nat, j < nT + 1 → hI cI (h + 1) _ (ad j) 3 (Fm j) ∧ ad j < H1.size := fun j hj => ⟨(hrw j hj).1.at (ho_ _ (by have := (hrw j hj).2; omega)), (hrw j hj).2⟩
          refine lv_aload_n hx hb dX2_put_78 rfl (lv_at hl 2 rfl) ?_
          refine va_get (D := (dC, dI)) (ci := 2) (v := .ref q8) (C := RX2) (T := TX2) (N := 4) hx hb hts in_X2_put_X2 hown hK.1 (va_P.one hO) 0 rfl rfl 1 (by decide) (hts (.fieldLink RX2 15 "MoorTrianglesLaw$Sim" "triangles" "[[I") fl_X2_put_15) (fun _ h9 => h9) rfl dX2_put_79 ?_
          refine lv_iload hx hb dX2_put_82 (lv_at hl 1 rfl) ?_
          refine lv_iconst (v := 1) hx hb dX2_put_84 (by decide) ?_
          refine lv_isub hx hb dX2_put_85 ?_
          refine lv_cvi (nI_m1 k) ?_
          refine lv_aload hx hb dX2_put_86 (lv_at hl 0 rfl) ?_
          refine sx_aast hx hb hK hS hN (hrw (k + 1) (by omega)).1 (hA q8 (Nat.le_trans hS9.1 hq9)) (ix_nI (by omega)) (by omega) dX2_put_88 (fun Ha8 la8 hN hz_ ho_ hS => ?_)
          have hz1 := hz1.wr hq9 hz_ ho_
          have hO : sO (dC, dI) _ h qc q8 qs fl := va_at.kept hO (ho_ h (by have := hN9.1; omega))
          have hrw : ∀ j : Nat, j < nT + 1 → hI cI (h + 1) _ (ad j) 3 (Fm j) ∧ ad j < H1.size := fun j hj => ⟨(hrw j hj).1.at (ho_ _ (by have := (hrw j hj).2; omega)), (hrw j hj).2⟩
          have hl := lv_sub (l' := [(4, .int (nI (k + 1))), (0, .ref h), (1, .int a), (2, .int b), (3, .int c9)]) hl [1, 2, 3, 4, 5] rfl
          refine lv_iinc (v := nI k) (lv' := [(4, .int (nI k)), (0, .ref h), (1, .int a), (2, .int b), (3, .int c9)]) hx hb dX2_put_89 hl (k := 0) rfl (pk_m1 _) (by decide) rfl (fun ls hl => ?_)
          refine lv_goto (tgt := 26) hx hb dX2_put_92 (by decide) ?_
          exact ih (s_swap Fm k) (s_swap ad k) (by omega) Ha8 la8 _ hz1 hS hO hN (s_swap_g hg) (s_swap_r hrw (by omega)) (by rw [← he, s_bub, if_pos c2]) _ hl
  exact hL nT _ ad0 (Nat.le_refl _) H9 locs10 g0 hz9 hS hO (hg0.extZ hZ) hga0 (fun j hj => ⟨(hrw0 j hj).1.extZ hZ, (hrw0 j hj).2⟩) rfl _ hl
