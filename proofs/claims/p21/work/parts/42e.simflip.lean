/-! the law's own moor: a flip, how many are unfair, by program (gens.py) -/
theorem in_X2_flip_X2 : ∀ w ∈ wsX20, w ∈ wsX2_flip := by decide +kernel
theorem fl_X2_flip_22 : (Cond.fieldLink RX2 22 "MoorTrianglesLaw$Sim" "flips" "I") ∈ wsX2_flip := by decide +kernel
theorem ma0_X2_flip_min : (Cond.methodLink RX2 78 Lib.Math.min.name) ∈ wsX2_flip := by decide +kernel
theorem ma1_X2_flip_min : (Cond.static Lib.Math.min.name) ∈ wsX2_flip := by decide +kernel
theorem ma2_X2_flip_min : (Cond.initialized "java/lang/Math") ∈ wsX2_flip := by decide +kernel
theorem ma3_X2_flip_min : (Cond.code Lib.Math.min.name Lib.Math.min.code 2 (some .int)) ∈ wsX2_flip := by decide +kernel
theorem ma0_X2_flip_max : (Cond.methodLink RX2 82 Lib.Math.max.name) ∈ wsX2_flip := by decide +kernel
theorem ma1_X2_flip_max : (Cond.static Lib.Math.max.name) ∈ wsX2_flip := by decide +kernel
theorem ma2_X2_flip_max : (Cond.initialized "java/lang/Math") ∈ wsX2_flip := by decide +kernel
theorem ma3_X2_flip_max : (Cond.code Lib.Math.max.name Lib.Math.max.code 2 (some .int)) ∈ wsX2_flip := by decide +kernel
theorem hd_X2_flip : yX2_flip.cls = RX2 ∧ yX2_flip.cls ≠ "java/lang/invoke/MethodHandle" ∧ yX2_flip.cls ≠ "java/lang/invoke/VarHandle" ∧ (parseMethodDescriptor yX2_flip.desc).map (fun d => d.parameters.length) = some 2 := by decide +kernel
set_option maxHeartbeats 4000000 in
set_option maxRecDepth 100000 in
theorem c_X2_flip (l : Launch) (dC : Nat → ClassId) (dI : Nat → Nat → Nat) (cI cZ cY : ClassId) (h : Nat) (nC : Nat) (C : Nat → Nat → Int32) (nT : Nat) (T : Nat → Nat → Int32) (nS : Nat) (S : Nat → Nat → Int32) (fl : Int32) (a : Int32) (b : Int32) (hnT : nT ≤ 998) (h2 : (s_fa T a b nT).1 = 2) (sz : Nat) : Met l yX2_flip wsX2_flip ({ frames := 5, cells := s_ct T a b nT + 9, slots := 2 * s_ct T a b nT + 4 * nT + 20, locals := 113 }) (va_Pc [.ref h, .int a, .int b] (sPz (dC, dI) cI cZ cY (sM (dC, dI) cI cY h nC C nT T nS S fl) sz)) (sQi (s_edge nT T a b) (sM (dC, dI) cI cY h nC C (s_flip nT T a b).1 (s_flip nT T a b).2 nS S (fl + 1)) ((aH h) sz)) (s_ct T a b nT + 9) (2 * s_ct T a b nT + 4 * nT + 20) ((aH h) sz) := by
  refine sa_start (cc := cX2_flip) (maxL := 4) (ret := (some .int)) (Q0 := sQi (s_edge nT T a b) (sM (dC, dI) cI cY h nC C (s_flip nT T a b).1 (s_flip nT T a b).2 nS S (fl + 1))) (aH h) (aH_ok h) RX2 (by decide) rfl rfl (Nat.le_of_ble_eq_true rfl) ?_
  intro p e s m below meth c ⟨hx, hb, hr, hml, hown, hts, hlocks, hini⟩ hM0 hK A hAe hA hS ls hl
  have hAh : A h := by rw [hAe]; exact Or.inl rfl
  have F : CallFix p m c cX2_flip 4 s ([.ref h, .int a, .int b] : List Value).toArray wsX2_flip RX2 := ⟨hx, hb, hml, hown, hts⟩
  have hl : lv_has ls 4 [(0, .ref h), (1, .int a), (2, .int b)] := hl
  obtain ⟨qc, qt, qs, hO, hC, hTt, hSt, hn1, hn2⟩ := hM0
  refine lv_aload_n hx hb dX2_flip_0 rfl (lv_at hl 0 rfl) ?_
  refine lv_iload_n hx hb dX2_flip_1 rfl (lv_at hl 1 rfl) ?_
  refine lv_iload_n hx hb dX2_flip_2 rfl (lv_at hl 2 rfl) ?_
  have e1 := s_f1_le (nT := nT) (T := T) (a := a) (b := b)
  have e2 := s_f2_le (nT := nT) (T := T) (a := a) (b := b)
  simp only [s_f1, s_f2] at e1 e2
  refine sc_cVNr (As := [.int a, .int b]) (rest := []) F (c_X2_fars l dC dI cI cZ cY h nC C nT T nS S fl a b (by omega) s.heap.size) (cwV 2 hts gX2_flip_X2_fars rfl rfl rfl hd_X2_fars ⟨Nat.le_of_ble_eq_true rfl, Nat.le_of_ble_eq_true rfl⟩) ⟨qc, qt, qs, hO, hC, hTt, hSt, hn1, hn2⟩ hK hS hA (sM.recv hK.1 ⟨qc, qt, qs, hO, hC, hTt, hSt, hn1, hn2⟩) rfl hl.1 rfl (lv_room (Nat.le_of_ble_eq_true rfl)) dX2_flip_3 ⟨(by first | exact Nat.le_of_ble_eq_true rfl | omega | (dsimp only; omega)), (by first | exact Nat.le_of_ble_eq_true rfl | omega | (dsimp only; omega))⟩ (fun q4 H1 locs2 hf3 hE hS => ?_)
  have hC := hC.ext0 hE
  have hTt := hTt.ext0 hE
  have hSt := hSt.ext0 hE
  have hO := hO.ext0 hE
  refine lv_astore_n (lv' := [(3, .ref q4), (0, .ref h), (1, .int a), (2, .int b)]) hx hb dX2_flip_6 rfl hl (by decide) rfl (fun ls hl => ?_)
  refine lv_aload_n hx hb dX2_flip_7 rfl (lv_at hl 1 rfl) ?_
  refine lv_iload_n hx hb dX2_flip_8 rfl (lv_at hl 2 rfl) ?_
  refine lv_iload_n hx hb dX2_flip_9 rfl (lv_at hl 3 rfl) ?_
  refine lv_aload_n hx hb dX2_flip_10 rfl (lv_at hl 0 rfl) ?_
  refine lv_iconst (v := 0) hx hb dX2_flip_11 (by decide) ?_
  refine sx_iald hx hb hK.1 hf3 ix_0 (by omega) dX2_flip_12 ?_
  refine lv_cvi (y := (s_fa T a b nT).2.1) rfl ?_
  refine sc_cSNr (As := [.int a, .int b, .int ((s_fa T a b nT).2.1)]) (rest := [.ref h]) F (c_X2_three l dC dI cI cZ cY (h + 1) a b ((s_fa T a b nT).2.1) H1.size) (cwS 3 hts gX2_flip_X2_three rfl rfl rfl hd_X2_three ⟨Nat.le_of_ble_eq_true rfl, Nat.le_of_ble_eq_true rfl⟩) (Nat.succ_le_of_lt hO.lt) hK hS hA rfl hl.1 rfl (lv_room (Nat.le_of_ble_eq_true rfl)) dX2_flip_13 ⟨(by first | exact Nat.le_of_ble_eq_true rfl | omega | (dsimp only; omega)), (by first | exact Nat.le_of_ble_eq_true rfl | omega | (dsimp only; omega))⟩ (fun q8 H5 locs6 hf7 hE hS => ?_)
  have hC := hC.ext0 hE
  have hTt := hTt.ext0 hE
  have hSt := hSt.ext0 hE
  have hf3 := hf3.ext0 hE
  have hO := hO.ext0 hE
  refine sc_cVHv (hh := h) (As := [.ref q8]) (rest := []) F (c_X2_takeOut l dC dI cI cZ cY h nC C nT T nS S fl q8 (s_three a b ((s_fa T a b nT).2.1)) (by omega) H5.size) (cwV 1 hts gX2_flip_X2_takeOut rfl rfl rfl hd_X2_takeOut ⟨Nat.le_of_ble_eq_true rfl, Nat.le_of_ble_eq_true rfl⟩) ⟨⟨qc, qt, qs, hO, hC, hTt, hSt, hn1, hn2⟩, hf7⟩ hK hS hA hAh (sM.recv hK.1 ⟨qc, qt, qs, hO, hC, hTt, hSt, hn1, hn2⟩) rfl hl.1 rfl (lv_room (Nat.le_of_ble_eq_true rfl)) dX2_flip_16 ⟨(by first | exact Nat.le_of_ble_eq_true rfl | omega | (dsimp only; omega)), (by first | exact Nat.le_of_ble_eq_true rfl | omega | (dsimp only; omega))⟩ (fun H9 locs10 hf11 hZ hS => ?_)
  have hf3 := hf3.extZ hZ
  have hf7 := hf7.extZ hZ
  obtain ⟨qc13, qt13, qs13, hO, hC, hTt, hSt, hn1, hn2⟩ := hf11
  refine lv_aload_n hx hb dX2_flip_19 rfl (lv_at hl 1 rfl) ?_
  refine lv_iload_n hx hb dX2_flip_20 rfl (lv_at hl 2 rfl) ?_
  refine lv_iload_n hx hb dX2_flip_21 rfl (lv_at hl 3 rfl) ?_
  refine lv_aload_n hx hb dX2_flip_22 rfl (lv_at hl 0 rfl) ?_
  refine lv_iconst (v := 1) hx hb dX2_flip_23 (by decide) ?_
  refine sx_iald hx hb hK.1 hf3 ix_1 (by omega) dX2_flip_24 ?_
  refine lv_cvi (y := (s_fa T a b nT).2.2) rfl ?_
  refine sc_cSNr (As := [.int a, .int b, .int ((s_fa T a b nT).2.2)]) (rest := [.ref h]) F (c_X2_three l dC dI cI cZ cY (h + 1) a b ((s_fa T a b nT).2.2) H9.size) (cwS 3 hts gX2_flip_X2_three rfl rfl rfl hd_X2_three ⟨Nat.le_of_ble_eq_true rfl, Nat.le_of_ble_eq_true rfl⟩) (Nat.succ_le_of_lt hO.lt) hK hS hA rfl hl.1 rfl (lv_room (Nat.le_of_ble_eq_true rfl)) dX2_flip_25 ⟨(by first | exact Nat.le_of_ble_eq_true rfl | omega | (dsimp only; omega)), (by first | exact Nat.le_of_ble_eq_true rfl | omega | (dsimp only; omega))⟩ (fun q17 H14 locs15 hf16 hE hS => ?_)
  have hf3 := hf3.ext0 hE
  have hf7 := hf7.ext0 hE
  have hC := hC.ext0 hE
  have hTt := hTt.ext0 hE
  have hSt := hSt.ext0 hE
  have hO := hO.ext0 hE
  refine sc_cVHv (hh := h) (As := [.ref q17]) (rest := []) F (c_X2_takeOut l dC dI cI cZ cY h nC C ((s_to nT T (s_three a b ((s_fa T a b nT).2.1))).1) ((s_to nT T (s_three a b ((s_fa T a b nT).2.1))).2) nS S fl q17 (s_three a b ((s_fa T a b nT).2.2)) (by omega) H14.size) (cwV 1 hts gX2_flip_X2_takeOut rfl rfl rfl hd_X2_takeOut ⟨Nat.le_of_ble_eq_true rfl, Nat.le_of_ble_eq_true rfl⟩) ⟨⟨qc13, qt13, qs13, hO, hC, hTt, hSt, hn1, hn2⟩, hf16⟩ hK hS hA hAh (sM.recv hK.1 ⟨qc13, qt13, qs13, hO, hC, hTt, hSt, hn1, hn2⟩) rfl hl.1 rfl (lv_room (Nat.le_of_ble_eq_true rfl)) dX2_flip_28 ⟨(by first | exact Nat.le_of_ble_eq_true rfl | omega | (dsimp only; omega)), (by first | exact Nat.le_of_ble_eq_true rfl | omega | (dsimp only; omega))⟩ (fun H18 locs19 hf20 hZ hS => ?_)
  have hf3 := hf3.extZ hZ
  have hf7 := hf7.extZ hZ
  have hf16 := hf16.extZ hZ
  obtain ⟨qc22, qt22, qs22, hO, hC, hTt, hSt, hn1, hn2⟩ := hf20
  refine lv_aload_n hx hb dX2_flip_31 rfl (lv_at hl 1 rfl) ?_
  refine lv_aload_n hx hb dX2_flip_32 rfl (lv_at hl 0 rfl) ?_
  refine lv_iconst (v := 0) hx hb dX2_flip_33 (by decide) ?_
  refine sx_iald hx hb hK.1 hf3 ix_0 (by omega) dX2_flip_34 ?_
  refine lv_cvi (y := (s_fa T a b nT).2.1) rfl ?_
  refine lv_aload_n hx hb dX2_flip_35 rfl (lv_at hl 0 rfl) ?_
  refine lv_iconst (v := 1) hx hb dX2_flip_36 (by decide) ?_
  refine sx_iald hx hb hK.1 hf3 ix_1 (by omega) dX2_flip_37 ?_
  refine lv_cvi (y := (s_fa T a b nT).2.2) rfl ?_
  refine lv_iload_n hx hb dX2_flip_38 rfl (lv_at hl 2 rfl) ?_
  refine sc_cVHv (hh := h) (As := [.int ((s_fa T a b nT).2.1), .int ((s_fa T a b nT).2.2), .int a]) (rest := []) F (c_X2_put l dC dI cI cZ cY h nC C ((s_to ((s_to nT T (s_three a b ((s_fa T a b nT).2.1))).1) ((s_to nT T (s_three a b ((s_fa T a b nT).2.1))).2) (s_three a b ((s_fa T a b nT).2.2))).1) ((s_to ((s_to nT T (s_three a b ((s_fa T a b nT).2.1))).1) ((s_to nT T (s_three a b ((s_fa T a b nT).2.1))).2) (s_three a b ((s_fa T a b nT).2.2))).2) nS S fl ((s_fa T a b nT).2.1) ((s_fa T a b nT).2.2) a (by omega) H18.size) (cwV 3 hts gX2_flip_X2_put rfl rfl rfl hd_X2_put ⟨Nat.le_of_ble_eq_true rfl, Nat.le_of_ble_eq_true rfl⟩) ⟨qc22, qt22, qs22, hO, hC, hTt, hSt, hn1, hn2⟩ hK hS hA hAh (sM.recv hK.1 ⟨qc22, qt22, qs22, hO, hC, hTt, hSt, hn1, hn2⟩) rfl hl.1 rfl (lv_room (Nat.le_of_ble_eq_true rfl)) dX2_flip_39 ⟨(by first | exact Nat.le_of_ble_eq_true rfl | omega | (dsimp only; omega)), (by first | exact Nat.le_of_ble_eq_true rfl | omega | (dsimp only; omega))⟩ (fun H23 locs24 hf25 hZ hS => ?_)
  have hf3 := hf3.extZ hZ
  have hf7 := hf7.extZ hZ
  have hf16 := hf16.extZ hZ
  obtain ⟨qc27, qt27, qs27, hO, hC, hTt, hSt, hn1, hn2⟩ := hf25
  refine lv_aload_n hx hb dX2_flip_42 rfl (lv_at hl 1 rfl) ?_
  refine lv_aload_n hx hb dX2_flip_43 rfl (lv_at hl 0 rfl) ?_
  refine lv_iconst (v := 0) hx hb dX2_flip_44 (by decide) ?_
  refine sx_iald hx hb hK.1 hf3 ix_0 (by omega) dX2_flip_45 ?_
  refine lv_cvi (y := (s_fa T a b nT).2.1) rfl ?_
  refine lv_aload_n hx hb dX2_flip_46 rfl (lv_at hl 0 rfl) ?_
  refine lv_iconst (v := 1) hx hb dX2_flip_47 (by decide) ?_
  refine sx_iald hx hb hK.1 hf3 ix_1 (by omega) dX2_flip_48 ?_
  refine lv_cvi (y := (s_fa T a b nT).2.2) rfl ?_
  refine lv_iload_n hx hb dX2_flip_49 rfl (lv_at hl 3 rfl) ?_
  refine sc_cVHv (hh := h) (As := [.int ((s_fa T a b nT).2.1), .int ((s_fa T a b nT).2.2), .int b]) (rest := []) F (c_X2_put l dC dI cI cZ cY h nC C (((s_to ((s_to nT T (s_three a b ((s_fa T a b nT).2.1))).1) ((s_to nT T (s_three a b ((s_fa T a b nT).2.1))).2) (s_three a b ((s_fa T a b nT).2.2))).1) + 1) (s_put ((s_to ((s_to nT T (s_three a b ((s_fa T a b nT).2.1))).1) ((s_to nT T (s_three a b ((s_fa T a b nT).2.1))).2) (s_three a b ((s_fa T a b nT).2.2))).1) ((s_to ((s_to nT T (s_three a b ((s_fa T a b nT).2.1))).1) ((s_to nT T (s_three a b ((s_fa T a b nT).2.1))).2) (s_three a b ((s_fa T a b nT).2.2))).2) (s_three ((s_fa T a b nT).2.1) ((s_fa T a b nT).2.2) a)) nS S fl ((s_fa T a b nT).2.1) ((s_fa T a b nT).2.2) b (by omega) H23.size) (cwV 3 hts gX2_flip_X2_put rfl rfl rfl hd_X2_put ⟨Nat.le_of_ble_eq_true rfl, Nat.le_of_ble_eq_true rfl⟩) ⟨qc27, qt27, qs27, hO, hC, hTt, hSt, hn1, hn2⟩ hK hS hA hAh (sM.recv hK.1 ⟨qc27, qt27, qs27, hO, hC, hTt, hSt, hn1, hn2⟩) rfl hl.1 rfl (lv_room (Nat.le_of_ble_eq_true rfl)) dX2_flip_50 ⟨(by first | exact Nat.le_of_ble_eq_true rfl | omega | (dsimp only; omega)), (by first | exact Nat.le_of_ble_eq_true rfl | omega | (dsimp only; omega))⟩ (fun H28 locs29 hf30 hZ hS => ?_)
  have hf3 := hf3.extZ hZ
  have hf7 := hf7.extZ hZ
  have hf16 := hf16.extZ hZ
  obtain ⟨qc32, qt32, qs32, hO, hC, hTt, hSt, hn1, hn2⟩ := hf30
  refine lv_aload_n hx hb dX2_flip_53 rfl (lv_at hl 1 rfl) ?_
  refine lv_dup hx hb dX2_flip_54 rfl ?_
  refine va_get (D := (dC, dI)) (ci := 2) (v := .int fl) (C := RX2) (T := TX2) (N := 4) hx hb hts in_X2_flip_X2 hown hK.1 (va_P.one hO) 0 rfl rfl 3 (by decide) (hts (.fieldLink RX2 22 "MoorTrianglesLaw$Sim" "flips" "I") fl_X2_flip_22) (fun _ h9 => h9) rfl dX2_flip_55 ?_
  refine lv_iconst (v := 1) hx hb dX2_flip_58 (by decide) ?_
  refine lv_iadd hx hb dX2_flip_59 ?_
  refine sx_put (k := 3) (v := .int (fl + 1)) (ty := .int) hx hb hts in_X2_flip_X2 hown hK.1 hO hS hAh (hts (.fieldLink RX2 22 "MoorTrianglesLaw$Sim" "flips" "I") fl_X2_flip_22) (by decide) rfl rfl (by rfl) (by rfl) rfl rfl dX2_flip_60 (fun H33 locs34 hO hZ hS => ?_)
  have hO : sO (dC, dI) H33 h qc32 qt32 qs32 (fl + 1) := hO
  have hf3 := hf3.extZ hZ
  have hf7 := hf7.extZ hZ
  have hf16 := hf16.extZ hZ
  have hC := hC.extZ hZ
  have hTt := hTt.extZ hZ
  have hSt := hSt.extZ hZ
  refine lv_bipush (v := 16) hx hb dX2_flip_63 (by decide) ?_
  refine lv_aload_n hx hb dX2_flip_65 rfl (lv_at hl 0 rfl) ?_
  refine lv_iconst (v := 0) hx hb dX2_flip_66 (by decide) ?_
  refine sx_iald hx hb hK.1 hf3 ix_0 (by omega) dX2_flip_67 ?_
  refine lv_cvi (y := (s_fa T a b nT).2.1) rfl ?_
  refine lv_aload_n hx hb dX2_flip_68 rfl (lv_at hl 0 rfl) ?_
  refine lv_iconst (v := 1) hx hb dX2_flip_69 (by decide) ?_
  refine sx_iald hx hb hK.1 hf3 ix_1 (by omega) dX2_flip_70 ?_
  refine lv_cvi (y := (s_fa T a b nT).2.2) rfl ?_
  refine va_mmin hx hb (hml.trans hl.1.symm) hown (hts _ ma0_X2_flip_min) (hts _ ma1_X2_flip_min) (hts _ ma2_X2_flip_min) (hts _ ma3_X2_flip_min) (Nat.le_of_ble_eq_true rfl) (Nat.le_of_ble_eq_true rfl) (by first | exact Nat.le_of_ble_eq_true rfl | omega | (dsimp only; omega)) (by first | exact Nat.le_of_ble_eq_true rfl | omega | (dsimp only; omega)) dX2_flip_71 ?_
  show W _ _ _ _ _ _ _ _ _ _ _ _ _ _ _ (F0 _ _ _ (.int (min32 ((s_fa T a b nT).2.1) ((s_fa T a b nT).2.2)) :: _))
  refine lv_imul hx hb dX2_flip_74 ?_
  refine lv_aload_n hx hb dX2_flip_75 rfl (lv_at hl 0 rfl) ?_
  refine lv_iconst (v := 0) hx hb dX2_flip_76 (by decide) ?_
  refine sx_iald hx hb hK.1 hf3 ix_0 (by omega) dX2_flip_77 ?_
  refine lv_cvi (y := (s_fa T a b nT).2.1) rfl ?_
  refine lv_aload_n hx hb dX2_flip_78 rfl (lv_at hl 0 rfl) ?_
  refine lv_iconst (v := 1) hx hb dX2_flip_79 (by decide) ?_
  refine sx_iald hx hb hK.1 hf3 ix_1 (by omega) dX2_flip_80 ?_
  refine lv_cvi (y := (s_fa T a b nT).2.2) rfl ?_
  refine va_mmax hx hb (hml.trans hl.1.symm) hown (hts _ ma0_X2_flip_max) (hts _ ma1_X2_flip_max) (hts _ ma2_X2_flip_max) (hts _ ma3_X2_flip_max) (Nat.le_of_ble_eq_true rfl) (Nat.le_of_ble_eq_true rfl) (by first | exact Nat.le_of_ble_eq_true rfl | omega | (dsimp only; omega)) (by first | exact Nat.le_of_ble_eq_true rfl | omega | (dsimp only; omega)) dX2_flip_81 ?_
  show W _ _ _ _ _ _ _ _ _ _ _ _ _ _ _ (F0 _ _ _ (.int (max32 ((s_fa T a b nT).2.1) ((s_fa T a b nT).2.2)) :: _))
  refine lv_iadd hx hb dX2_flip_84 ?_
  exact sa_iret (Pf := sM (dC, dI) cI cY h nC C (s_flip nT T a b).1 (s_flip nT T a b).2 nS S (fl + 1)) hx hb hr hlocks (by rfl) (⟨qc32, qt32, qs32, hO, hC, hTt, hSt, hn1, hn2⟩) hS (by first | exact Nat.le_of_ble_eq_true rfl | omega | (dsimp only; omega)) (by first | exact Nat.le_of_ble_eq_true rfl | omega | (dsimp only; omega)) dX2_flip_85
theorem in_X2_unfair_X2 : ∀ w ∈ wsX20, w ∈ wsX2_unfair := by decide +kernel
theorem fl_X2_unfair_9 : (Cond.fieldLink RX2 9 "MoorTrianglesLaw$Sim" "cairns" "[[I") ∈ wsX2_unfair := by decide +kernel
theorem hd_X2_unfair : yX2_unfair.cls = RX2 ∧ yX2_unfair.cls ≠ "java/lang/invoke/MethodHandle" ∧ yX2_unfair.cls ≠ "java/lang/invoke/VarHandle" ∧ (parseMethodDescriptor yX2_unfair.desc).map (fun d => d.parameters.length) = some 0 := by decide +kernel
set_option maxHeartbeats 4000000 in
set_option maxRecDepth 100000 in
theorem c_X2_unfair (l : Launch) (dC : Nat → ClassId) (dI : Nat → Nat → Nat) (cI cZ cY : ClassId) (h : Nat) (nC : Nat) (C : Nat → Nat → Int32) (nT : Nat) (T : Nat → Nat → Int32) (nS : Nat) (S : Nat → Nat → Int32) (fl : Int32) (hnC : nC ≤ 1000) (hnT : nT ≤ 1000) (hF : s_okF nC nT T) (sz : Nat) : Met l yX2_unfair wsX2_unfair ({ frames := 5, cells := s_cO nT T nC, slots := 2 * s_cO nT T nC, locals := 111 }) (va_Pc [.ref h] (sPz (dC, dI) cI cZ cY (sM (dC, dI) cI cY h nC C nT T nS S fl) sz)) (sQi (nI (s_uN C nT T nC)) (fun _ => True) (aN sz)) (s_cO nT T nC) (2 * s_cO nT T nC) (aN sz) := by
  refine sa_start (cc := cX2_unfair) (maxL := 4) (ret := (some .int)) (Q0 := sQi (nI (s_uN C nT T nC)) (fun _ => True)) aN aN_ok RX2 (by decide) rfl rfl (Nat.le_of_ble_eq_true rfl) ?_
  intro p e s m below meth c ⟨hx, hb, hr, hml, hown, hts, hlocks, hini⟩ hM0 hK A hAe hA hS ls hl
  have F : CallFix p m c cX2_unfair 4 s ([.ref h] : List Value).toArray wsX2_unfair RX2 := ⟨hx, hb, hml, hown, hts⟩
  have hl : lv_has ls 4 [(0, .ref h)] := hl
  obtain ⟨qc, qt, qs, hO, hC, hTt, hSt, hn1, hn2⟩ := hM0
  refine lv_iconst (v := 0) hx hb dX2_unfair_0 (by decide) ?_
  refine lv_istore_n (lv' := [(1, .int 0), (0, .ref h)]) hx hb dX2_unfair_1 rfl hl (by decide) rfl (fun ls hl => ?_)
  refine lv_iconst (v := 0) hx hb dX2_unfair_2 (by decide) ?_
  refine lv_istore_n (lv' := [(2, .int 0), (1, .int 0), (0, .ref h)]) hx hb dX2_unfair_3 rfl hl (by decide) rfl (fun ls hl => ?_)
  have hL4_1 : ∀ (k2 : Nat) (i : Nat), (nC - i) < k2 → (i ≤ nC) → ∀ (H5 : Heap) (locs6 : List Loc), hy 0 s.heap H5 → va_S A s.heap H5 locs6 → ∀ ls : Array Slot, lv_has ls 4 [(2, .int (nI i)), (1, .int (nI (s_uN C nT T i))), (0, .ref h)] → W p l e ({ frames := 5, cells := s_cO nT T nC, slots := 2 * s_cO nT T nC, locals := 111 } : Room) s m ([.ref h] : List Value).toArray below meth c H5 locs6 (s_cO nT T i) (2 * s_cO nT T i) (MQ below (sQi (nI (s_uN C nT T nC)) (fun _ => True) A) ([.ref h] : List Value).toArray s (s_cO nT T nC) (2 * s_cO nT T nC) A) (F0 m 4 ls []) := by
    intro k2
    induction k2 with
    | zero => intro i hk; exact absurd hk (Nat.not_lt_zero _)
    | succ k2 ih3 =>
      intro i hk_4 hi_i H5 locs6 hB4 hS  ls hl
      have hC := hC.ext0 hB4
      have hTt := hTt.ext0 hB4
      have hSt := hSt.ext0 hB4
      have hO := hO.ext0 hB4
      refine lv_iload_n hx hb dX2_unfair_4 rfl (lv_at hl 0 rfl) ?_
      refine lv_aload_n hx hb dX2_unfair_5 rfl (lv_at hl 2 rfl) ?_
      refine va_get (D := (dC, dI)) (ci := 2) (v := .ref qc) (C := RX2) (T := TX2) (N := 4) hx hb hts in_X2_unfair_X2 hown hK.1 (va_P.one hO) 0 rfl rfl 0 (by decide) (hts (.fieldLink RX2 9 "MoorTrianglesLaw$Sim" "cairns" "[[I") fl_X2_unfair_9) (fun _ h9 => h9) rfl dX2_unfair_6 ?_
      refine sx_alenT hx hb hK.1 hC dX2_unfair_9 ?_
      refine lv_icmp_ge (tgt := 49) hx hb dX2_unfair_10 (by decide) (fun c_7 => ?_) (fun c_7 => ?_)
      · have hge_i : nC ≤ i := nI_le_le (by omega) (by omega) c_7
        have heq_i : i = nC := by omega
        have hl : lv_has ls 4 [(2, .int (nI nC)), (1, .int (nI (s_uN C nT T nC))), (0, .ref h)] := by rw [heq_i] at hl; exact hl
        refine lv_iload_n hx hb dX2_unfair_49 rfl (lv_at hl 1 rfl) ?_
        exact sa_iret (Pf := fun _ => True) hx hb hr hlocks (by rfl) trivial hS (Nat.le_of_eq (by rw [heq_i])) (Nat.le_of_eq (by rw [heq_i])) dX2_unfair_50
      · have hlt_i : i < nC := nI_nle_lt (by omega) (by omega) c_7
        refine lv_iconst (v := 0) hx hb dX2_unfair_13 (by decide) ?_
        refine lv_istore_n (lv' := [(3, .int 0), (2, .int (nI i)), (1, .int (nI (s_uN C nT T i))), (0, .ref h)]) hx hb dX2_unfair_14 rfl hl (by decide) rfl (fun ls hl => ?_)
        have hL15_8 : ∀ (k9 : Nat) (j : Nat), (i - j) < k9 → (j ≤ i) → ∀ (H12 : Heap) (locs13 : List Loc), hy 0 H5 H12 → va_S A s.heap H12 locs13 → ∀ ls : Array Slot, lv_has ls 4 [(3, .int (nI j)), (1, .int (nI (s_uN C nT T i + rg_ct (s_uP C nT T i) j))), (2, .int (nI i)), (0, .ref h)] → W p l e ({ frames := 5, cells := s_cO nT T nC, slots := 2 * s_cO nT T nC, locals := 111 } : Room) s m ([.ref h] : List Value).toArray below meth c H12 locs13 (s_cO nT T i + s_cI nT T i j) (2 * (s_cO nT T i + s_cI nT T i j)) (MQ below (sQi (nI (s_uN C nT T nC)) (fun _ => True) A) ([.ref h] : List Value).toArray s (s_cO nT T nC) (2 * s_cO nT T nC) A) (F0 m 15 ls []) := by
          intro k9
          induction k9 with
          | zero => intro j hk; exact absurd hk (Nat.not_lt_zero _)
          | succ k9 ih10 =>
            intro j hk_15 hi_j H12 locs13 hB11 hS  ls hl
            have hB4 := hB4.tr hB11
            have hC := hC.ext0 hB11
            have hTt := hTt.ext0 hB11
            have hSt := hSt.ext0 hB11
            have hO := hO.ext0 hB11
            refine lv_iload_n hx hb dX2_unfair_15 rfl (lv_at hl 0 rfl) ?_
            refine lv_iload_n hx hb dX2_unfair_16 rfl (lv_at hl 2 rfl) ?_
            refine lv_icmp_ge (tgt := 43) hx hb dX2_unfair_17 (by decide) (fun c_14 => ?_) (fun c_14 => ?_)
            · have hge_j : i ≤ j := nI_le_le (by omega) (by omega) c_14
              have heq_j : j = i := by omega
              have hl : lv_has ls 4 [(3, .int (nI i)), (1, .int (nI (s_uN C nT T i + rg_ct (s_uP C nT T i) i))), (2, .int (nI i)), (0, .ref h)] := by rw [heq_j] at hl; exact hl
              refine lv_iinc (v := nI (i + 1)) (lv' := [(2, .int (nI (i + 1))), (3, .int (nI i)), (1, .int (nI (s_uN C nT T i + rg_ct (s_uP C nT T i) i))), (0, .ref h)]) hx hb dX2_unfair_43 hl (k := 2) rfl (nI_1 _) (by decide) rfl (fun ls hl => ?_)
              refine lv_goto (tgt := 4) hx hb dX2_unfair_46 (by decide) ?_
              have hl := lv_sub (l' := [(2, .int (nI (i + 1))), (1, .int (nI (s_uN C nT T i + rg_ct (s_uP C nT T i) i))), (0, .ref h)]) hl [0, 2, 3] rfl
              have hl : lv_has ls 4 [(2, .int (nI (i + 1))), (1, .int (nI (s_uN C nT T (i + 1)))), (0, .ref h)] := by
                have e9 : [(2, .int (nI (i + 1))), (1, .int (nI (s_uN C nT T i + rg_ct (s_uP C nT T i) i))), (0, .ref h)] = ([(2, .int (nI (i + 1))), (1, .int (nI (s_uN C nT T (i + 1)))), (0, .ref h)] : List (Nat × Value)) := by rfl
                rw [← e9]; exact hl
              refine W.widen (show (s_cO nT T i + s_cI nT T i j) ≤ s_cO nT T (i + 1) from (by rw [heq_j, s_cO_s]; exact Nat.le_refl _)) (show (2 * (s_cO nT T i + s_cI nT T i j)) ≤ 2 * s_cO nT T (i + 1) from (by rw [heq_j, s_cO_s]; exact Nat.le_refl _)) ?_
              exact ih3 (i + 1) (by omega) (by omega) _ _ hB4 hS  _ hl
            · have hlt_j : j < i := nI_nle_lt (by omega) (by omega) c_14
              have hcm := s_cO_lt (T := T) (nT := nT) hlt_i hlt_j
              refine lv_iload_n hx hb dX2_unfair_20 rfl (lv_at hl 1 rfl) ?_
              refine lv_aload_n hx hb dX2_unfair_21 rfl (lv_at hl 3 rfl) ?_
              refine lv_iload_n hx hb dX2_unfair_22 rfl (lv_at hl 2 rfl) ?_
              refine lv_iload_n hx hb dX2_unfair_23 rfl (lv_at hl 0 rfl) ?_
              refine sc_cVNi (As := [.int (nI i), .int (nI j)]) (rest := [.int (nI (s_uN C nT T i + rg_ct (s_uP C nT T i) j))]) F (c_X2_isUnfair l dC dI cI cZ cY h nC C nT T nS S fl (nI i) (nI j) hnT hF (vp_in_nI hlt_i (by omega)) (vp_in_nI (by omega) (by omega)) H12.size) (cwV 2 hts gX2_unfair_X2_isUnfair rfl rfl rfl hd_X2_isUnfair ⟨Nat.le_of_ble_eq_true rfl, Nat.le_of_ble_eq_true rfl⟩) ⟨qc, qt, qs, hO, hC, hTt, hSt, hn1, hn2⟩ hK hS hA (sM.recv hK.1 ⟨qc, qt, qs, hO, hC, hTt, hSt, hn1, hn2⟩) rfl hl.1 rfl (lv_room (Nat.le_of_ble_eq_true rfl)) dX2_unfair_24 ⟨(by first | exact Nat.le_of_ble_eq_true rfl | omega | (dsimp only; omega)), (by first | exact Nat.le_of_ble_eq_true rfl | omega | (dsimp only; omega))⟩ (fun H15 locs16 hf17 hE hS => ?_)
              have hC := hC.ext0 hE
              have hTt := hTt.ext0 hE
              have hSt := hSt.ext0 hE
              have hB4 := hB4.tr hE
              have hB11 := hB11.tr hE
              have hO := hO.ext0 hE
              refine lv_if_eqB (tgt := 34) hx hb dX2_unfair_27 (by decide) (fun c_19 => ?_) (fun c_19 => ?_)
              · refine lv_iconst (v := 0) hx hb dX2_unfair_34 (by decide) ?_
                refine lv_iadd hx hb dX2_unfair_35 ?_
                refine lv_istore_n (lv' := [(1, .int ((nI (s_uN C nT T i + rg_ct (s_uP C nT T i) j)) + 0)), (3, .int (nI j)), (2, .int (nI i)), (0, .ref h)]) hx hb dX2_unfair_36 rfl hl (by decide) rfl (fun ls hl => ?_)
                refine lv_iinc (v := nI (j + 1)) (lv' := [(3, .int (nI (j + 1))), (1, .int ((nI (s_uN C nT T i + rg_ct (s_uP C nT T i) j)) + 0)), (2, .int (nI i)), (0, .ref h)]) hx hb dX2_unfair_37 hl (k := 1) rfl (nI_1 _) (by decide) rfl (fun ls hl => ?_)
                refine lv_goto (tgt := 15) hx hb dX2_unfair_40 (by decide) ?_
                have hl := lv_sub (l' := [(3, .int (nI (j + 1))), (1, .int ((nI (s_uN C nT T i + rg_ct (s_uP C nT T i) j)) + 0)), (2, .int (nI i)), (0, .ref h)]) hl [0, 1, 2, 3] rfl
                have hl : lv_has ls 4 [(3, .int (nI (j + 1))), (1, .int (nI (s_uN C nT T i + rg_ct (s_uP C nT T i) (j + 1)))), (2, .int (nI i)), (0, .ref h)] := by
                  have e9 : [(3, .int (nI (j + 1))), (1, .int ((nI (s_uN C nT T i + rg_ct (s_uP C nT T i) j)) + 0)), (2, .int (nI i)), (0, .ref h)] = ([(3, .int (nI (j + 1))), (1, .int (nI (s_uN C nT T i + rg_ct (s_uP C nT T i) (j + 1)))), (2, .int (nI i)), (0, .ref h)] : List (Nat × Value)) := by rw [rg_ct_f (p := s_uP C nT T i) (show s_uP C nT T i j = false from c_19), Int32.add_zero]; try rfl
                  rw [← e9]; exact hl
                refine W.widen (show ((s_cO nT T i + s_cI nT T i j) + (1 + 2 * s_ct T (nI i) (nI j) nT)) ≤ s_cO nT T i + s_cI nT T i (j + 1) from (by rw [s_cI_s]; omega)) (show ((2 * (s_cO nT T i + s_cI nT T i j)) + (4 * s_ct T (nI i) (nI j) nT)) ≤ 2 * (s_cO nT T i + s_cI nT T i (j + 1)) from (by rw [s_cI_s]; omega)) ?_
                exact ih10 (j + 1) (by omega) (by omega) _ _ hB11 hS  _ hl
              · refine lv_iconst (v := 1) hx hb dX2_unfair_30 (by decide) ?_
                refine lv_goto (tgt := 35) hx hb dX2_unfair_31 (by decide) ?_
                refine lv_iadd hx hb dX2_unfair_35 ?_
                refine lv_istore_n (lv' := [(1, .int ((nI (s_uN C nT T i + rg_ct (s_uP C nT T i) j)) + 1)), (3, .int (nI j)), (2, .int (nI i)), (0, .ref h)]) hx hb dX2_unfair_36 rfl hl (by decide) rfl (fun ls hl => ?_)
                refine lv_iinc (v := nI (j + 1)) (lv' := [(3, .int (nI (j + 1))), (1, .int ((nI (s_uN C nT T i + rg_ct (s_uP C nT T i) j)) + 1)), (2, .int (nI i)), (0, .ref h)]) hx hb dX2_unfair_37 hl (k := 1) rfl (nI_1 _) (by decide) rfl (fun ls hl => ?_)
                refine lv_goto (tgt := 15) hx hb dX2_unfair_40 (by decide) ?_
                have hl := lv_sub (l' := [(3, .int (nI (j + 1))), (1, .int ((nI (s_uN C nT T i + rg_ct (s_uP C nT T i) j)) + 1)), (2, .int (nI i)), (0, .ref h)]) hl [0, 1, 2, 3] rfl
                have hl : lv_has ls 4 [(3, .int (nI (j + 1))), (1, .int (nI (s_uN C nT T i + rg_ct (s_uP C nT T i) (j + 1)))), (2, .int (nI i)), (0, .ref h)] := by
                  have e9 : [(3, .int (nI (j + 1))), (1, .int ((nI (s_uN C nT T i + rg_ct (s_uP C nT T i) j)) + 1)), (2, .int (nI i)), (0, .ref h)] = ([(3, .int (nI (j + 1))), (1, .int (nI (s_uN C nT T i + rg_ct (s_uP C nT T i) (j + 1)))), (2, .int (nI i)), (0, .ref h)] : List (Nat × Value)) := by rw [rg_ct_t (p := s_uP C nT T i) (show s_uP C nT T i j = true from c_19), nI_1]; try rfl
                  rw [← e9]; exact hl
                refine W.widen (show ((s_cO nT T i + s_cI nT T i j) + (1 + 2 * s_ct T (nI i) (nI j) nT)) ≤ s_cO nT T i + s_cI nT T i (j + 1) from (by rw [s_cI_s]; omega)) (show ((2 * (s_cO nT T i + s_cI nT T i j)) + (4 * s_ct T (nI i) (nI j) nT)) ≤ 2 * (s_cO nT T i + s_cI nT T i (j + 1)) from (by rw [s_cI_s]; omega)) ?_
                exact ih10 (j + 1) (by omega) (by omega) _ _ hB11 hS  _ hl
        have hl := lv_sub (l' := [(3, .int 0), (1, .int (nI (s_uN C nT T i))), (2, .int (nI i)), (0, .ref h)]) hl [0, 2, 1, 3] rfl
        have hl : lv_has ls 4 [(3, .int (nI 0)), (1, .int (nI (s_uN C nT T i + rg_ct (s_uP C nT T i) 0))), (2, .int (nI i)), (0, .ref h)] := by
          have e9 : [(3, .int 0), (1, .int (nI (s_uN C nT T i))), (2, .int (nI i)), (0, .ref h)] = ([(3, .int (nI 0)), (1, .int (nI (s_uN C nT T i + rg_ct (s_uP C nT T i) 0))), (2, .int (nI i)), (0, .ref h)] : List (Nat × Value)) := by rfl
          rw [← e9]; exact hl
        refine W.widen (show (s_cO nT T i) ≤ s_cO nT T i + s_cI nT T i 0 from (Nat.le_refl _)) (show (2 * s_cO nT T i) ≤ 2 * (s_cO nT T i + s_cI nT T i 0) from (Nat.le_refl _)) ?_
        exact hL15_8 _ 0 (Nat.lt_succ_self _) (by omega) _ _ hy.rf hS  _ hl
  have hl := lv_sub (l' := [(2, .int 0), (1, .int 0), (0, .ref h)]) hl [0, 1, 2] rfl
  have hl : lv_has ls 4 [(2, .int (nI 0)), (1, .int (nI (s_uN C nT T 0))), (0, .ref h)] := by
    have e9 : [(2, .int 0), (1, .int 0), (0, .ref h)] = ([(2, .int (nI 0)), (1, .int (nI (s_uN C nT T 0))), (0, .ref h)] : List (Nat × Value)) := by rfl
    rw [← e9]; exact hl
  refine W.widen (show 0 ≤ s_cO nT T 0 from (Nat.le_refl _)) (show 0 ≤ 2 * s_cO nT T 0 from (Nat.le_refl _)) ?_
  exact hL4_1 _ 0 (Nat.lt_succ_self _) (by omega) _ _ hy.rf hS  _ hl
