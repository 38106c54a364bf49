/-! the law's own moor: building, by program (gens.py) -/
theorem in_X2_build_X2 : ∀ w ∈ wsX20, w ∈ wsX2_build := by decide +kernel
theorem fl_X2_build_9 : (Cond.fieldLink RX2 9 "MoorTrianglesLaw$Sim" "cairns" "[[I") ∈ wsX2_build := by decide +kernel
theorem na_X2_build : (Cond.arrayClass .int) ∈ wsX2_build := by decide +kernel
theorem fl_X2_build_15 : (Cond.fieldLink RX2 15 "MoorTrianglesLaw$Sim" "triangles" "[[I") ∈ wsX2_build := by decide +kernel
theorem fl_X2_build_18 : (Cond.fieldLink RX2 18 "MoorTrianglesLaw$Sim" "stays" "[[I") ∈ wsX2_build := by decide +kernel
theorem hd_X2_build : yX2_build.cls = RX2 ∧ yX2_build.cls ≠ "java/lang/invoke/MethodHandle" ∧ yX2_build.cls ≠ "java/lang/invoke/VarHandle" ∧ (parseMethodDescriptor yX2_build.desc).map (fun d => d.parameters.length) = some 3 := by decide +kernel
set_option maxHeartbeats 4000000 in
set_option maxRecDepth 100000 in
theorem c_X2_build (l : Launch) (dC : Nat → ClassId) (dI : Nat → Nat → Nat) (cI cZ cY : ClassId) (h : Nat) (nC : Nat) (C : Nat → Nat → Int32) (nT : Nat) (T : Nat → Nat → Int32) (nS : Nat) (S : Nat → Nat → Int32) (fl : Int32) (x : Int32) (y : Int32) (z : Int32) (V1 : Nat) (hnC : nC ≤ 900) (hnT : nT ≤ 900) (hV1 : V1 ≤ 900) (hV : ∀ i k : Nat, i ≤ nT → k ≤ 3 → (s_bK (T i) (s_side (s_more C nC (s3 x y z)) (T i) x y) (nI nC) (s_b1 (T i) (s_bO (s_more C nC (s3 x y z)) x y (nI nC) T (nT, T, nS, S) i)) k).1 ≤ V1 ∧ (s_bK (T i) (s_side (s_more C nC (s3 x y z)) (T i) x y) (nI nC) (s_b1 (T i) (s_bO (s_more C nC (s3 x y z)) x y (nI nC) T (nT, T, nS, S) i)) k).2.2.1 ≤ V1 ∧ (s_bO (s_more C nC (s3 x y z)) x y (nI nC) T (nT, T, nS, S) i).1 ≤ V1) (hok : ∀ i : Nat, i < nT → ∀ j : Nat, j < 3 → vp_in (T i j) (nC + 1)) (sz : Nat) : Met l yX2_build wsX2_build ({ frames := 5, cells := 2 + 17 * nT, slots := (nC + 4) + (11 * V1 + 70) * nT, locals := 113 }) (va_Pc [.ref h, .int x, .int y, .int z] (sPz (dC, dI) cI cZ cY (sM (dC, dI) cI cY h nC C nT T nS S fl) sz)) (sQv (sM (dC, dI) cI cY h (nC + 1) (s_more C nC (s3 x y z)) (s_bO (s_more C nC (s3 x y z)) x y (nI nC) T (nT, T, nS, S) nT).1 (s_bO (s_more C nC (s3 x y z)) x y (nI nC) T (nT, T, nS, S) nT).2.1 (s_bO (s_more C nC (s3 x y z)) x y (nI nC) T (nT, T, nS, S) nT).2.2.1 (s_bO (s_more C nC (s3 x y z)) x y (nI nC) T (nT, T, nS, S) nT).2.2.2 fl) ((aH h) sz)) (2 + 17 * nT) ((nC + 4) + (11 * V1 + 70) * nT) ((aH h) sz) := by
  refine sa_start (cc := cX2_build) (maxL := 15) (ret := none) (Q0 := sQv (sM (dC, dI) cI cY h (nC + 1) (s_more C nC (s3 x y z)) (s_bO (s_more C nC (s3 x y z)) x y (nI nC) T (nT, T, nS, S) nT).1 (s_bO (s_more C nC (s3 x y z)) x y (nI nC) T (nT, T, nS, S) nT).2.1 (s_bO (s_more C nC (s3 x y z)) x y (nI nC) T (nT, T, nS, S) nT).2.2.1 (s_bO (s_more C nC (s3 x y z)) x y (nI nC) T (nT, T, nS, S) nT).2.2.2 fl)) (aH h) (aH_ok h) RX2 (by decide) rfl rfl (Nat.le_of_ble_eq_true rfl) ?_
  intro p e s m below meth c ⟨hx, hb, hr, hml, hown, hts, hlocks, hini⟩ hM0 hK A hAe hA hS ls hl
  have hAh : A h := by rw [hAe]; exact Or.inl rfl
  have F : CallFix p m c cX2_build 15 s ([.ref h, .int x, .int y, .int z] : List Value).toArray wsX2_build RX2 := ⟨hx, hb, hml, hown, hts⟩
  have hl : lv_has ls 15 [(0, .ref h), (1, .int x), (2, .int y), (3, .int z)] := hl
  obtain ⟨qc, qt, qs, hO, hC, hTt, hSt, hn1, hn2⟩ := hM0
  refine lv_aload_n hx hb dX2_build_0 rfl (lv_at hl 0 rfl) ?_
  refine va_get (D := (dC, dI)) (ci := 2) (v := .ref qc) (C := RX2) (T := TX2) (N := 4) hx hb hts in_X2_build_X2 hown hK.1 (va_P.one hO) 0 rfl rfl 0 (by decide) (hts (.fieldLink RX2 9 "MoorTrianglesLaw$Sim" "cairns" "[[I") fl_X2_build_9) (fun _ h9 => h9) rfl dX2_build_1 ?_
  refine sx_alenT hx hb hK.1 hC dX2_build_4 ?_
  refine lv_istore (lv' := [(4, .int (nI nC)), (0, .ref h), (1, .int x), (2, .int y), (3, .int z)]) hx hb dX2_build_5 hl (by decide) rfl (fun ls hl => ?_)
  refine lv_aload_n hx hb dX2_build_7 rfl (lv_at hl 1 rfl) ?_
  refine lv_aload_n hx hb dX2_build_8 rfl (lv_at hl 1 rfl) ?_
  refine va_get (D := (dC, dI)) (ci := 2) (v := .ref qc) (C := RX2) (T := TX2) (N := 4) hx hb hts in_X2_build_X2 hown hK.1 (va_P.one hO) 0 rfl rfl 0 (by decide) (hts (.fieldLink RX2 9 "MoorTrianglesLaw$Sim" "cairns" "[[I") fl_X2_build_9) (fun _ h9 => h9) rfl dX2_build_9 ?_
  refine lv_iconst (v := 3) hx hb dX2_build_12 (by decide) ?_
  have hz04 := hS.1
  refine sx_newi (N := 3) hx hb (hts _ na_X2_build) hK.1 hS (Nat.succ_le_of_lt hO.lt) ix_3 (Nat.le_of_ble_eq_true rfl) (by first | exact Nat.le_of_ble_eq_true rfl | omega | (dsimp only; omega)) (by first | exact Nat.le_of_ble_eq_true rfl | omega | (dsimp only; omega)) dX2_build_13 (fun q1 H2 hq3 hE hN hS => ?_)
  refine lv_dup hx hb dX2_build_15 rfl ?_
  refine lv_iconst (v := 0) hx hb dX2_build_16 (by decide) ?_
  refine lv_iload_n hx hb dX2_build_17 rfl (lv_at hl 2 rfl) ?_
  refine sx_iast hx hb hK.1 hS hN (hA q1 (by rw [hq3]; exact hz04)) ix_0 (by decide) dX2_build_18 (fun H5 locs6 hN hz_ ho_ hS => ?_)
  have hE := hE.wr (Nat.le_of_eq hq3.symm) hz_ ho_
  refine lv_dup hx hb dX2_build_19 rfl ?_
  refine lv_iconst (v := 1) hx hb dX2_build_20 (by decide) ?_
  refine lv_iload_n hx hb dX2_build_21 rfl (lv_at hl 3 rfl) ?_
  refine sx_iast hx hb hK.1 hS hN (hA q1 (by rw [hq3]; exact hz04)) ix_1 (by decide) dX2_build_22 (fun H7 locs8 hN hz_ ho_ hS => ?_)
  have hE := hE.wr (Nat.le_of_eq hq3.symm) hz_ ho_
  refine lv_dup hx hb dX2_build_23 rfl ?_
  refine lv_iconst (v := 2) hx hb dX2_build_24 (by decide) ?_
  refine lv_iload_n hx hb dX2_build_25 rfl (lv_at hl 4 rfl) ?_
  refine sx_iast hx hb hK.1 hS hN (hA q1 (by rw [hq3]; exact hz04)) ix_2 (by decide) dX2_build_26 (fun H9 locs10 hN hz_ ho_ hS => ?_)
  have hE := hE.wr (Nat.le_of_eq hq3.symm) hz_ ho_
  have hC := hC.ext0 hE
  have hTt := hTt.ext0 hE
  have hSt := hSt.ext0 hE
  have hO := hO.ext0 hE
  have hr11 : hI cI _ H9 q1 3 (s3 x y z) := hN.cg s3_upd
  have lt9 := hC.lt
  have lt7 := hTt.lt
  have lt8 := hSt.lt
  refine sc_cSNr (As := [.ref qc, .ref q1]) (rest := [.ref h]) F (c_X2_more l dC dI cI cZ cY (h + 1) qc q1 nC 3 C (s3 x y z) (by omega) H9.size) (cwS 2 hts gX2_build_X2_more rfl rfl rfl hd_X2_more ⟨Nat.le_of_ble_eq_true rfl, Nat.le_of_ble_eq_true rfl⟩) ⟨hC, hr11, (Nat.succ_le_of_lt hO.lt)⟩ hK hS hA rfl hl.1 rfl (lv_room (Nat.le_of_ble_eq_true rfl)) dX2_build_27 ⟨(by first | exact Nat.le_of_ble_eq_true rfl | omega | (dsimp only; omega)), (by first | exact Nat.le_of_ble_eq_true rfl | omega | (dsimp only; omega))⟩ (fun q15 H12 locs13 hf14 hE hS => ?_)
  have hC := hC.ext0 hE
  have hTt := hTt.ext0 hE
  have hSt := hSt.ext0 hE
  have hr11 := hr11.ext0 hE
  have hO := hO.ext0 hE
  have hf14T := hf14.T
  refine sx_put (k := 0) (v := .ref q15) (ty := .array (.array .int)) hx hb hts in_X2_build_X2 hown hK.1 hO hS hAh (hts (.fieldLink RX2 9 "MoorTrianglesLaw$Sim" "cairns" "[[I") fl_X2_build_9) (by decide) rfl rfl (by rfl) (by rfl) rfl rfl dX2_build_30 (fun H16 locs17 hO hZ hS => ?_)
  have hO : sO (dC, dI) H16 h q15 qt qs fl := hO
  have hC := hC.extZ hZ
  have hTt := hTt.extZ hZ
  have hSt := hSt.extZ hZ
  have hr11 := hr11.extZ hZ
  have hf14T := hf14T.extZ hZ
  have hn1 : q15 ≠ qt := fun e => by have := hf14.1; omega
  have hn2 : q15 ≠ qs := fun e => by have := hf14.1; omega
  refine lv_aload_n hx hb dX2_build_33 rfl (lv_at hl 1 rfl) ?_
  refine va_get (D := (dC, dI)) (ci := 2) (v := .ref qt) (C := RX2) (T := TX2) (N := 4) hx hb hts in_X2_build_X2 hown hK.1 (va_P.one hO) 0 rfl rfl 1 (by decide) (hts (.fieldLink RX2 15 "MoorTrianglesLaw$Sim" "triangles" "[[I") fl_X2_build_15) (fun _ h9 => h9) rfl dX2_build_34 ?_
  refine lv_astore (lv' := [(5, .ref qt), (4, .int (nI nC)), (0, .ref h), (1, .int x), (2, .int y), (3, .int z)]) hx hb dX2_build_37 hl (by decide) rfl (fun ls hl => ?_)
  refine lv_aload hx hb dX2_build_39 (lv_at hl 0 rfl) ?_
  refine lv_astore (lv' := [(6, .ref qt), (5, .ref qt), (4, .int (nI nC)), (0, .ref h), (1, .int x), (2, .int y), (3, .int z)]) hx hb dX2_build_41 hl (by decide) rfl (fun ls hl => ?_)
  refine lv_aload hx hb dX2_build_43 (lv_at hl 0 rfl) ?_
  refine sx_alenT hx hb hK.1 hTt dX2_build_45 ?_
  refine lv_istore (lv' := [(7, .int (nI nT)), (6, .ref qt), (5, .ref qt), (4, .int (nI nC)), (0, .ref h), (1, .int x), (2, .int y), (3, .int z)]) hx hb dX2_build_46 hl (by decide) rfl (fun ls hl => ?_)
  refine lv_iconst (v := 0) hx hb dX2_build_48 (by decide) ?_
  refine lv_istore (lv' := [(8, .int 0), (7, .int (nI nT)), (6, .ref qt), (5, .ref qt), (4, .int (nI nC)), (0, .ref h), (1, .int x), (2, .int y), (3, .int z)]) hx hb dX2_build_49 hl (by decide) rfl (fun ls hl => ?_)
  have hOld := hTt
  have hL51_18 : ∀ (k19 : Nat) (i : Nat) (qc1 : Nat) (qt1 : Nat) (qs1 : Nat), (nT - i) < k19 → (i ≤ nT) → ∀ (H22 : Heap) (locs23 : List Loc), hz h H16 H22 → va_S A s.heap H22 locs23 → sX (dC, dI) cI cY H22 h qc1 qt1 qs1 (nC + 1) (s_more C nC (s3 x y z)) (s_bO (s_more C nC (s3 x y z)) x y (nI nC) T (nT, T, nS, S) i).1 (s_bO (s_more C nC (s3 x y z)) x y (nI nC) T (nT, T, nS, S) i).2.1 (s_bO (s_more C nC (s3 x y z)) x y (nI nC) T (nT, T, nS, S) i).2.2.1 (s_bO (s_more C nC (s3 x y z)) x y (nI nC) T (nT, T, nS, S) i).2.2.2 fl → ∀ ls : Array Slot, lv_has ls 15 [(8, .int (nI i)), (7, .int (nI nT)), (6, .ref qt), (5, .ref qt), (4, .int (nI nC)), (0, .ref h), (1, .int x), (2, .int y), (3, .int z)] → W p l e ({ frames := 5, cells := 2 + 17 * nT, slots := (nC + 4) + (11 * V1 + 70) * nT, locals := 113 } : Room) s m ([.ref h, .int x, .int y, .int z] : List Value).toArray below meth c H22 locs23 (2 + 17 * i) ((nC + 4) + (11 * V1 + 70) * i) (MQ below (sQv (sM (dC, dI) cI cY h (nC + 1) (s_more C nC (s3 x y z)) (s_bO (s_more C nC (s3 x y z)) x y (nI nC) T (nT, T, nS, S) nT).1 (s_bO (s_more C nC (s3 x y z)) x y (nI nC) T (nT, T, nS, S) nT).2.1 (s_bO (s_more C nC (s3 x y z)) x y (nI nC) T (nT, T, nS, S) nT).2.2.1 (s_bO (s_more C nC (s3 x y z)) x y (nI nC) T (nT, T, nS, S) nT).2.2.2 fl) A) ([.ref h, .int x, .int y, .int z] : List Value).toArray s (2 + 17 * nT) ((nC + 4) + (11 * V1 + 70) * nT) A) (F0 m 51 ls []) := by
    intro k19
    induction k19 with
    | zero => intro i qc1 qt1 qs1 hk; exact absurd hk (Nat.not_lt_zero _)
    | succ k19 ih20 =>
      intro i qc1 qt1 qs1 hk_51 hi_i H22 locs23 hB21 hS hX9  ls hl
      have hr11 := hr11.extZ hB21
      have hOld := hOld.extZ hB21
      obtain ⟨hO, hC, hTt, hSt, hn1, hn2⟩ := hX9
      have hm := Nat.mul_le_mul_left (11 * V1 + 70) hi_i
      have hm1 : (11 * V1 + 70) * (i + 1) = (11 * V1 + 70) * i + (11 * V1 + 70) := Nat.mul_succ _ _
      refine lv_iload hx hb dX2_build_51 (lv_at hl 0 rfl) ?_
      refine lv_iload hx hb dX2_build_53 (lv_at hl 1 rfl) ?_
      refine lv_icmp_ge (tgt := 282) hx hb dX2_build_55 (by decide) (fun c_24 => ?_) (fun c_24 => ?_)
      · have hge_i : nT ≤ i := nI_le_le (by omega) (by omega) c_24
        have heq_i : i = nT := by omega
        have hl : lv_has ls 15 [(8, .int (nI nT)), (7, .int (nI nT)), (6, .ref qt), (5, .ref qt), (4, .int (nI nC)), (0, .ref h), (1, .int x), (2, .int y), (3, .int z)] := by rw [heq_i] at hl; exact hl
        exact sa_vret (Pf := sM (dC, dI) cI cY h (nC + 1) (s_more C nC (s3 x y z)) (s_bO (s_more C nC (s3 x y z)) x y (nI nC) T (nT, T, nS, S) nT).1 (s_bO (s_more C nC (s3 x y z)) x y (nI nC) T (nT, T, nS, S) nT).2.1 (s_bO (s_more C nC (s3 x y z)) x y (nI nC) T (nT, T, nS, S) nT).2.2.1 (s_bO (s_more C nC (s3 x y z)) x y (nI nC) T (nT, T, nS, S) nT).2.2.2 fl) hx hb hr hlocks (by subst heq_i; exact ⟨qc1, qt1, qs1, hO, hC, hTt, hSt, hn1, hn2⟩) hS (by first | exact Nat.le_of_ble_eq_true rfl | omega | (dsimp only; omega)) (by first | exact Nat.le_of_ble_eq_true rfl | omega | (dsimp only; omega)) dX2_build_282
      · have hlt_i : i < nT := nI_nle_lt (by omega) (by omega) c_24
        have hv0 := hV i 0 (by omega) (Nat.zero_le _)
        have hm2 : (11 * V1 + 70) * (i + 1) ≤ (11 * V1 + 70) * nT := Nat.mul_le_mul_left _ hlt_i
        refine lv_aload hx hb dX2_build_58 (lv_at hl 2 rfl) ?_
        refine lv_iload hx hb dX2_build_60 (lv_at hl 0 rfl) ?_
        refine sx_aald hx hb hK.1 hOld (ix_nI (by omega)) hlt_i dX2_build_62 (fun xq25 hr26 => ?_)
        refine lv_astore (lv' := [(9, .ref xq25), (8, .int (nI i)), (7, .int (nI nT)), (6, .ref qt), (5, .ref qt), (4, .int (nI nC)), (0, .ref h), (1, .int x), (2, .int y), (3, .int z)]) hx hb dX2_build_63 hl (by decide) rfl (fun ls hl => ?_)
        refine lv_aload_n hx hb dX2_build_65 rfl (lv_at hl 6 rfl) ?_
        refine lv_aload hx hb dX2_build_66 (lv_at hl 0 rfl) ?_
        refine lv_iload_n hx hb dX2_build_68 rfl (lv_at hl 7 rfl) ?_
        refine lv_iload_n hx hb dX2_build_69 rfl (lv_at hl 8 rfl) ?_
        refine sc_cVNi (As := [.ref xq25, .int x, .int y]) (rest := []) F (c_X2_side l dC dI cI cZ cY h (nC + 1) (s_more C nC (s3 x y z)) ((s_bO (s_more C nC (s3 x y z)) x y (nI nC) T (nT, T, nS, S) i).1) ((s_bO (s_more C nC (s3 x y z)) x y (nI nC) T (nT, T, nS, S) i).2.1) ((s_bO (s_more C nC (s3 x y z)) x y (nI nC) T (nT, T, nS, S) i).2.2.1) ((s_bO (s_more C nC (s3 x y z)) x y (nI nC) T (nT, T, nS, S) i).2.2.2) fl xq25 (T i) x y (hok i hlt_i) H22.size) (cwV 3 hts gX2_build_X2_side rfl rfl rfl hd_X2_side ⟨Nat.le_of_ble_eq_true rfl, Nat.le_of_ble_eq_true rfl⟩) ⟨⟨qc1, qt1, qs1, hO, hC, hTt, hSt, hn1, hn2⟩, hr26⟩ hK hS hA (sM.recv hK.1 ⟨qc1, qt1, qs1, hO, hC, hTt, hSt, hn1, hn2⟩) rfl hl.1 rfl (lv_room (Nat.le_of_ble_eq_true rfl)) dX2_build_70 ⟨(by first | exact Nat.le_of_ble_eq_true rfl | omega | (dsimp only; omega)), (by first | exact Nat.le_of_ble_eq_true rfl | omega | (dsimp only; omega))⟩ (fun H27 locs28 hf29 hE hS => ?_)
        have hr11 := hr11.ext0 hE
        have hOld := hOld.ext0 hE
        have hC := hC.ext0 hE
        have hTt := hTt.ext0 hE
        have hSt := hSt.ext0 hE
        have hr26 := hr26.ext0 hE
        have hB21 := hB21.tr (hE.z h)
        have hO := hO.ext0 hE
        refine lv_istore (lv' := [(10, .int (s_side (s_more C nC (s3 x y z)) (T i) x y)), (9, .ref xq25), (8, .int (nI i)), (7, .int (nI nT)), (6, .ref qt), (5, .ref qt), (4, .int (nI nC)), (0, .ref h), (1, .int x), (2, .int y), (3, .int z)]) hx hb dX2_build_73 hl (by decide) rfl (fun ls hl => ?_)
        refine lv_iload hx hb dX2_build_75 (lv_at hl 0 rfl) ?_
        refine lv_if_ge (tgt := 83) hx hb dX2_build_77 (by decide) (fun c_31 => ?_) (fun c_31 => ?_)
        · refine lv_aload_n hx hb dX2_build_83 rfl (lv_at hl 7 rfl) ?_
          refine lv_aload hx hb dX2_build_84 (lv_at hl 1 rfl) ?_
          refine sc_cVHv (hh := h) (As := [.ref xq25]) (rest := []) F (c_X2_takeOut l dC dI cI cZ cY h (nC + 1) (s_more C nC (s3 x y z)) ((s_bO (s_more C nC (s3 x y z)) x y (nI nC) T (nT, T, nS, S) i).1) ((s_bO (s_more C nC (s3 x y z)) x y (nI nC) T (nT, T, nS, S) i).2.1) ((s_bO (s_more C nC (s3 x y z)) x y (nI nC) T (nT, T, nS, S) i).2.2.1) ((s_bO (s_more C nC (s3 x y z)) x y (nI nC) T (nT, T, nS, S) i).2.2.2) fl xq25 (T i) (by omega) H27.size) (cwV 1 hts gX2_build_X2_takeOut rfl rfl rfl hd_X2_takeOut ⟨Nat.le_of_ble_eq_true rfl, Nat.le_of_ble_eq_true rfl⟩) ⟨⟨qc1, qt1, qs1, hO, hC, hTt, hSt, hn1, hn2⟩, hr26⟩ hK hS hA hAh (sM.recv hK.1 ⟨qc1, qt1, qs1, hO, hC, hTt, hSt, hn1, hn2⟩) rfl hl.1 rfl (lv_room (Nat.le_of_ble_eq_true rfl)) dX2_build_86 ⟨(by first | exact Nat.le_of_ble_eq_true rfl | omega | (dsimp only; omega)), (by first | exact Nat.le_of_ble_eq_true rfl | omega | (dsimp only; omega))⟩ (fun H32 locs33 hf34 hZ hS => ?_)
          have hr11 := hr11.extZ hZ
          have hOld := hOld.extZ hZ
          have hr26 := hr26.extZ hZ
          have hB21 := hB21.tr hZ
          obtain ⟨qc36, qt36, qs36, hO, hC, hTt, hSt, hn1, hn2⟩ := hf34
          refine lv_iconst (v := 0) hx hb dX2_build_89 (by decide) ?_
          refine lv_istore (lv' := [(11, .int 0), (10, .int (s_side (s_more C nC (s3 x y z)) (T i) x y)), (9, .ref xq25), (8, .int (nI i)), (7, .int (nI nT)), (6, .ref qt), (5, .ref qt), (4, .int (nI nC)), (0, .ref h), (1, .int x), (2, .int y), (3, .int z)]) hx hb dX2_build_90 hl (by decide) rfl (fun ls hl => ?_)
          have hL92_37 : ∀ (k38 : Nat) (k : Nat) (qc1 : Nat) (qt1 : Nat) (qs1 : Nat), (3 - k) < k38 → (k ≤ 3) → ∀ (H41 : Heap) (locs42 : List Loc), hz h H32 H41 → va_S A s.heap H41 locs42 → sX (dC, dI) cI cY H41 h qc1 qt1 qs1 (nC + 1) (s_more C nC (s3 x y z)) (s_bK (T i) (s_side (s_more C nC (s3 x y z)) (T i) x y) (nI nC) (s_b1 (T i) (s_bO (s_more C nC (s3 x y z)) x y (nI nC) T (nT, T, nS, S) i)) k).1 (s_bK (T i) (s_side (s_more C nC (s3 x y z)) (T i) x y) (nI nC) (s_b1 (T i) (s_bO (s_more C nC (s3 x y z)) x y (nI nC) T (nT, T, nS, S) i)) k).2.1 (s_bK (T i) (s_side (s_more C nC (s3 x y z)) (T i) x y) (nI nC) (s_b1 (T i) (s_bO (s_more C nC (s3 x y z)) x y (nI nC) T (nT, T, nS, S) i)) k).2.2.1 (s_bK (T i) (s_side (s_more C nC (s3 x y z)) (T i) x y) (nI nC) (s_b1 (T i) (s_bO (s_more C nC (s3 x y z)) x y (nI nC) T (nT, T, nS, S) i)) k).2.2.2 fl → ∀ ls : Array Slot, lv_has ls 15 [(11, .int (nI k)), (10, .int (s_side (s_more C nC (s3 x y z)) (T i) x y)), (9, .ref xq25), (8, .int (nI i)), (7, .int (nI nT)), (6, .ref qt), (5, .ref qt), (4, .int (nI nC)), (0, .ref h), (1, .int x), (2, .int y), (3, .int z)] → W p l e ({ frames := 5, cells := 2 + 17 * nT, slots := (nC + 4) + (11 * V1 + 70) * nT, locals := 113 } : Room) s m ([.ref h, .int x, .int y, .int z] : List Value).toArray below meth c H41 locs42 (2 + 17 * i + 2 + 5 * k) ((nC + 4) + (11 * V1 + 70) * i + (2 * V1 + 10) + (3 * V1 + 20) * k) (MQ below (sQv (sM (dC, dI) cI cY h (nC + 1) (s_more C nC (s3 x y z)) (s_bO (s_more C nC (s3 x y z)) x y (nI nC) T (nT, T, nS, S) nT).1 (s_bO (s_more C nC (s3 x y z)) x y (nI nC) T (nT, T, nS, S) nT).2.1 (s_bO (s_more C nC (s3 x y z)) x y (nI nC) T (nT, T, nS, S) nT).2.2.1 (s_bO (s_more C nC (s3 x y z)) x y (nI nC) T (nT, T, nS, S) nT).2.2.2 fl) A) ([.ref h, .int x, .int y, .int z] : List Value).toArray s (2 + 17 * nT) ((nC + 4) + (11 * V1 + 70) * nT) A) (F0 m 92 ls []) := by
            intro k38
            induction k38 with
            | zero => intro k qc1 qt1 qs1 hk; exact absurd hk (Nat.not_lt_zero _)
            | succ k38 ih39 =>
              intro k qc1 qt1 qs1 hk_92 hi_k H41 locs42 hB40 hS hX9  ls hl
              have hB21 := hB21.tr hB40
              have hr11 := hr11.extZ hB40
              have hOld := hOld.extZ hB40
              have hr26 := hr26.extZ hB40
              obtain ⟨hO, hC, hTt, hSt, hn1, hn2⟩ := hX9
              have hkv := hV i k (by omega) hi_k
              have hk3 : (3 * V1 + 20) * (k + 1) = (3 * V1 + 20) * k + (3 * V1 + 20) := Nat.mul_succ _ _
              have hk4 : (3 * V1 + 20) * k ≤ (3 * V1 + 20) * 3 := Nat.mul_le_mul_left _ hi_k
              refine lv_iload hx hb dX2_build_92 (lv_at hl 0 rfl) ?_
              refine lv_iconst (v := 3) hx hb dX2_build_94 (by decide) ?_
              refine lv_icmp_ge (tgt := 276) hx hb dX2_build_95 (by decide) (fun c_43 => ?_) (fun c_43 => ?_)
              · have hge_k : 3 ≤ k := nI_le_le (by omega) (by omega) c_43
                have heq_k : k = 3 := by omega
                have hl : lv_has ls 15 [(11, .int (nI 3)), (10, .int (s_side (s_more C nC (s3 x y z)) (T i) x y)), (9, .ref xq25), (8, .int (nI i)), (7, .int (nI nT)), (6, .ref qt), (5, .ref qt), (4, .int (nI nC)), (0, .ref h), (1, .int x), (2, .int y), (3, .int z)] := by rw [heq_k] at hl; exact hl
                refine lv_iinc (v := nI (i + 1)) (lv' := [(8, .int (nI (i + 1))), (11, .int (nI 3)), (10, .int (s_side (s_more C nC (s3 x y z)) (T i) x y)), (9, .ref xq25), (7, .int (nI nT)), (6, .ref qt), (5, .ref qt), (4, .int (nI nC)), (0, .ref h), (1, .int x), (2, .int y), (3, .int z)]) hx hb dX2_build_276 hl (k := 3) rfl (nI_1 _) (by decide) rfl (fun ls hl => ?_)
                refine lv_goto (tgt := 51) hx hb dX2_build_279 (by decide) ?_
                have hl := lv_sub (l' := [(8, .int (nI (i + 1))), (7, .int (nI nT)), (6, .ref qt), (5, .ref qt), (4, .int (nI nC)), (0, .ref h), (1, .int x), (2, .int y), (3, .int z)]) hl [0, 4, 5, 6, 7, 8, 9, 10, 11] rfl
                have hl : lv_has ls 15 [(8, .int (nI (i + 1))), (7, .int (nI nT)), (6, .ref qt), (5, .ref qt), (4, .int (nI nC)), (0, .ref h), (1, .int x), (2, .int y), (3, .int z)] := by
                  have e9 : [(8, .int (nI (i + 1))), (7, .int (nI nT)), (6, .ref qt), (5, .ref qt), (4, .int (nI nC)), (0, .ref h), (1, .int x), (2, .int y), (3, .int z)] = ([(8, .int (nI (i + 1))), (7, .int (nI nT)), (6, .ref qt), (5, .ref qt), (4, .int (nI nC)), (0, .ref h), (1, .int x), (2, .int y), (3, .int z)] : List (Nat × Value)) := by rfl
                  rw [← e9]; exact hl
                refine W.widen (show (2 + 17 * i + 2 + 5 * k) ≤ 2 + 17 * (i + 1) from (by omega)) (show ((nC + 4) + (11 * V1 + 70) * i + (2 * V1 + 10) + (3 * V1 + 20) * k) ≤ (nC + 4) + (11 * V1 + 70) * (i + 1) from (by omega)) ?_
                exact ih20 (i + 1) qc1 qt1 qs1 (by omega) (by omega) _ _ hB21 hS (by subst heq_k; rw [s_bO, if_pos c_31]; exact ⟨hO, hC, hTt, hSt, hn1, hn2⟩)  _ hl
              · have hlt_k : k < 3 := nI_nle_lt (by omega) (by omega) c_43
                have hk5 : (3 * V1 + 20) * (k + 1) ≤ (3 * V1 + 20) * 3 := Nat.mul_le_mul_left _ hlt_k
                refine lv_aload hx hb dX2_build_98 (lv_at hl 2 rfl) ?_
                refine lv_iload hx hb dX2_build_100 (lv_at hl 0 rfl) ?_
                refine sx_iald hx hb hK.1 hr26 (ix_nI (by omega)) hlt_k dX2_build_102 ?_
                refine lv_istore (lv' := [(12, .int ((T i) k)), (11, .int (nI k)), (10, .int (s_side (s_more C nC (s3 x y z)) (T i) x y)), (9, .ref xq25), (8, .int (nI i)), (7, .int (nI nT)), (6, .ref qt), (5, .ref qt), (4, .int (nI nC)), (0, .ref h), (1, .int x), (2, .int y), (3, .int z)]) hx hb dX2_build_103 hl (by decide) rfl (fun ls hl => ?_)
                refine lv_aload hx hb dX2_build_105 (lv_at hl 3 rfl) ?_
                refine lv_iload hx hb dX2_build_107 (lv_at hl 1 rfl) ?_
                refine lv_iconst (v := 1) hx hb dX2_build_109 (by decide) ?_
                refine lv_iadd hx hb dX2_build_110 ?_
                refine lv_iconst (v := 3) hx hb dX2_build_111 (by decide) ?_
                refine lv_irem hx hb dX2_build_112 (by decide) ?_
                refine lv_cvi (y := nI ((k + 1) % 3)) (nI_mod3 (by omega)) ?_
                refine sx_iald hx hb hK.1 hr26 (ix_nI (by omega)) (by omega) dX2_build_113 ?_
                refine lv_istore (lv' := [(13, .int ((T i) ((k + 1) % 3))), (12, .int ((T i) k)), (11, .int (nI k)), (10, .int (s_side (s_more C nC (s3 x y z)) (T i) x y)), (9, .ref xq25), (8, .int (nI i)), (7, .int (nI nT)), (6, .ref qt), (5, .ref qt), (4, .int (nI nC)), (0, .ref h), (1, .int x), (2, .int y), (3, .int z)]) hx hb dX2_build_114 hl (by decide) rfl (fun ls hl => ?_)
                refine lv_iload hx hb dX2_build_116 (lv_at hl 2 rfl) ?_
                refine lv_iload hx hb dX2_build_118 (lv_at hl 3 rfl) ?_
                refine lv_icmp_eq (tgt := 136) hx hb dX2_build_120 (by decide) (fun c_44 => ?_) (fun c_44 => ?_)
                · refine lv_iconst (v := 0) hx hb dX2_build_136 (by decide) ?_
                  refine lv_istore (lv' := [(14, .int 0), (13, .int ((T i) ((k + 1) % 3))), (12, .int ((T i) k)), (11, .int (nI k)), (10, .int (s_side (s_more C nC (s3 x y z)) (T i) x y)), (9, .ref xq25), (8, .int (nI i)), (7, .int (nI nT)), (6, .ref qt), (5, .ref qt), (4, .int (nI nC)), (0, .ref h), (1, .int x), (2, .int y), (3, .int z)]) hx hb dX2_build_137 hl (by decide) rfl (fun ls hl => ?_)
                  have hL139 : ∀ (k_45 : Nat) (j : Nat), ((s_bK (T i) (s_side (s_more C nC (s3 x y z)) (T i) x y) (nI nC) (s_b1 (T i) (s_bO (s_more C nC (s3 x y z)) x y (nI nC) T (nT, T, nS, S) i)) k).2.2.1 - j) < k_45 → (j ≤ (s_bK (T i) (s_side (s_more C nC (s3 x y z)) (T i) x y) (nI nC) (s_b1 (T i) (s_bO (s_more C nC (s3 x y z)) x y (nI nC) T (nT, T, nS, S) i)) k).2.2.1) → (∀ q, q < j → s_pS (s_bK (T i) (s_side (s_more C nC (s3 x y z)) (T i) x y) (nI nC) (s_b1 (T i) (s_bO (s_more C nC (s3 x y z)) x y (nI nC) T (nT, T, nS, S) i)) k).2.2.2 (T i k) (T i ((k + 1) % 3)) q = false) → ∀ ls : Array Slot, lv_has ls 15 [(14, .int (nI j)), (13, .int ((T i) ((k + 1) % 3))), (12, .int ((T i) k)), (11, .int (nI k)), (10, .int (s_side (s_more C nC (s3 x y z)) (T i) x y)), (9, .ref xq25), (8, .int (nI i)), (7, .int (nI nT)), (6, .ref qt), (5, .ref qt), (4, .int (nI nC)), (0, .ref h), (1, .int x), (2, .int y), (3, .int z)] → W p l e ({ frames := 5, cells := 2 + 17 * nT, slots := (nC + 4) + (11 * V1 + 70) * nT, locals := 113 } : Room) s m ([.ref h, .int x, .int y, .int z] : List Value).toArray below meth c H41 locs42 (2 + 17 * i + 2 + 5 * k) ((nC + 4) + (11 * V1 + 70) * i + (2 * V1 + 10) + (3 * V1 + 20) * k) (MQ below (sQv (sM (dC, dI) cI cY h (nC + 1) (s_more C nC (s3 x y z)) (s_bO (s_more C nC (s3 x y z)) x y (nI nC) T (nT, T, nS, S) nT).1 (s_bO (s_more C nC (s3 x y z)) x y (nI nC) T (nT, T, nS, S) nT).2.1 (s_bO (s_more C nC (s3 x y z)) x y (nI nC) T (nT, T, nS, S) nT).2.2.1 (s_bO (s_more C nC (s3 x y z)) x y (nI nC) T (nT, T, nS, S) nT).2.2.2 fl) A) ([.ref h, .int x, .int y, .int z] : List Value).toArray s (2 + 17 * nT) ((nC + 4) + (11 * V1 + 70) * nT) A) (F0 m 139 ls []) := by
                    intro k_45
                    induction k_45 with
                    | zero => intro j hk; exact absurd hk (Nat.not_lt_zero _)
                    | succ k_45 ih_46 =>
                      intro j hk_139 hi_j hbj ls hl
                      refine lv_iload hx hb dX2_build_139 (lv_at hl 0 rfl) ?_
                      refine lv_aload_n hx hb dX2_build_141 rfl (lv_at hl 11 rfl) ?_
                      refine va_get (D := (dC, dI)) (ci := 2) (v := .ref qs1) (C := RX2) (T := TX2) (N := 4) hx hb hts in_X2_build_X2 hown hK.1 (va_P.one hO) 0 rfl rfl 2 (by decide) (hts (.fieldLink RX2 18 "MoorTrianglesLaw$Sim" "stays" "[[I") fl_X2_build_18) (fun _ h9 => h9) rfl dX2_build_142 ?_
                      refine sx_alenT hx hb hK.1 hSt dX2_build_145 ?_
                      refine lv_icmp_ge (tgt := 270) hx hb dX2_build_146 (by decide) (fun c_47 => ?_) (fun c_47 => ?_)
                      · have hge_j : (s_bK (T i) (s_side (s_more C nC (s3 x y z)) (T i) x y) (nI nC) (s_b1 (T i) (s_bO (s_more C nC (s3 x y z)) x y (nI nC) T (nT, T, nS, S) i)) k).2.2.1 ≤ j := nI_le_le (by omega) (by omega) c_47
                        have heq_j : j = (s_bK (T i) (s_side (s_more C nC (s3 x y z)) (T i) x y) (nI nC) (s_b1 (T i) (s_bO (s_more C nC (s3 x y z)) x y (nI nC) T (nT, T, nS, S) i)) k).2.2.1 := by omega
                        have hl : lv_has ls 15 [(14, .int (nI (s_bK (T i) (s_side (s_more C nC (s3 x y z)) (T i) x y) (nI nC) (s_b1 (T i) (s_bO (s_more C nC (s3 x y z)) x y (nI nC) T (nT, T, nS, S) i)) k).2.2.1)), (13, .int ((T i) ((k + 1) % 3))), (12, .int ((T i) k)), (11, .int (nI k)), (10, .int (s_side (s_more C nC (s3 x y z)) (T i) x y)), (9, .ref xq25), (8, .int (nI i)), (7, .int (nI nT)), (6, .ref qt), (5, .ref qt), (4, .int (nI nC)), (0, .ref h), (1, .int x), (2, .int y), (3, .int z)] := by rw [heq_j] at hl; exact hl
                        rw [heq_j] at hbj
                        refine lv_iinc (v := nI (k + 1)) (lv' := [(11, .int (nI (k + 1))), (14, .int (nI (s_bK (T i) (s_side (s_more C nC (s3 x y z)) (T i) x y) (nI nC) (s_b1 (T i) (s_bO (s_more C nC (s3 x y z)) x y (nI nC) T (nT, T, nS, S) i)) k).2.2.1)), (13, .int ((T i) ((k + 1) % 3))), (12, .int ((T i) k)), (10, .int (s_side (s_more C nC (s3 x y z)) (T i) x y)), (9, .ref xq25), (8, .int (nI i)), (7, .int (nI nT)), (6, .ref qt), (5, .ref qt), (4, .int (nI nC)), (0, .ref h), (1, .int x), (2, .int y), (3, .int z)]) hx hb dX2_build_270 hl (k := 3) rfl (nI_1 _) (by decide) rfl (fun ls hl => ?_)
                        refine lv_goto (tgt := 92) hx hb dX2_build_273 (by decide) ?_
                        have hl := lv_sub (l' := [(11, .int (nI (k + 1))), (10, .int (s_side (s_more C nC (s3 x y z)) (T i) x y)), (9, .ref xq25), (8, .int (nI i)), (7, .int (nI nT)), (6, .ref qt), (5, .ref qt), (4, .int (nI nC)), (0, .ref h), (1, .int x), (2, .int y), (3, .int z)]) hl [0, 4, 5, 6, 7, 8, 9, 10, 11, 12, 13, 14] rfl
                        have hl : lv_has ls 15 [(11, .int (nI (k + 1))), (10, .int (s_side (s_more C nC (s3 x y z)) (T i) x y)), (9, .ref xq25), (8, .int (nI i)), (7, .int (nI nT)), (6, .ref qt), (5, .ref qt), (4, .int (nI nC)), (0, .ref h), (1, .int x), (2, .int y), (3, .int z)] := by
                          have e9 : [(11, .int (nI (k + 1))), (10, .int (s_side (s_more C nC (s3 x y z)) (T i) x y)), (9, .ref xq25), (8, .int (nI i)), (7, .int (nI nT)), (6, .ref qt), (5, .ref qt), (4, .int (nI nC)), (0, .ref h), (1, .int x), (2, .int y), (3, .int z)] = ([(11, .int (nI (k + 1))), (10, .int (s_side (s_more C nC (s3 x y z)) (T i) x y)), (9, .ref xq25), (8, .int (nI i)), (7, .int (nI nT)), (6, .ref qt), (5, .ref qt), (4, .int (nI nC)), (0, .ref h), (1, .int x), (2, .int y), (3, .int z)] : List (Nat × Value)) := by rfl
                          rw [← e9]; exact hl
                        refine W.widen (show (2 + 17 * i + 2 + 5 * k) ≤ 2 + 17 * i + 2 + 5 * (k + 1) from (by omega)) (show ((nC + 4) + (11 * V1 + 70) * i + (2 * V1 + 10) + (3 * V1 + 20) * k) ≤ (nC + 4) + (11 * V1 + 70) * i + (2 * V1 + 10) + (3 * V1 + 20) * (k + 1) from (by omega)) ?_
                        exact ih39 (k + 1) qc1 qt1 qs1 (by omega) (by omega) _ _ hB40 hS (by rw [s_bK, if_pos c_44, s_cutS_none hbj]; exact ⟨hO, hC, hTt, hSt, hn1, hn2⟩)  _ hl
                      · have hlt_j : j < (s_bK (T i) (s_side (s_more C nC (s3 x y z)) (T i) x y) (nI nC) (s_b1 (T i) (s_bO (s_more C nC (s3 x y z)) x y (nI nC) T (nT, T, nS, S) i)) k).2.2.1 := nI_nle_lt (by omega) (by omega) c_47
                        refine lv_aload_n hx hb dX2_build_149 rfl (lv_at hl 11 rfl) ?_
                        refine va_get (D := (dC, dI)) (ci := 2) (v := .ref qs1) (C := RX2) (T := TX2) (N := 4) hx hb hts in_X2_build_X2 hown hK.1 (va_P.one hO) 0 rfl rfl 2 (by decide) (hts (.fieldLink RX2 18 "MoorTrianglesLaw$Sim" "stays" "[[I") fl_X2_build_18) (fun _ h9 => h9) rfl dX2_build_150 ?_
                        refine lv_iload hx hb dX2_build_153 (lv_at hl 0 rfl) ?_
                        refine sx_aald hx hb hK.1 hSt (ix_nI (by omega)) hlt_j dX2_build_155 (fun xq48 hr49 => ?_)
                        refine lv_iconst (v := 0) hx hb dX2_build_156 (by decide) ?_
                        refine sx_iald hx hb hK.1 hr49 ix_0 (by decide) dX2_build_157 ?_
                        refine lv_iload hx hb dX2_build_158 (lv_at hl 2 rfl) ?_
                        refine lv_icmp_ne (tgt := 177) hx hb dX2_build_160 (by decide) (fun c_50 => ?_) (fun c_50 => ?_)
                        · refine lv_aload_n hx hb dX2_build_177 rfl (lv_at hl 11 rfl) ?_
                          refine va_get (D := (dC, dI)) (ci := 2) (v := .ref qs1) (C := RX2) (T := TX2) (N := 4) hx hb hts in_X2_build_X2 hown hK.1 (va_P.one hO) 0 rfl rfl 2 (by decide) (hts (.fieldLink RX2 18 "MoorTrianglesLaw$Sim" "stays" "[[I") fl_X2_build_18) (fun _ h9 => h9) rfl dX2_build_178 ?_
                          refine lv_iload hx hb dX2_build_181 (lv_at hl 0 rfl) ?_
                          refine sx_aald hx hb hK.1 hSt (ix_nI (by omega)) hlt_j dX2_build_183 (fun xq51 hr52 => ?_)
                          refine lv_iconst (v := 0) hx hb dX2_build_184 (by decide) ?_
                          refine sx_iald hx hb hK.1 hr52 ix_0 (by decide) dX2_build_185 ?_
                          refine lv_iload hx hb dX2_build_186 (lv_at hl 1 rfl) ?_
                          refine lv_icmp_ne (tgt := 264) hx hb dX2_build_188 (by decide) (fun c_53 => ?_) (fun c_53 => ?_)
                          · refine lv_iinc (v := nI (j + 1)) (lv' := [(14, .int (nI (j + 1))), (13, .int ((T i) ((k + 1) % 3))), (12, .int ((T i) k)), (11, .int (nI k)), (10, .int (s_side (s_more C nC (s3 x y z)) (T i) x y)), (9, .ref xq25), (8, .int (nI i)), (7, .int (nI nT)), (6, .ref qt), (5, .ref qt), (4, .int (nI nC)), (0, .ref h), (1, .int x), (2, .int y), (3, .int z)]) hx hb dX2_build_264 hl (k := 0) rfl (nI_1 _) (by decide) rfl (fun ls hl => ?_)
                            refine lv_goto (tgt := 139) hx hb dX2_build_267 (by decide) ?_
                            have hl := lv_sub (l' := [(14, .int (nI (j + 1))), (13, .int ((T i) ((k + 1) % 3))), (12, .int ((T i) k)), (11, .int (nI k)), (10, .int (s_side (s_more C nC (s3 x y z)) (T i) x y)), (9, .ref xq25), (8, .int (nI i)), (7, .int (nI nT)), (6, .ref qt), (5, .ref qt), (4, .int (nI nC)), (0, .ref h), (1, .int x), (2, .int y), (3, .int z)]) hl [0, 1, 2, 3, 4, 5, 6, 7, 8, 9, 10, 11, 12, 13, 14] rfl
                            have hl : lv_has ls 15 [(14, .int (nI (j + 1))), (13, .int ((T i) ((k + 1) % 3))), (12, .int ((T i) k)), (11, .int (nI k)), (10, .int (s_side (s_more C nC (s3 x y z)) (T i) x y)), (9, .ref xq25), (8, .int (nI i)), (7, .int (nI nT)), (6, .ref qt), (5, .ref qt), (4, .int (nI nC)), (0, .ref h), (1, .int x), (2, .int y), (3, .int z)] := by
                              have e9 : [(14, .int (nI (j + 1))), (13, .int ((T i) ((k + 1) % 3))), (12, .int ((T i) k)), (11, .int (nI k)), (10, .int (s_side (s_more C nC (s3 x y z)) (T i) x y)), (9, .ref xq25), (8, .int (nI i)), (7, .int (nI nT)), (6, .ref qt), (5, .ref qt), (4, .int (nI nC)), (0, .ref h), (1, .int x), (2, .int y), (3, .int z)] = ([(14, .int (nI (j + 1))), (13, .int ((T i) ((k + 1) % 3))), (12, .int ((T i) k)), (11, .int (nI k)), (10, .int (s_side (s_more C nC (s3 x y z)) (T i) x y)), (9, .ref xq25), (8, .int (nI i)), (7, .int (nI nT)), (6, .ref qt), (5, .ref qt), (4, .int (nI nC)), (0, .ref h), (1, .int x), (2, .int y), (3, .int z)] : List (Nat × Value)) := by rfl
                              rw [← e9]; exact hl
                            exact ih_46 (j + 1) (by omega) (by omega) (rg_bef hbj (show s_pS (s_bK (T i) (s_side (s_more C nC (s3 x y z)) (T i) x y) (nI nC) (s_b1 (T i) (s_bO (s_more C nC (s3 x y z)) x y (nI nC) T (nT, T, nS, S) i)) k).2.2.2 (T i k) (T i ((k + 1) % 3)) j = false from by rw [s_pS, s_pr, if_neg c_50, if_neg c_53])) _ hl
                          · refine lv_aload_n hx hb dX2_build_191 rfl (lv_at hl 11 rfl) ?_
                            refine va_get (D := (dC, dI)) (ci := 2) (v := .ref qs1) (C := RX2) (T := TX2) (N := 4) hx hb hts in_X2_build_X2 hown hK.1 (va_P.one hO) 0 rfl rfl 2 (by decide) (hts (.fieldLink RX2 18 "MoorTrianglesLaw$Sim" "stays" "[[I") fl_X2_build_18) (fun _ h9 => h9) rfl dX2_build_192 ?_
                            refine lv_iload hx hb dX2_build_195 (lv_at hl 0 rfl) ?_
                            refine sx_aald hx hb hK.1 hSt (ix_nI (by omega)) hlt_j dX2_build_197 (fun xq54 hr55 => ?_)
                            refine lv_iconst (v := 1) hx hb dX2_build_198 (by decide) ?_
                            refine sx_iald hx hb hK.1 hr55 ix_1 (by decide) dX2_build_199 ?_
                            refine lv_iload hx hb dX2_build_200 (lv_at hl 2 rfl) ?_
                            refine lv_icmp_eq (tgt := 208) hx hb dX2_build_202 (by decide) (fun c_56 => ?_) (fun c_56 => ?_)
                            · refine lv_aload_n hx hb dX2_build_208 rfl (lv_at hl 11 rfl) ?_
                              refine lv_aload_n hx hb dX2_build_209 rfl (lv_at hl 11 rfl) ?_
                              refine va_get (D := (dC, dI)) (ci := 2) (v := .ref qs1) (C := RX2) (T := TX2) (N := 4) hx hb hts in_X2_build_X2 hown hK.1 (va_P.one hO) 0 rfl rfl 2 (by decide) (hts (.fieldLink RX2 18 "MoorTrianglesLaw$Sim" "stays" "[[I") fl_X2_build_18) (fun _ h9 => h9) rfl dX2_build_210 ?_
                              refine lv_iload hx hb dX2_build_213 (lv_at hl 0 rfl) ?_
                              have lt9 := hC.lt
                              have lt7 := hTt.lt
                              have lt8 := hSt.lt
                              refine sc_cSNr (As := [.ref qs1, .int (nI j)]) (rest := [.ref h]) F (c_X2_less l dC dI cI cZ cY (h + 1) qs1 j ((s_bK (T i) (s_side (s_more C nC (s3 x y z)) (T i) x y) (nI nC) (s_b1 (T i) (s_bO (s_more C nC (s3 x y z)) x y (nI nC) T (nT, T, nS, S) i)) k).2.2.1) 2 ((s_bK (T i) (s_side (s_more C nC (s3 x y z)) (T i) x y) (nI nC) (s_b1 (T i) (s_bO (s_more C nC (s3 x y z)) x y (nI nC) T (nT, T, nS, S) i)) k).2.2.2) (by omega) hlt_j H41.size) (cwS 2 hts gX2_build_X2_less rfl rfl rfl hd_X2_less ⟨Nat.le_of_ble_eq_true rfl, Nat.le_of_ble_eq_true rfl⟩) ⟨hSt, (Nat.succ_le_of_lt hO.lt)⟩ hK hS hA rfl hl.1 rfl (lv_room (Nat.le_of_ble_eq_true rfl)) dX2_build_215 ⟨(by first | exact Nat.le_of_ble_eq_true rfl | omega | (dsimp only; omega)), (by first | exact Nat.le_of_ble_eq_true rfl | omega | (dsimp only; omega))⟩ (fun q60 H57 locs58 hf59 hE hS => ?_)
                              have hr11 := hr11.ext0 hE
                              have hOld := hOld.ext0 hE
                              have hr26 := hr26.ext0 hE
                              have hC := hC.ext0 hE
                              have hTt := hTt.ext0 hE
                              have hSt := hSt.ext0 hE
                              have hr49 := hr49.ext0 hE
                              have hr52 := hr52.ext0 hE
                              have hr55 := hr55.ext0 hE
                              have hB21 := hB21.tr (hE.z h)
                              have hB40 := hB40.tr (hE.z h)
                              have hO := hO.ext0 hE
                              have hf59T := hf59.T
                              refine sx_put (k := 2) (v := .ref q60) (ty := .array (.array .int)) hx hb hts in_X2_build_X2 hown hK.1 hO hS hAh (hts (.fieldLink RX2 18 "MoorTrianglesLaw$Sim" "stays" "[[I") fl_X2_build_18) (by decide) rfl rfl (by rfl) (by rfl) rfl rfl dX2_build_218 (fun H61 locs62 hO hZ hS => ?_)
                              have hO : sO (dC, dI) H61 h qc1 qt1 q60 fl := hO
                              have hr11 := hr11.extZ hZ
                              have hOld := hOld.extZ hZ
                              have hr26 := hr26.extZ hZ
                              have hC := hC.extZ hZ
                              have hTt := hTt.extZ hZ
                              have hSt := hSt.extZ hZ
                              have hr49 := hr49.extZ hZ
                              have hr52 := hr52.extZ hZ
                              have hr55 := hr55.extZ hZ
                              have hf59T := hf59T.extZ hZ
                              have hB21 := hB21.tr hZ
                              have hB40 := hB40.tr hZ
                              have hn2 : qc1 ≠ q60 := fun e => by have := hf59.1; omega
                              refine lv_aload_n hx hb dX2_build_221 rfl (lv_at hl 11 rfl) ?_
                              refine lv_aload_n hx hb dX2_build_222 rfl (lv_at hl 11 rfl) ?_
                              refine va_get (D := (dC, dI)) (ci := 2) (v := .ref q60) (C := RX2) (T := TX2) (N := 4) hx hb hts in_X2_build_X2 hown hK.1 (va_P.one hO) 0 rfl rfl 2 (by decide) (hts (.fieldLink RX2 18 "MoorTrianglesLaw$Sim" "stays" "[[I") fl_X2_build_18) (fun _ h9 => h9) rfl dX2_build_223 ?_
                              refine lv_iconst (v := 2) hx hb dX2_build_226 (by decide) ?_
                              have hz066 := hS.1
                              refine sx_newi (N := 2) hx hb (hts _ na_X2_build) hK.1 hS (Nat.succ_le_of_lt hO.lt) ix_2 (Nat.le_of_ble_eq_true rfl) (by first | exact Nat.le_of_ble_eq_true rfl | omega | (dsimp only; omega)) (by first | exact Nat.le_of_ble_eq_true rfl | omega | (dsimp only; omega)) dX2_build_227 (fun q63 H64 hq65 hE hN hS => ?_)
                              refine lv_dup hx hb dX2_build_229 rfl ?_
                              refine lv_iconst (v := 0) hx hb dX2_build_230 (by decide) ?_
                              refine lv_iload hx hb dX2_build_231 (lv_at hl 2 rfl) ?_
                              refine sx_iast hx hb hK.1 hS hN (hA q63 (by rw [hq65]; exact hz066)) ix_0 (by decide) dX2_build_233 (fun H67 locs68 hN hz_ ho_ hS => ?_)
                              have hE := hE.wr (Nat.le_of_eq hq65.symm) hz_ ho_
                              refine lv_dup hx hb dX2_build_234 rfl ?_
                              refine lv_iconst (v := 1) hx hb dX2_build_235 (by decide) ?_
                              refine lv_iload hx hb dX2_build_236 (lv_at hl 10 rfl) ?_
                              refine sx_iast hx hb hK.1 hS hN (hA q63 (by rw [hq65]; exact hz066)) ix_1 (by decide) dX2_build_238 (fun H69 locs70 hN hz_ ho_ hS => ?_)
                              have hE := hE.wr (Nat.le_of_eq hq65.symm) hz_ ho_
                              have hr11 := hr11.ext0 hE
                              have hOld := hOld.ext0 hE
                              have hr26 := hr26.ext0 hE
                              have hC := hC.ext0 hE
                              have hTt := hTt.ext0 hE
                              have hSt := hSt.ext0 hE
                              have hr49 := hr49.ext0 hE
                              have hr52 := hr52.ext0 hE
                              have hr55 := hr55.ext0 hE
                              have hf59T := hf59T.ext0 hE
                              have hB21 := hB21.tr (hE.z h)
                              have hB40 := hB40.tr (hE.z h)
                              have hO := hO.ext0 hE
                              have hr71 : hI cI _ H69 q63 2 (s2 ((T i) k) (nI nC)) := hN.cg s2_upd
                              have lt9 := hC.lt
                              have lt7 := hTt.lt
                              have lt8 := hf59T.lt
                              refine sc_cSNr (As := [.ref q60, .ref q63]) (rest := [.ref h]) F (c_X2_more l dC dI cI cZ cY (h + 1) q60 q63 (((s_bK (T i) (s_side (s_more C nC (s3 x y z)) (T i) x y) (nI nC) (s_b1 (T i) (s_bO (s_more C nC (s3 x y z)) x y (nI nC) T (nT, T, nS, S) i)) k).2.2.1) - 1) 2 (s_less ((s_bK (T i) (s_side (s_more C nC (s3 x y z)) (T i) x y) (nI nC) (s_b1 (T i) (s_bO (s_more C nC (s3 x y z)) x y (nI nC) T (nT, T, nS, S) i)) k).2.2.2) j) (s2 ((T i) k) (nI nC)) (by omega) H69.size) (cwS 2 hts gX2_build_X2_more rfl rfl rfl hd_X2_more ⟨Nat.le_of_ble_eq_true rfl, Nat.le_of_ble_eq_true rfl⟩) ⟨hf59T, hr71, (Nat.succ_le_of_lt hO.lt)⟩ hK hS hA rfl hl.1 rfl (lv_room (Nat.le_of_ble_eq_true rfl)) dX2_build_239 ⟨(by first | exact Nat.le_of_ble_eq_true rfl | omega | (dsimp only; omega)), (by first | exact Nat.le_of_ble_eq_true rfl | omega | (dsimp only; omega))⟩ (fun q75 H72 locs73 hf74 hE hS => ?_)
                              have hr11 := hr11.ext0 hE
                              have hOld := hOld.ext0 hE
                              have hr26 := hr26.ext0 hE
                              have hC := hC.ext0 hE
                              have hTt := hTt.ext0 hE
                              have hSt := hSt.ext0 hE
                              have hr49 := hr49.ext0 hE
                              have hr52 := hr52.ext0 hE
                              have hr55 := hr55.ext0 hE
                              have hf59T := hf59T.ext0 hE
                              have hr71 := hr71.ext0 hE
                              have hB21 := hB21.tr (hE.z h)
                              have hB40 := hB40.tr (hE.z h)
                              have hO := hO.ext0 hE
                              have hf74T := hf74.T
                              refine lv_iconst (v := 2) hx hb dX2_build_242 (by decide) ?_
                              have hz079 := hS.1
                              refine sx_newi (N := 2) hx hb (hts _ na_X2_build) hK.1 hS (Nat.succ_le_of_lt hO.lt) ix_2 (Nat.le_of_ble_eq_true rfl) (by first | exact Nat.le_of_ble_eq_true rfl | omega | (dsimp only; omega)) (by first | exact Nat.le_of_ble_eq_true rfl | omega | (dsimp only; omega)) dX2_build_243 (fun q76 H77 hq78 hE hN hS => ?_)
                              refine lv_dup hx hb dX2_build_245 rfl ?_
                              refine lv_iconst (v := 0) hx hb dX2_build_246 (by decide) ?_
                              refine lv_iload hx hb dX2_build_247 (lv_at hl 1 rfl) ?_
                              refine sx_iast hx hb hK.1 hS hN (hA q76 (by rw [hq78]; exact hz079)) ix_0 (by decide) dX2_build_249 (fun H80 locs81 hN hz_ ho_ hS => ?_)
                              have hE := hE.wr (Nat.le_of_eq hq78.symm) hz_ ho_
                              refine lv_dup hx hb dX2_build_250 rfl ?_
                              refine lv_iconst (v := 1) hx hb dX2_build_251 (by decide) ?_
                              refine lv_iload hx hb dX2_build_252 (lv_at hl 10 rfl) ?_
                              refine sx_iast hx hb hK.1 hS hN (hA q76 (by rw [hq78]; exact hz079)) ix_1 (by decide) dX2_build_254 (fun H82 locs83 hN hz_ ho_ hS => ?_)
                              have hE := hE.wr (Nat.le_of_eq hq78.symm) hz_ ho_
                              have hr11 := hr11.ext0 hE
                              have hOld := hOld.ext0 hE
                              have hr26 := hr26.ext0 hE
                              have hC := hC.ext0 hE
                              have hTt := hTt.ext0 hE
                              have hSt := hSt.ext0 hE
                              have hr49 := hr49.ext0 hE
                              have hr52 := hr52.ext0 hE
                              have hr55 := hr55.ext0 hE
                              have hf59T := hf59T.ext0 hE
                              have hr71 := hr71.ext0 hE
                              have hf74T := hf74T.ext0 hE
                              have hB21 := hB21.tr (hE.z h)
                              have hB40 := hB40.tr (hE.z h)
                              have hO := hO.ext0 hE
                              have hr84 : hI cI _ H82 q76 2 (s2 ((T i) ((k + 1) % 3)) (nI nC)) := hN.cg s2_upd
                              have lt9 := hC.lt
                              have lt7 := hTt.lt
                              have lt8 := hf59T.lt
                              refine sc_cSNr (As := [.ref q75, .ref q76]) (rest := [.ref h]) F (c_X2_more l dC dI cI cZ cY (h + 1) q75 q76 ((((s_bK (T i) (s_side (s_more C nC (s3 x y z)) (T i) x y) (nI nC) (s_b1 (T i) (s_bO (s_more C nC (s3 x y z)) x y (nI nC) T (nT, T, nS, S) i)) k).2.2.1) - 1) + 1) 2 (s_more (s_less ((s_bK (T i) (s_side (s_more C nC (s3 x y z)) (T i) x y) (nI nC) (s_b1 (T i) (s_bO (s_more C nC (s3 x y z)) x y (nI nC) T (nT, T, nS, S) i)) k).2.2.2) j) (((s_bK (T i) (s_side (s_more C nC (s3 x y z)) (T i) x y) (nI nC) (s_b1 (T i) (s_bO (s_more C nC (s3 x y z)) x y (nI nC) T (nT, T, nS, S) i)) k).2.2.1) - 1) (s2 ((T i) k) (nI nC))) (s2 ((T i) ((k + 1) % 3)) (nI nC)) (by omega) H82.size) (cwS 2 hts gX2_build_X2_more rfl rfl rfl hd_X2_more ⟨Nat.le_of_ble_eq_true rfl, Nat.le_of_ble_eq_true rfl⟩) ⟨hf74T, hr84, (Nat.succ_le_of_lt hO.lt)⟩ hK hS hA rfl hl.1 rfl (lv_room (Nat.le_of_ble_eq_true rfl)) dX2_build_255 ⟨(by first | exact Nat.le_of_ble_eq_true rfl | omega | (dsimp only; omega)), (by first | exact Nat.le_of_ble_eq_true rfl | omega | (dsimp only; omega))⟩ (fun q88 H85 locs86 hf87 hE hS => ?_)
                              have hr11 := hr11.ext0 hE
                              have hOld := hOld.ext0 hE
                              have hr26 := hr26.ext0 hE
                              have hC := hC.ext0 hE
                              have hTt := hTt.ext0 hE
                              have hSt := hSt.ext0 hE
                              have hr49 := hr49.ext0 hE
                              have hr52 := hr52.ext0 hE
                              have hr55 := hr55.ext0 hE
                              have hf59T := hf59T.ext0 hE
                              have hr71 := hr71.ext0 hE
                              have hf74T := hf74T.ext0 hE
                              have hr84 := hr84.ext0 hE
                              have hB21 := hB21.tr (hE.z h)
                              have hB40 := hB40.tr (hE.z h)
                              have hO := hO.ext0 hE
                              have hf87T := hf87.T
                              refine sx_put (k := 2) (v := .ref q88) (ty := .array (.array .int)) hx hb hts in_X2_build_X2 hown hK.1 hO hS hAh (hts (.fieldLink RX2 18 "MoorTrianglesLaw$Sim" "stays" "[[I") fl_X2_build_18) (by decide) rfl rfl (by rfl) (by rfl) rfl rfl dX2_build_258 (fun H89 locs90 hO hZ hS => ?_)
                              have hO : sO (dC, dI) H89 h qc1 qt1 q88 fl := hO
                              have hr11 := hr11.extZ hZ
                              have hOld := hOld.extZ hZ
                              have hr26 := hr26.extZ hZ
                              have hC := hC.extZ hZ
                              have hTt := hTt.extZ hZ
                              have hSt := hSt.extZ hZ
                              have hr49 := hr49.extZ hZ
                              have hr52 := hr52.extZ hZ
                              have hr55 := hr55.extZ hZ
                              have hf59T := hf59T.extZ hZ
                              have hr71 := hr71.extZ hZ
                              have hf74T := hf74T.extZ hZ
                              have hr84 := hr84.extZ hZ
                              have hf87T := hf87T.extZ hZ
                              have hB21 := hB21.tr hZ
                              have hB40 := hB40.tr hZ
                              have hn2 : qc1 ≠ q88 := fun e => by have := hf87.1; omega
                              refine lv_goto (tgt := 270) hx hb dX2_build_261 (by decide) ?_
                              refine lv_iinc (v := nI (k + 1)) (lv' := [(11, .int (nI (k + 1))), (14, .int (nI j)), (13, .int ((T i) ((k + 1) % 3))), (12, .int ((T i) k)), (10, .int (s_side (s_more C nC (s3 x y z)) (T i) x y)), (9, .ref xq25), (8, .int (nI i)), (7, .int (nI nT)), (6, .ref qt), (5, .ref qt), (4, .int (nI nC)), (0, .ref h), (1, .int x), (2, .int y), (3, .int z)]) hx hb dX2_build_270 hl (k := 3) rfl (nI_1 _) (by decide) rfl (fun ls hl => ?_)
                              refine lv_goto (tgt := 92) hx hb dX2_build_273 (by decide) ?_
                              have hl := lv_sub (l' := [(11, .int (nI (k + 1))), (10, .int (s_side (s_more C nC (s3 x y z)) (T i) x y)), (9, .ref xq25), (8, .int (nI i)), (7, .int (nI nT)), (6, .ref qt), (5, .ref qt), (4, .int (nI nC)), (0, .ref h), (1, .int x), (2, .int y), (3, .int z)]) hl [0, 4, 5, 6, 7, 8, 9, 10, 11, 12, 13, 14] rfl
                              have hl : lv_has ls 15 [(11, .int (nI (k + 1))), (10, .int (s_side (s_more C nC (s3 x y z)) (T i) x y)), (9, .ref xq25), (8, .int (nI i)), (7, .int (nI nT)), (6, .ref qt), (5, .ref qt), (4, .int (nI nC)), (0, .ref h), (1, .int x), (2, .int y), (3, .int z)] := by
                                have e9 : [(11, .int (nI (k + 1))), (10, .int (s_side (s_more C nC (s3 x y z)) (T i) x y)), (9, .ref xq25), (8, .int (nI i)), (7, .int (nI nT)), (6, .ref qt), (5, .ref qt), (4, .int (nI nC)), (0, .ref h), (1, .int x), (2, .int y), (3, .int z)] = ([(11, .int (nI (k + 1))), (10, .int (s_side (s_more C nC (s3 x y z)) (T i) x y)), (9, .ref xq25), (8, .int (nI i)), (7, .int (nI nT)), (6, .ref qt), (5, .ref qt), (4, .int (nI nC)), (0, .ref h), (1, .int x), (2, .int y), (3, .int z)] : List (Nat × Value)) := by rfl
                                rw [← e9]; exact hl
                              refine W.widen (show ((((((2 + 17 * i + 2 + 5 * k) + 1) + 1) + 1) + 1) + 1) ≤ 2 + 17 * i + 2 + 5 * (k + 1) from (by omega)) (show (((((((nC + 4) + (11 * V1 + 70) * i + (2 * V1 + 10) + (3 * V1 + 20) * k) + ((s_bK (T i) (s_side (s_more C nC (s3 x y z)) (T i) x y) (nI nC) (s_b1 (T i) (s_bO (s_more C nC (s3 x y z)) x y (nI nC) T (nT, T, nS, S) i)) k).2.2.1)) + 2) + ((((s_bK (T i) (s_side (s_more C nC (s3 x y z)) (T i) x y) (nI nC) (s_b1 (T i) (s_bO (s_more C nC (s3 x y z)) x y (nI nC) T (nT, T, nS, S) i)) k).2.2.1) - 1) + 1)) + 2) + (((((s_bK (T i) (s_side (s_more C nC (s3 x y z)) (T i) x y) (nI nC) (s_b1 (T i) (s_bO (s_more C nC (s3 x y z)) x y (nI nC) T (nT, T, nS, S) i)) k).2.2.1) - 1) + 1) + 1)) ≤ (nC + 4) + (11 * V1 + 70) * i + (2 * V1 + 10) + (3 * V1 + 20) * (k + 1) from (by omega)) ?_
                              exact ih39 (k + 1) qc1 qt1 q88 (by omega) (by omega) _ _ hB40 hS (by rw [s_bK, if_pos c_44, s_cutS_some (show s_pS (s_bK (T i) (s_side (s_more C nC (s3 x y z)) (T i) x y) (nI nC) (s_b1 (T i) (s_bO (s_more C nC (s3 x y z)) x y (nI nC) T (nT, T, nS, S) i)) k).2.2.2 (T i k) (T i ((k + 1) % 3)) j = true from by rw [s_pS, s_pr, if_neg c_50, if_pos c_53, if_pos c_56]) hbj hlt_j]; exact ⟨hO, hC, hTt, hf87T, hn1, hn2⟩)  _ hl
                            · refine lv_goto (tgt := 264) hx hb dX2_build_205 (by decide) ?_
                              refine lv_iinc (v := nI (j + 1)) (lv' := [(14, .int (nI (j + 1))), (13, .int ((T i) ((k + 1) % 3))), (12, .int ((T i) k)), (11, .int (nI k)), (10, .int (s_side (s_more C nC (s3 x y z)) (T i) x y)), (9, .ref xq25), (8, .int (nI i)), (7, .int (nI nT)), (6, .ref qt), (5, .ref qt), (4, .int (nI nC)), (0, .ref h), (1, .int x), (2, .int y), (3, .int z)]) hx hb dX2_build_264 hl (k := 0) rfl (nI_1 _) (by decide) rfl (fun ls hl => ?_)
                              refine lv_goto (tgt := 139) hx hb dX2_build_267 (by decide) ?_
                              have hl := lv_sub (l' := [(14, .int (nI (j + 1))), (13, .int ((T i) ((k + 1) % 3))), (12, .int ((T i) k)), (11, .int (nI k)), (10, .int (s_side (s_more C nC (s3 x y z)) (T i) x y)), (9, .ref xq25), (8, .int (nI i)), (7, .int (nI nT)), (6, .ref qt), (5, .ref qt), (4, .int (nI nC)), (0, .ref h), (1, .int x), (2, .int y), (3, .int z)]) hl [0, 1, 2, 3, 4, 5, 6, 7, 8, 9, 10, 11, 12, 13, 14] rfl
                              have hl : lv_has ls 15 [(14, .int (nI (j + 1))), (13, .int ((T i) ((k + 1) % 3))), (12, .int ((T i) k)), (11, .int (nI k)), (10, .int (s_side (s_more C nC (s3 x y z)) (T i) x y)), (9, .ref xq25), (8, .int (nI i)), (7, .int (nI nT)), (6, .ref qt), (5, .ref qt), (4, .int (nI nC)), (0, .ref h), (1, .int x), (2, .int y), (3, .int z)] := by
                                have e9 : [(14, .int (nI (j + 1))), (13, .int ((T i) ((k + 1) % 3))), (12, .int ((T i) k)), (11, .int (nI k)), (10, .int (s_side (s_more C nC (s3 x y z)) (T i) x y)), (9, .ref xq25), (8, .int (nI i)), (7, .int (nI nT)), (6, .ref qt), (5, .ref qt), (4, .int (nI nC)), (0, .ref h), (1, .int x), (2, .int y), (3, .int z)] = ([(14, .int (nI (j + 1))), (13, .int ((T i) ((k + 1) % 3))), (12, .int ((T i) k)), (11, .int (nI k)), (10, .int (s_side (s_more C nC (s3 x y z)) (T i) x y)), (9, .ref xq25), (8, .int (nI i)), (7, .int (nI nT)), (6, .ref qt), (5, .ref qt), (4, .int (nI nC)), (0, .ref h), (1, .int x), (2, .int y), (3, .int z)] : List (Nat × Value)) := by rfl
                                rw [← e9]; exact hl
                              exact ih_46 (j + 1) (by omega) (by omega) (rg_bef hbj (show s_pS (s_bK (T i) (s_side (s_more C nC (s3 x y z)) (T i) x y) (nI nC) (s_b1 (T i) (s_bO (s_more C nC (s3 x y z)) x y (nI nC) T (nT, T, nS, S) i)) k).2.2.2 (T i k) (T i ((k + 1) % 3)) j = false from by rw [s_pS, s_pr, if_neg c_50, if_pos c_53, if_neg c_56])) _ hl
                        · refine lv_aload_n hx hb dX2_build_163 rfl (lv_at hl 11 rfl) ?_
                          refine va_get (D := (dC, dI)) (ci := 2) (v := .ref qs1) (C := RX2) (T := TX2) (N := 4) hx hb hts in_X2_build_X2 hown hK.1 (va_P.one hO) 0 rfl rfl 2 (by decide) (hts (.fieldLink RX2 18 "MoorTrianglesLaw$Sim" "stays" "[[I") fl_X2_build_18) (fun _ h9 => h9) rfl dX2_build_164 ?_
                          refine lv_iload hx hb dX2_build_167 (lv_at hl 0 rfl) ?_
                          refine sx_aald hx hb hK.1 hSt (ix_nI (by omega)) hlt_j dX2_build_169 (fun xq91 hr92 => ?_)
                          refine lv_iconst (v := 1) hx hb dX2_build_170 (by decide) ?_
                          refine sx_iald hx hb hK.1 hr92 ix_1 (by decide) dX2_build_171 ?_
                          refine lv_iload hx hb dX2_build_172 (lv_at hl 1 rfl) ?_
                          refine lv_icmp_eq (tgt := 208) hx hb dX2_build_174 (by decide) (fun c_93 => ?_) (fun c_93 => ?_)
                          · refine lv_aload_n hx hb dX2_build_208 rfl (lv_at hl 11 rfl) ?_
                            refine lv_aload_n hx hb dX2_build_209 rfl (lv_at hl 11 rfl) ?_
                            refine va_get (D := (dC, dI)) (ci := 2) (v := .ref qs1) (C := RX2) (T := TX2) (N := 4) hx hb hts in_X2_build_X2 hown hK.1 (va_P.one hO) 0 rfl rfl 2 (by decide) (hts (.fieldLink RX2 18 "MoorTrianglesLaw$Sim" "stays" "[[I") fl_X2_build_18) (fun _ h9 => h9) rfl dX2_build_210 ?_
                            refine lv_iload hx hb dX2_build_213 (lv_at hl 0 rfl) ?_
                            have lt9 := hC.lt
                            have lt7 := hTt.lt
                            have lt8 := hSt.lt
                            refine sc_cSNr (As := [.ref qs1, .int (nI j)]) (rest := [.ref h]) F (c_X2_less l dC dI cI cZ cY (h + 1) qs1 j ((s_bK (T i) (s_side (s_more C nC (s3 x y z)) (T i) x y) (nI nC) (s_b1 (T i) (s_bO (s_more C nC (s3 x y z)) x y (nI nC) T (nT, T, nS, S) i)) k).2.2.1) 2 ((s_bK (T i) (s_side (s_more C nC (s3 x y z)) (T i) x y) (nI nC) (s_b1 (T i) (s_bO (s_more C nC (s3 x y z)) x y (nI nC) T (nT, T, nS, S) i)) k).2.2.2) (by omega) hlt_j H41.size) (cwS 2 hts gX2_build_X2_less rfl rfl rfl hd_X2_less ⟨Nat.le_of_ble_eq_true rfl, Nat.le_of_ble_eq_true rfl⟩) ⟨hSt, (Nat.succ_le_of_lt hO.lt)⟩ hK hS hA rfl hl.1 rfl (lv_room (Nat.le_of_ble_eq_true rfl)) dX2_build_215 ⟨(by first | exact Nat.le_of_ble_eq_true rfl | omega | (dsimp only; omega)), (by first | exact Nat.le_of_ble_eq_true rfl | omega | (dsimp only; omega))⟩ (fun q97 H94 locs95 hf96 hE hS => ?_)
                            have hr11 := hr11.ext0 hE
                            have hOld := hOld.ext0 hE
                            have hr26 := hr26.ext0 hE
                            have hC := hC.ext0 hE
                            have hTt := hTt.ext0 hE
                            have hSt := hSt.ext0 hE
                            have hr49 := hr49.ext0 hE
                            have hr92 := hr92.ext0 hE
                            have hB21 := hB21.tr (hE.z h)
                            have hB40 := hB40.tr (hE.z h)
                            have hO := hO.ext0 hE
                            have hf96T := hf96.T
                            refine sx_put (k := 2) (v := .ref q97) (ty := .array (.array .int)) hx hb hts in_X2_build_X2 hown hK.1 hO hS hAh (hts (.fieldLink RX2 18 "MoorTrianglesLaw$Sim" "stays" "[[I") fl_X2_build_18) (by decide) rfl rfl (by rfl) (by rfl) rfl rfl dX2_build_218 (fun H98 locs99 hO hZ hS => ?_)
                            have hO : sO (dC, dI) H98 h qc1 qt1 q97 fl := hO
                            have hr11 := hr11.extZ hZ
                            have hOld := hOld.extZ hZ
                            have hr26 := hr26.extZ hZ
                            have hC := hC.extZ hZ
                            have hTt := hTt.extZ hZ
                            have hSt := hSt.extZ hZ
                            have hr49 := hr49.extZ hZ
                            have hr92 := hr92.extZ hZ
                            have hf96T := hf96T.extZ hZ
                            have hB21 := hB21.tr hZ
                            have hB40 := hB40.tr hZ
                            have hn2 : qc1 ≠ q97 := fun e => by have := hf96.1; omega
                            refine lv_aload_n hx hb dX2_build_221 rfl (lv_at hl 11 rfl) ?_
                            refine lv_aload_n hx hb dX2_build_222 rfl (lv_at hl 11 rfl) ?_
                            refine va_get (D := (dC, dI)) (ci := 2) (v := .ref q97) (C := RX2) (T := TX2) (N := 4) hx hb hts in_X2_build_X2 hown hK.1 (va_P.one hO) 0 rfl rfl 2 (by decide) (hts (.fieldLink RX2 18 "MoorTrianglesLaw$Sim" "stays" "[[I") fl_X2_build_18) (fun _ h9 => h9) rfl dX2_build_223 ?_
                            refine lv_iconst (v := 2) hx hb dX2_build_226 (by decide) ?_
                            have hz0103 := hS.1
                            refine sx_newi (N := 2) hx hb (hts _ na_X2_build) hK.1 hS (Nat.succ_le_of_lt hO.lt) ix_2 (Nat.le_of_ble_eq_true rfl) (by first | exact Nat.le_of_ble_eq_true rfl | omega | (dsimp only; omega)) (by first | exact Nat.le_of_ble_eq_true rfl | omega | (dsimp only; omega)) dX2_build_227 (fun q100 H101 hq102 hE hN hS => ?_)
                            refine lv_dup hx hb dX2_build_229 rfl ?_
                            refine lv_iconst (v := 0) hx hb dX2_build_230 (by decide) ?_
                            refine lv_iload hx hb dX2_build_231 (lv_at hl 2 rfl) ?_
                            refine sx_iast hx hb hK.1 hS hN (hA q100 (by rw [hq102]; exact hz0103)) ix_0 (by decide) dX2_build_233 (fun H104 locs105 hN hz_ ho_ hS => ?_)
                            have hE := hE.wr (Nat.le_of_eq hq102.symm) hz_ ho_
                            refine lv_dup hx hb dX2_build_234 rfl ?_
                            refine lv_iconst (v := 1) hx hb dX2_build_235 (by decide) ?_
                            refine lv_iload hx hb dX2_build_236 (lv_at hl 10 rfl) ?_
                            refine sx_iast hx hb hK.1 hS hN (hA q100 (by rw [hq102]; exact hz0103)) ix_1 (by decide) dX2_build_238 (fun H106 locs107 hN hz_ ho_ hS => ?_)
                            have hE := hE.wr (Nat.le_of_eq hq102.symm) hz_ ho_
                            have hr11 := hr11.ext0 hE
                            have hOld := hOld.ext0 hE
                            have hr26 := hr26.ext0 hE
                            have hC := hC.ext0 hE
                            have hTt := hTt.ext0 hE
                            have hSt := hSt.ext0 hE
                            have hr49 := hr49.ext0 hE
                            have hr92 := hr92.ext0 hE
                            have hf96T := hf96T.ext0 hE
                            have hB21 := hB21.tr (hE.z h)
                            have hB40 := hB40.tr (hE.z h)
                            have hO := hO.ext0 hE
                            have hr108 : hI cI _ H106 q100 2 (s2 ((T i) k) (nI nC)) := hN.cg s2_upd
                            have lt9 := hC.lt
                            have lt7 := hTt.lt
                            have lt8 := hf96T.lt
                            refine sc_cSNr (As := [.ref q97, .ref q100]) (rest := [.ref h]) F (c_X2_more l dC dI cI cZ cY (h + 1) q97 q100 (((s_bK (T i) (s_side (s_more C nC (s3 x y z)) (T i) x y) (nI nC) (s_b1 (T i) (s_bO (s_more C nC (s3 x y z)) x y (nI nC) T (nT, T, nS, S) i)) k).2.2.1) - 1) 2 (s_less ((s_bK (T i) (s_side (s_more C nC (s3 x y z)) (T i) x y) (nI nC) (s_b1 (T i) (s_bO (s_more C nC (s3 x y z)) x y (nI nC) T (nT, T, nS, S) i)) k).2.2.2) j) (s2 ((T i) k) (nI nC)) (by omega) H106.size) (cwS 2 hts gX2_build_X2_more rfl rfl rfl hd_X2_more ⟨Nat.le_of_ble_eq_true rfl, Nat.le_of_ble_eq_true rfl⟩) ⟨hf96T, hr108, (Nat.succ_le_of_lt hO.lt)⟩ hK hS hA rfl hl.1 rfl (lv_room (Nat.le_of_ble_eq_true rfl)) dX2_build_239 ⟨(by first | exact Nat.le_of_ble_eq_true rfl | omega | (dsimp only; omega)), (by first | exact Nat.le_of_ble_eq_true rfl | omega | (dsimp only; omega))⟩ (fun q112 H109 locs110 hf111 hE hS => ?_)
                            have hr11 := hr11.ext0 hE
                            have hOld := hOld.ext0 hE
                            have hr26 := hr26.ext0 hE
                            have hC := hC.ext0 hE
                            have hTt := hTt.ext0 hE
                            have hSt := hSt.ext0 hE
                            have hr49 := hr49.ext0 hE
                            have hr92 := hr92.ext0 hE
                            have hf96T := hf96T.ext0 hE
                            have hr108 := hr108.ext0 hE
                            have hB21 := hB21.tr (hE.z h)
                            have hB40 := hB40.tr (hE.z h)
                            have hO := hO.ext0 hE
                            have hf111T := hf111.T
                            refine lv_iconst (v := 2) hx hb dX2_build_242 (by decide) ?_
                            have hz0116 := hS.1
                            refine sx_newi (N := 2) hx hb (hts _ na_X2_build) hK.1 hS (Nat.succ_le_of_lt hO.lt) ix_2 (Nat.le_of_ble_eq_true rfl) (by first | exact Nat.le_of_ble_eq_true rfl | omega | (dsimp only; omega)) (by first | exact Nat.le_of_ble_eq_true rfl | omega | (dsimp only; omega)) dX2_build_243 (fun q113 H114 hq115 hE hN hS => ?_)
                            refine lv_dup hx hb dX2_build_245 rfl ?_
                            refine lv_iconst (v := 0) hx hb dX2_build_246 (by decide) ?_
                            refine lv_iload hx hb dX2_build_247 (lv_at hl 1 rfl) ?_
                            refine sx_iast hx hb hK.1 hS hN (hA q113 (by rw [hq115]; exact hz0116)) ix_0 (by decide) dX2_build_249 (fun H117 locs118 hN hz_ ho_ hS => ?_)
                            have hE := hE.wr (Nat.le_of_eq hq115.symm) hz_ ho_
                            refine lv_dup hx hb dX2_build_250 rfl ?_
                            refine lv_iconst (v := 1) hx hb dX2_build_251 (by decide) ?_
                            refine lv_iload hx hb dX2_build_252 (lv_at hl 10 rfl) ?_
                            refine sx_iast hx hb hK.1 hS hN (hA q113 (by rw [hq115]; exact hz0116)) ix_1 (by decide) dX2_build_254 (fun H119 locs120 hN hz_ ho_ hS => ?_)
                            have hE := hE.wr (Nat.le_of_eq hq115.symm) hz_ ho_
                            have hr11 := hr11.ext0 hE
                            have hOld := hOld.ext0 hE
                            have hr26 := hr26.ext0 hE
                            have hC := hC.ext0 hE
                            have hTt := hTt.ext0 hE
                            have hSt := hSt.ext0 hE
                            have hr49 := hr49.ext0 hE
                            have hr92 := hr92.ext0 hE
                            have hf96T := hf96T.ext0 hE
                            have hr108 := hr108.ext0 hE
                            have hf111T := hf111T.ext0 hE
                            have hB21 := hB21.tr (hE.z h)
                            have hB40 := hB40.tr (hE.z h)
                            have hO := hO.ext0 hE
                            have hr121 : hI cI _ H119 q113 2 (s2 ((T i) ((k + 1) % 3)) (nI nC)) := hN.cg s2_upd
                            have lt9 := hC.lt
                            have lt7 := hTt.lt
                            have lt8 := hf96T.lt
                            refine sc_cSNr (As := [.ref q112, .ref q113]) (rest := [.ref h]) F (c_X2_more l dC dI cI cZ cY (h + 1) q112 q113 ((((s_bK (T i) (s_side (s_more C nC (s3 x y z)) (T i) x y) (nI nC) (s_b1 (T i) (s_bO (s_more C nC (s3 x y z)) x y (nI nC) T (nT, T, nS, S) i)) k).2.2.1) - 1) + 1) 2 (s_more (s_less ((s_bK (T i) (s_side (s_more C nC (s3 x y z)) (T i) x y) (nI nC) (s_b1 (T i) (s_bO (s_more C nC (s3 x y z)) x y (nI nC) T (nT, T, nS, S) i)) k).2.2.2) j) (((s_bK (T i) (s_side (s_more C nC (s3 x y z)) (T i) x y) (nI nC) (s_b1 (T i) (s_bO (s_more C nC (s3 x y z)) x y (nI nC) T (nT, T, nS, S) i)) k).2.2.1) - 1) (s2 ((T i) k) (nI nC))) (s2 ((T i) ((k + 1) % 3)) (nI nC)) (by omega) H119.size) (cwS 2 hts gX2_build_X2_more rfl rfl rfl hd_X2_more ⟨Nat.le_of_ble_eq_true rfl, Nat.le_of_ble_eq_true rfl⟩) ⟨hf111T, hr121, (Nat.succ_le_of_lt hO.lt)⟩ hK hS hA rfl hl.1 rfl (lv_room (Nat.le_of_ble_eq_true rfl)) dX2_build_255 ⟨(by first | exact Nat.le_of_ble_eq_true rfl | omega | (dsimp only; omega)), (by first | exact Nat.le_of_ble_eq_true rfl | omega | (dsimp only; omega))⟩ (fun q125 H122 locs123 hf124 hE hS => ?_)
                            have hr11 := hr11.ext0 hE
                            have hOld := hOld.ext0 hE
                            have hr26 := hr26.ext0 hE
                            have hC := hC.ext0 hE
                            have hTt := hTt.ext0 hE
                            have hSt := hSt.ext0 hE
                            have hr49 := hr49.ext0 hE
                            have hr92 := hr92.ext0 hE
                            have hf96T := hf96T.ext0 hE
                            have hr108 := hr108.ext0 hE
                            have hf111T := hf111T.ext0 hE
                            have hr121 := hr121.ext0 hE
                            have hB21 := hB21.tr (hE.z h)
                            have hB40 := hB40.tr (hE.z h)
                            have hO := hO.ext0 hE
                            have hf124T := hf124.T
                            refine sx_put (k := 2) (v := .ref q125) (ty := .array (.array .int)) hx hb hts in_X2_build_X2 hown hK.1 hO hS hAh (hts (.fieldLink RX2 18 "MoorTrianglesLaw$Sim" "stays" "[[I") fl_X2_build_18) (by decide) rfl rfl (by rfl) (by rfl) rfl rfl dX2_build_258 (fun H126 locs127 hO hZ hS => ?_)
                            have hO : sO (dC, dI) H126 h qc1 qt1 q125 fl := hO
                            have hr11 := hr11.extZ hZ
                            have hOld := hOld.extZ hZ
                            have hr26 := hr26.extZ hZ
                            have hC := hC.extZ hZ
                            have hTt := hTt.extZ hZ
                            have hSt := hSt.extZ hZ
                            have hr49 := hr49.extZ hZ
                            have hr92 := hr92.extZ hZ
                            have hf96T := hf96T.extZ hZ
                            have hr108 := hr108.extZ hZ
                            have hf111T := hf111T.extZ hZ
                            have hr121 := hr121.extZ hZ
                            have hf124T := hf124T.extZ hZ
                            have hB21 := hB21.tr hZ
                            have hB40 := hB40.tr hZ
                            have hn2 : qc1 ≠ q125 := fun e => by have := hf124.1; omega
                            refine lv_goto (tgt := 270) hx hb dX2_build_261 (by decide) ?_
                            refine lv_iinc (v := nI (k + 1)) (lv' := [(11, .int (nI (k + 1))), (14, .int (nI j)), (13, .int ((T i) ((k + 1) % 3))), (12, .int ((T i) k)), (10, .int (s_side (s_more C nC (s3 x y z)) (T i) x y)), (9, .ref xq25), (8, .int (nI i)), (7, .int (nI nT)), (6, .ref qt), (5, .ref qt), (4, .int (nI nC)), (0, .ref h), (1, .int x), (2, .int y), (3, .int z)]) hx hb dX2_build_270 hl (k := 3) rfl (nI_1 _) (by decide) rfl (fun ls hl => ?_)
                            refine lv_goto (tgt := 92) hx hb dX2_build_273 (by decide) ?_
                            have hl := lv_sub (l' := [(11, .int (nI (k + 1))), (10, .int (s_side (s_more C nC (s3 x y z)) (T i) x y)), (9, .ref xq25), (8, .int (nI i)), (7, .int (nI nT)), (6, .ref qt), (5, .ref qt), (4, .int (nI nC)), (0, .ref h), (1, .int x), (2, .int y), (3, .int z)]) hl [0, 4, 5, 6, 7, 8, 9, 10, 11, 12, 13, 14] rfl
                            have hl : lv_has ls 15 [(11, .int (nI (k + 1))), (10, .int (s_side (s_more C nC (s3 x y z)) (T i) x y)), (9, .ref xq25), (8, .int (nI i)), (7, .int (nI nT)), (6, .ref qt), (5, .ref qt), (4, .int (nI nC)), (0, .ref h), (1, .int x), (2, .int y), (3, .int z)] := by
                              have e9 : [(11, .int (nI (k + 1))), (10, .int (s_side (s_more C nC (s3 x y z)) (T i) x y)), (9, .ref xq25), (8, .int (nI i)), (7, .int (nI nT)), (6, .ref qt), (5, .ref qt), (4, .int (nI nC)), (0, .ref h), (1, .int x), (2, .int y), (3, .int z)] = ([(11, .int (nI (k + 1))), (10, .int (s_side (s_more C nC (s3 x y z)) (T i) x y)), (9, .ref xq25), (8, .int (nI i)), (7, .int (nI nT)), (6, .ref qt), (5, .ref qt), (4, .int (nI nC)), (0, .ref h), (1, .int x), (2, .int y), (3, .int z)] : List (Nat × Value)) := by rfl
                              rw [← e9]; exact hl
                            refine W.widen (show ((((((2 + 17 * i + 2 + 5 * k) + 1) + 1) + 1) + 1) + 1) ≤ 2 + 17 * i + 2 + 5 * (k + 1) from (by omega)) (show (((((((nC + 4) + (11 * V1 + 70) * i + (2 * V1 + 10) + (3 * V1 + 20) * k) + ((s_bK (T i) (s_side (s_more C nC (s3 x y z)) (T i) x y) (nI nC) (s_b1 (T i) (s_bO (s_more C nC (s3 x y z)) x y (nI nC) T (nT, T, nS, S) i)) k).2.2.1)) + 2) + ((((s_bK (T i) (s_side (s_more C nC (s3 x y z)) (T i) x y) (nI nC) (s_b1 (T i) (s_bO (s_more C nC (s3 x y z)) x y (nI nC) T (nT, T, nS, S) i)) k).2.2.1) - 1) + 1)) + 2) + (((((s_bK (T i) (s_side (s_more C nC (s3 x y z)) (T i) x y) (nI nC) (s_b1 (T i) (s_bO (s_more C nC (s3 x y z)) x y (nI nC) T (nT, T, nS, S) i)) k).2.2.1) - 1) + 1) + 1)) ≤ (nC + 4) + (11 * V1 + 70) * i + (2 * V1 + 10) + (3 * V1 + 20) * (k + 1) from (by omega)) ?_
                            exact ih39 (k + 1) qc1 qt1 q125 (by omega) (by omega) _ _ hB40 hS (by rw [s_bK, if_pos c_44, s_cutS_some (show s_pS (s_bK (T i) (s_side (s_more C nC (s3 x y z)) (T i) x y) (nI nC) (s_b1 (T i) (s_bO (s_more C nC (s3 x y z)) x y (nI nC) T (nT, T, nS, S) i)) k).2.2.2 (T i k) (T i ((k + 1) % 3)) j = true from by rw [s_pS, s_pr, if_pos c_50, if_pos c_93]) hbj hlt_j]; exact ⟨hO, hC, hTt, hf124T, hn1, hn2⟩)  _ hl
                          · refine lv_aload_n hx hb dX2_build_177 rfl (lv_at hl 11 rfl) ?_
                            refine va_get (D := (dC, dI)) (ci := 2) (v := .ref qs1) (C := RX2) (T := TX2) (N := 4) hx hb hts in_X2_build_X2 hown hK.1 (va_P.one hO) 0 rfl rfl 2 (by decide) (hts (.fieldLink RX2 18 "MoorTrianglesLaw$Sim" "stays" "[[I") fl_X2_build_18) (fun _ h9 => h9) rfl dX2_build_178 ?_
                            refine lv_iload hx hb dX2_build_181 (lv_at hl 0 rfl) ?_
                            refine sx_aald hx hb hK.1 hSt (ix_nI (by omega)) hlt_j dX2_build_183 (fun xq128 hr129 => ?_)
                            refine lv_iconst (v := 0) hx hb dX2_build_184 (by decide) ?_
                            refine sx_iald hx hb hK.1 hr129 ix_0 (by decide) dX2_build_185 ?_
                            refine lv_iload hx hb dX2_build_186 (lv_at hl 1 rfl) ?_
                            refine lv_icmp_ne (tgt := 264) hx hb dX2_build_188 (by decide) (fun c_130 => ?_) (fun c_130 => ?_)
                            · refine lv_iinc (v := nI (j + 1)) (lv' := [(14, .int (nI (j + 1))), (13, .int ((T i) ((k + 1) % 3))), (12, .int ((T i) k)), (11, .int (nI k)), (10, .int (s_side (s_more C nC (s3 x y z)) (T i) x y)), (9, .ref xq25), (8, .int (nI i)), (7, .int (nI nT)), (6, .ref qt), (5, .ref qt), (4, .int (nI nC)), (0, .ref h), (1, .int x), (2, .int y), (3, .int z)]) hx hb dX2_build_264 hl (k := 0) rfl (nI_1 _) (by decide) rfl (fun ls hl => ?_)
                              refine lv_goto (tgt := 139) hx hb dX2_build_267 (by decide) ?_
                              have hl := lv_sub (l' := [(14, .int (nI (j + 1))), (13, .int ((T i) ((k + 1) % 3))), (12, .int ((T i) k)), (11, .int (nI k)), (10, .int (s_side (s_more C nC (s3 x y z)) (T i) x y)), (9, .ref xq25), (8, .int (nI i)), (7, .int (nI nT)), (6, .ref qt), (5, .ref qt), (4, .int (nI nC)), (0, .ref h), (1, .int x), (2, .int y), (3, .int z)]) hl [0, 1, 2, 3, 4, 5, 6, 7, 8, 9, 10, 11, 12, 13, 14] rfl
                              have hl : lv_has ls 15 [(14, .int (nI (j + 1))), (13, .int ((T i) ((k + 1) % 3))), (12, .int ((T i) k)), (11, .int (nI k)), (10, .int (s_side (s_more C nC (s3 x y z)) (T i) x y)), (9, .ref xq25), (8, .int (nI i)), (7, .int (nI nT)), (6, .ref qt), (5, .ref qt), (4, .int (nI nC)), (0, .ref h), (1, .int x), (2, .int y), (3, .int z)] := by
                                have e9 : [(14, .int (nI (j + 1))), (13, .int ((T i) ((k + 1) % 3))), (12, .int ((T i) k)), (11, .int (nI k)), (10, .int (s_side (s_more C nC (s3 x y z)) (T i) x y)), (9, .ref xq25), (8, .int (nI i)), (7, .int (nI nT)), (6, .ref qt), (5, .ref qt), (4, .int (nI nC)), (0, .ref h), (1, .int x), (2, .int y), (3, .int z)] = ([(14, .int (nI (j + 1))), (13, .int ((T i) ((k + 1) % 3))), (12, .int ((T i) k)), (11, .int (nI k)), (10, .int (s_side (s_more C nC (s3 x y z)) (T i) x y)), (9, .ref xq25), (8, .int (nI i)), (7, .int (nI nT)), (6, .ref qt), (5, .ref qt), (4, .int (nI nC)), (0, .ref h), (1, .int x), (2, .int y), (3, .int z)] : List (Nat × Value)) := by rfl
                                rw [← e9]; exact hl
                              exact ih_46 (j + 1) (by omega) (by omega) (rg_bef hbj (show s_pS (s_bK (T i) (s_side (s_more C nC (s3 x y z)) (T i) x y) (nI nC) (s_b1 (T i) (s_bO (s_more C nC (s3 x y z)) x y (nI nC) T (nT, T, nS, S) i)) k).2.2.2 (T i k) (T i ((k + 1) % 3)) j = false from by rw [s_pS, s_pr, if_pos c_50, if_neg c_93, if_neg c_130])) _ hl
                            · refine lv_aload_n hx hb dX2_build_191 rfl (lv_at hl 11 rfl) ?_
                              refine va_get (D := (dC, dI)) (ci := 2) (v := .ref qs1) (C := RX2) (T := TX2) (N := 4) hx hb hts in_X2_build_X2 hown hK.1 (va_P.one hO) 0 rfl rfl 2 (by decide) (hts (.fieldLink RX2 18 "MoorTrianglesLaw$Sim" "stays" "[[I") fl_X2_build_18) (fun _ h9 => h9) rfl dX2_build_192 ?_
                              refine lv_iload hx hb dX2_build_195 (lv_at hl 0 rfl) ?_
                              refine sx_aald hx hb hK.1 hSt (ix_nI (by omega)) hlt_j dX2_build_197 (fun xq131 hr132 => ?_)
                              refine lv_iconst (v := 1) hx hb dX2_build_198 (by decide) ?_
                              refine sx_iald hx hb hK.1 hr132 ix_1 (by decide) dX2_build_199 ?_
                              refine lv_iload hx hb dX2_build_200 (lv_at hl 2 rfl) ?_
                              refine lv_icmp_eq (tgt := 208) hx hb dX2_build_202 (by decide) (fun c_133 => ?_) (fun c_133 => ?_)
                              · refine lv_aload_n hx hb dX2_build_208 rfl (lv_at hl 11 rfl) ?_
                                refine lv_aload_n hx hb dX2_build_209 rfl (lv_at hl 11 rfl) ?_
                                refine va_get (D := (dC, dI)) (ci := 2) (v := .ref qs1) (C := RX2) (T := TX2) (N := 4) hx hb hts in_X2_build_X2 hown hK.1 (va_P.one hO) 0 rfl rfl 2 (by decide) (hts (.fieldLink RX2 18 "MoorTrianglesLaw$Sim" "stays" "[[I") fl_X2_build_18) (fun _ h9 => h9) rfl dX2_build_210 ?_
                                refine lv_iload hx hb dX2_build_213 (lv_at hl 0 rfl) ?_
                                have lt9 := hC.lt
                                have lt7 := hTt.lt
                                have lt8 := hSt.lt
                                refine sc_cSNr (As := [.ref qs1, .int (nI j)]) (rest := [.ref h]) F (c_X2_less l dC dI cI cZ cY (h + 1) qs1 j ((s_bK (T i) (s_side (s_more C nC (s3 x y z)) (T i) x y) (nI nC) (s_b1 (T i) (s_bO (s_more C nC (s3 x y z)) x y (nI nC) T (nT, T, nS, S) i)) k).2.2.1) 2 ((s_bK (T i) (s_side (s_more C nC (s3 x y z)) (T i) x y) (nI nC) (s_b1 (T i) (s_bO (s_more C nC (s3 x y z)) x y (nI nC) T (nT, T, nS, S) i)) k).2.2.2) (by omega) hlt_j H41.size) (cwS 2 hts gX2_build_X2_less rfl rfl rfl hd_X2_less ⟨Nat.le_of_ble_eq_true rfl, Nat.le_of_ble_eq_true rfl⟩) ⟨hSt, (Nat.succ_le_of_lt hO.lt)⟩ hK hS hA rfl hl.1 rfl (lv_room (Nat.le_of_ble_eq_true rfl)) dX2_build_215 ⟨(by first | exact Nat.le_of_ble_eq_true rfl | omega | (dsimp only; omega)), (by first | exact Nat.le_of_ble_eq_true rfl | omega | (dsimp only; omega))⟩ (fun q137 H134 locs135 hf136 hE hS => ?_)
                                have hr11 := hr11.ext0 hE
                                have hOld := hOld.ext0 hE
                                have hr26 := hr26.ext0 hE
                                have hC := hC.ext0 hE
                                have hTt := hTt.ext0 hE
                                have hSt := hSt.ext0 hE
                                have hr49 := hr49.ext0 hE
                                have hr92 := hr92.ext0 hE
                                have hr129 := hr129.ext0 hE
                                have hr132 := hr132.ext0 hE
                                have hB21 := hB21.tr (hE.z h)
                                have hB40 := hB40.tr (hE.z h)
                                have hO := hO.ext0 hE
                                have hf136T := hf136.T
                                refine sx_put (k := 2) (v := .ref q137) (ty := .array (.array .int)) hx hb hts in_X2_build_X2 hown hK.1 hO hS hAh (hts (.fieldLink RX2 18 "MoorTrianglesLaw$Sim" "stays" "[[I") fl_X2_build_18) (by decide) rfl rfl (by rfl) (by rfl) rfl rfl dX2_build_218 (fun H138 locs139 hO hZ hS => ?_)
                                have hO : sO (dC, dI) H138 h qc1 qt1 q137 fl := hO
                                have hr11 := hr11.extZ hZ
                                have hOld := hOld.extZ hZ
                                have hr26 := hr26.extZ hZ
                                have hC := hC.extZ hZ
                                have hTt := hTt.extZ hZ
                                have hSt := hSt.extZ hZ
                                have hr49 := hr49.extZ hZ
                                have hr92 := hr92.extZ hZ
                                have hr129 := hr129.extZ hZ
                                have hr132 := hr132.extZ hZ
                                have hf136T := hf136T.extZ hZ
                                have hB21 := hB21.tr hZ
                                have hB40 := hB40.tr hZ
                                have hn2 : qc1 ≠ q137 := fun e => by have := hf136.1; omega
                                refine lv_aload_n hx hb dX2_build_221 rfl (lv_at hl 11 rfl) ?_
                                refine lv_aload_n hx hb dX2_build_222 rfl (lv_at hl 11 rfl) ?_
                                refine va_get (D := (dC, dI)) (ci := 2) (v := .ref q137) (C := RX2) (T := TX2) (N := 4) hx hb hts in_X2_build_X2 hown hK.1 (va_P.one hO) 0 rfl rfl 2 (by decide) (hts (.fieldLink RX2 18 "MoorTrianglesLaw$Sim" "stays" "[[I") fl_X2_build_18) (fun _ h9 => h9) rfl dX2_build_223 ?_
                                refine lv_iconst (v := 2) hx hb dX2_build_226 (by decide) ?_
                                have hz0143 := hS.1
                                refine sx_newi (N := 2) hx hb (hts _ na_X2_build) hK.1 hS (Nat.succ_le_of_lt hO.lt) ix_2 (Nat.le_of_ble_eq_true rfl) (by first | exact Nat.le_of_ble_eq_true rfl | omega | (dsimp only; omega)) (by first | exact Nat.le_of_ble_eq_true rfl | omega | (dsimp only; omega)) dX2_build_227 (fun q140 H141 hq142 hE hN hS => ?_)
                                refine lv_dup hx hb dX2_build_229 rfl ?_
                                refine lv_iconst (v := 0) hx hb dX2_build_230 (by decide) ?_
                                refine lv_iload hx hb dX2_build_231 (lv_at hl 2 rfl) ?_
                                refine sx_iast hx hb hK.1 hS hN (hA q140 (by rw [hq142]; exact hz0143)) ix_0 (by decide) dX2_build_233 (fun H144 locs145 hN hz_ ho_ hS => ?_)
                                have hE := hE.wr (Nat.le_of_eq hq142.symm) hz_ ho_
                                refine lv_dup hx hb dX2_build_234 rfl ?_
                                refine lv_iconst (v := 1) hx hb dX2_build_235 (by decide) ?_
                                refine lv_iload hx hb dX2_build_236 (lv_at hl 10 rfl) ?_
                                refine sx_iast hx hb hK.1 hS hN (hA q140 (by rw [hq142]; exact hz0143)) ix_1 (by decide) dX2_build_238 (fun H146 locs147 hN hz_ ho_ hS => ?_)
                                have hE := hE.wr (Nat.le_of_eq hq142.symm) hz_ ho_
                                have hr11 := hr11.ext0 hE
                                have hOld := hOld.ext0 hE
                                have hr26 := hr26.ext0 hE
                                have hC := hC.ext0 hE
                                have hTt := hTt.ext0 hE
                                have hSt := hSt.ext0 hE
                                have hr49 := hr49.ext0 hE
                                have hr92 := hr92.ext0 hE
                                have hr129 := hr129.ext0 hE
                                have hr132 := hr132.ext0 hE
                                have hf136T := hf136T.ext0 hE
                                have hB21 := hB21.tr (hE.z h)
                                have hB40 := hB40.tr (hE.z h)
                                have hO := hO.ext0 hE
                                have hr148 : hI cI _ H146 q140 2 (s2 ((T i) k) (nI nC)) := hN.cg s2_upd
                                have lt9 := hC.lt
                                have lt7 := hTt.lt
                                have lt8 := hf136T.lt
                                refine sc_cSNr (As := [.ref q137, .ref q140]) (rest := [.ref h]) F (c_X2_more l dC dI cI cZ cY (h + 1) q137 q140 (((s_bK (T i) (s_side (s_more C nC (s3 x y z)) (T i) x y) (nI nC) (s_b1 (T i) (s_bO (s_more C nC (s3 x y z)) x y (nI nC) T (nT, T, nS, S) i)) k).2.2.1) - 1) 2 (s_less ((s_bK (T i) (s_side (s_more C nC (s3 x y z)) (T i) x y) (nI nC) (s_b1 (T i) (s_bO (s_more C nC (s3 x y z)) x y (nI nC) T (nT, T, nS, S) i)) k).2.2.2) j) (s2 ((T i) k) (nI nC)) (by omega) H146.size) (cwS 2 hts gX2_build_X2_more rfl rfl rfl hd_X2_more ⟨Nat.le_of_ble_eq_true rfl, Nat.le_of_ble_eq_true rfl⟩) ⟨hf136T, hr148, (Nat.succ_le_of_lt hO.lt)⟩ hK hS hA rfl hl.1 rfl (lv_room (Nat.le_of_ble_eq_true rfl)) dX2_build_239 ⟨(by first | exact Nat.le_of_ble_eq_true rfl | omega | (dsimp only; omega)), (by first | exact Nat.le_of_ble_eq_true rfl | omega | (dsimp only; omega))⟩ (fun q152 H149 locs150 hf151 hE hS => ?_)
                                have hr11 := hr11.ext0 hE
                                have hOld := hOld.ext0 hE
                                have hr26 := hr26.ext0 hE
                                have hC := hC.ext0 hE
                                have hTt := hTt.ext0 hE
                                have hSt := hSt.ext0 hE
                                have hr49 := hr49.ext0 hE
                                have hr92 := hr92.ext0 hE
                                have hr129 := hr129.ext0 hE
                                have hr132 := hr132.ext0 hE
                                have hf136T := hf136T.ext0 hE
                                have hr148 := hr148.ext0 hE
                                have hB21 := hB21.tr (hE.z h)
                                have hB40 := hB40.tr (hE.z h)
                                have hO := hO.ext0 hE
                                have hf151T := hf151.T
                                refine lv_iconst (v := 2) hx hb dX2_build_242 (by decide) ?_
                                have hz0156 := hS.1
                                refine sx_newi (N := 2) hx hb (hts _ na_X2_build) hK.1 hS (Nat.succ_le_of_lt hO.lt) ix_2 (Nat.le_of_ble_eq_true rfl) (by first | exact Nat.le_of_ble_eq_true rfl | omega | (dsimp only; omega)) (by first | exact Nat.le_of_ble_eq_true rfl | omega | (dsimp only; omega)) dX2_build_243 (fun q153 H154 hq155 hE hN hS => ?_)
                                refine lv_dup hx hb dX2_build_245 rfl ?_
                                refine lv_iconst (v := 0) hx hb dX2_build_246 (by decide) ?_
                                refine lv_iload hx hb dX2_build_247 (lv_at hl 1 rfl) ?_
                                refine sx_iast hx hb hK.1 hS hN (hA q153 (by rw [hq155]; exact hz0156)) ix_0 (by decide) dX2_build_249 (fun H157 locs158 hN hz_ ho_ hS => ?_)
                                have hE := hE.wr (Nat.le_of_eq hq155.symm) hz_ ho_
                                refine lv_dup hx hb dX2_build_250 rfl ?_
                                refine lv_iconst (v := 1) hx hb dX2_build_251 (by decide) ?_
                                refine lv_iload hx hb dX2_build_252 (lv_at hl 10 rfl) ?_
                                refine sx_iast hx hb hK.1 hS hN (hA q153 (by rw [hq155]; exact hz0156)) ix_1 (by decide) dX2_build_254 (fun H159 locs160 hN hz_ ho_ hS => ?_)
                                have hE := hE.wr (Nat.le_of_eq hq155.symm) hz_ ho_
                                have hr11 := hr11.ext0 hE
                                have hOld := hOld.ext0 hE
                                have hr26 := hr26.ext0 hE
                                have hC := hC.ext0 hE
                                have hTt := hTt.ext0 hE
                                have hSt := hSt.ext0 hE
                                have hr49 := hr49.ext0 hE
                                have hr92 := hr92.ext0 hE
                                have hr129 := hr129.ext0 hE
                                have hr132 := hr132.ext0 hE
                                have hf136T := hf136T.ext0 hE
                                have hr148 := hr148.ext0 hE
                                have hf151T := hf151T.ext0 hE
                                have hB21 := hB21.tr (hE.z h)
                                have hB40 := hB40.tr (hE.z h)
                                have hO := hO.ext0 hE
                                have hr161 : hI cI _ H159 q153 2 (s2 ((T i) ((k + 1) % 3)) (nI nC)) := hN.cg s2_upd
                                have lt9 := hC.lt
                                have lt7 := hTt.lt
                                have lt8 := hf136T.lt
                                refine sc_cSNr (As := [.ref q152, .ref q153]) (rest := [.ref h]) F (c_X2_more l dC dI cI cZ cY (h + 1) q152 q153 ((((s_bK (T i) (s_side (s_more C nC (s3 x y z)) (T i) x y) (nI nC) (s_b1 (T i) (s_bO (s_more C nC (s3 x y z)) x y (nI nC) T (nT, T, nS, S) i)) k).2.2.1) - 1) + 1) 2 (s_more (s_less ((s_bK (T i) (s_side (s_more C nC (s3 x y z)) (T i) x y) (nI nC) (s_b1 (T i) (s_bO (s_more C nC (s3 x y z)) x y (nI nC) T (nT, T, nS, S) i)) k).2.2.2) j) (((s_bK (T i) (s_side (s_more C nC (s3 x y z)) (T i) x y) (nI nC) (s_b1 (T i) (s_bO (s_more C nC (s3 x y z)) x y (nI nC) T (nT, T, nS, S) i)) k).2.2.1) - 1) (s2 ((T i) k) (nI nC))) (s2 ((T i) ((k + 1) % 3)) (nI nC)) (by omega) H159.size) (cwS 2 hts gX2_build_X2_more rfl rfl rfl hd_X2_more ⟨Nat.le_of_ble_eq_true rfl, Nat.le_of_ble_eq_true rfl⟩) ⟨hf151T, hr161, (Nat.succ_le_of_lt hO.lt)⟩ hK hS hA rfl hl.1 rfl (lv_room (Nat.le_of_ble_eq_true rfl)) dX2_build_255 ⟨(by first | exact Nat.le_of_ble_eq_true rfl | omega | (dsimp only; omega)), (by first | exact Nat.le_of_ble_eq_true rfl | omega | (dsimp only; omega))⟩ (fun q165 H162 locs163 hf164 hE hS => ?_)
                                have hr11 := hr11.ext0 hE
                                have hOld := hOld.ext0 hE
                                have hr26 := hr26.ext0 hE
                                have hC := hC.ext0 hE
                                have hTt := hTt.ext0 hE
                                have hSt := hSt.ext0 hE
                                have hr49 := hr49.ext0 hE
                                have hr92 := hr92.ext0 hE
                                have hr129 := hr129.ext0 hE
                                have hr132 := hr132.ext0 hE
                                have hf136T := hf136T.ext0 hE
                                have hr148 := hr148.ext0 hE
                                have hf151T := hf151T.ext0 hE
                                have hr161 := hr161.ext0 hE
                                have hB21 := hB21.tr (hE.z h)
                                have hB40 := hB40.tr (hE.z h)
                                have hO := hO.ext0 hE
                                have hf164T := hf164.T
                                refine sx_put (k := 2) (v := .ref q165) (ty := .array (.array .int)) hx hb hts in_X2_build_X2 hown hK.1 hO hS hAh (hts (.fieldLink RX2 18 "MoorTrianglesLaw$Sim" "stays" "[[I") fl_X2_build_18) (by decide) rfl rfl (by rfl) (by rfl) rfl rfl dX2_build_258 (fun H166 locs167 hO hZ hS => ?_)
                                have hO : sO (dC, dI) H166 h qc1 qt1 q165 fl := hO
                                have hr11 := hr11.extZ hZ
                                have hOld := hOld.extZ hZ
                                have hr26 := hr26.extZ hZ
                                have hC := hC.extZ hZ
                                have hTt := hTt.extZ hZ
                                have hSt := hSt.extZ hZ
                                have hr49 := hr49.extZ hZ
                                have hr92 := hr92.extZ hZ
                                have hr129 := hr129.extZ hZ
                                have hr132 := hr132.extZ hZ
                                have hf136T := hf136T.extZ hZ
                                have hr148 := hr148.extZ hZ
                                have hf151T := hf151T.extZ hZ
                                have hr161 := hr161.extZ hZ
                                have hf164T := hf164T.extZ hZ
                                have hB21 := hB21.tr hZ
                                have hB40 := hB40.tr hZ
                                have hn2 : qc1 ≠ q165 := fun e => by have := hf164.1; omega
                                refine lv_goto (tgt := 270) hx hb dX2_build_261 (by decide) ?_
                                refine lv_iinc (v := nI (k + 1)) (lv' := [(11, .int (nI (k + 1))), (14, .int (nI j)), (13, .int ((T i) ((k + 1) % 3))), (12, .int ((T i) k)), (10, .int (s_side (s_more C nC (s3 x y z)) (T i) x y)), (9, .ref xq25), (8, .int (nI i)), (7, .int (nI nT)), (6, .ref qt), (5, .ref qt), (4, .int (nI nC)), (0, .ref h), (1, .int x), (2, .int y), (3, .int z)]) hx hb dX2_build_270 hl (k := 3) rfl (nI_1 _) (by decide) rfl (fun ls hl => ?_)
                                refine lv_goto (tgt := 92) hx hb dX2_build_273 (by decide) ?_
                                have hl := lv_sub (l' := [(11, .int (nI (k + 1))), (10, .int (s_side (s_more C nC (s3 x y z)) (T i) x y)), (9, .ref xq25), (8, .int (nI i)), (7, .int (nI nT)), (6, .ref qt), (5, .ref qt), (4, .int (nI nC)), (0, .ref h), (1, .int x), (2, .int y), (3, .int z)]) hl [0, 4, 5, 6, 7, 8, 9, 10, 11, 12, 13, 14] rfl
                                have hl : lv_has ls 15 [(11, .int (nI (k + 1))), (10, .int (s_side (s_more C nC (s3 x y z)) (T i) x y)), (9, .ref xq25), (8, .int (nI i)), (7, .int (nI nT)), (6, .ref qt), (5, .ref qt), (4, .int (nI nC)), (0, .ref h), (1, .int x), (2, .int y), (3, .int z)] := by
                                  have e9 : [(11, .int (nI (k + 1))), (10, .int (s_side (s_more C nC (s3 x y z)) (T i) x y)), (9, .ref xq25), (8, .int (nI i)), (7, .int (nI nT)), (6, .ref qt), (5, .ref qt), (4, .int (nI nC)), (0, .ref h), (1, .int x), (2, .int y), (3, .int z)] = ([(11, .int (nI (k + 1))), (10, .int (s_side (s_more C nC (s3 x y z)) (T i) x y)), (9, .ref xq25), (8, .int (nI i)), (7, .int (nI nT)), (6, .ref qt), (5, .ref qt), (4, .int (nI nC)), (0, .ref h), (1, .int x), (2, .int y), (3, .int z)] : List (Nat × Value)) := by rfl
                                  rw [← e9]; exact hl
                                refine W.widen (show ((((((2 + 17 * i + 2 + 5 * k) + 1) + 1) + 1) + 1) + 1) ≤ 2 + 17 * i + 2 + 5 * (k + 1) from (by omega)) (show (((((((nC + 4) + (11 * V1 + 70) * i + (2 * V1 + 10) + (3 * V1 + 20) * k) + ((s_bK (T i) (s_side (s_more C nC (s3 x y z)) (T i) x y) (nI nC) (s_b1 (T i) (s_bO (s_more C nC (s3 x y z)) x y (nI nC) T (nT, T, nS, S) i)) k).2.2.1)) + 2) + ((((s_bK (T i) (s_side (s_more C nC (s3 x y z)) (T i) x y) (nI nC) (s_b1 (T i) (s_bO (s_more C nC (s3 x y z)) x y (nI nC) T (nT, T, nS, S) i)) k).2.2.1) - 1) + 1)) + 2) + (((((s_bK (T i) (s_side (s_more C nC (s3 x y z)) (T i) x y) (nI nC) (s_b1 (T i) (s_bO (s_more C nC (s3 x y z)) x y (nI nC) T (nT, T, nS, S) i)) k).2.2.1) - 1) + 1) + 1)) ≤ (nC + 4) + (11 * V1 + 70) * i + (2 * V1 + 10) + (3 * V1 + 20) * (k + 1) from (by omega)) ?_
                                exact ih39 (k + 1) qc1 qt1 q165 (by omega) (by omega) _ _ hB40 hS (by rw [s_bK, if_pos c_44, s_cutS_some (show s_pS (s_bK (T i) (s_side (s_more C nC (s3 x y z)) (T i) x y) (nI nC) (s_b1 (T i) (s_bO (s_more C nC (s3 x y z)) x y (nI nC) T (nT, T, nS, S) i)) k).2.2.2 (T i k) (T i ((k + 1) % 3)) j = true from by rw [s_pS, s_pr, if_pos c_50, if_neg c_93, if_pos c_130, if_pos c_133]) hbj hlt_j]; exact ⟨hO, hC, hTt, hf164T, hn1, hn2⟩)  _ hl
                              · refine lv_goto (tgt := 264) hx hb dX2_build_205 (by decide) ?_
                                refine lv_iinc (v := nI (j + 1)) (lv' := [(14, .int (nI (j + 1))), (13, .int ((T i) ((k + 1) % 3))), (12, .int ((T i) k)), (11, .int (nI k)), (10, .int (s_side (s_more C nC (s3 x y z)) (T i) x y)), (9, .ref xq25), (8, .int (nI i)), (7, .int (nI nT)), (6, .ref qt), (5, .ref qt), (4, .int (nI nC)), (0, .ref h), (1, .int x), (2, .int y), (3, .int z)]) hx hb dX2_build_264 hl (k := 0) rfl (nI_1 _) (by decide) rfl (fun ls hl => ?_)
                                refine lv_goto (tgt := 139) hx hb dX2_build_267 (by decide) ?_
                                have hl := lv_sub (l' := [(14, .int (nI (j + 1))), (13, .int ((T i) ((k + 1) % 3))), (12, .int ((T i) k)), (11, .int (nI k)), (10, .int (s_side (s_more C nC (s3 x y z)) (T i) x y)), (9, .ref xq25), (8, .int (nI i)), (7, .int (nI nT)), (6, .ref qt), (5, .ref qt), (4, .int (nI nC)), (0, .ref h), (1, .int x), (2, .int y), (3, .int z)]) hl [0, 1, 2, 3, 4, 5, 6, 7, 8, 9, 10, 11, 12, 13, 14] rfl
                                have hl : lv_has ls 15 [(14, .int (nI (j + 1))), (13, .int ((T i) ((k + 1) % 3))), (12, .int ((T i) k)), (11, .int (nI k)), (10, .int (s_side (s_more C nC (s3 x y z)) (T i) x y)), (9, .ref xq25), (8, .int (nI i)), (7, .int (nI nT)), (6, .ref qt), (5, .ref qt), (4, .int (nI nC)), (0, .ref h), (1, .int x), (2, .int y), (3, .int z)] := by
                                  have e9 : [(14, .int (nI (j + 1))), (13, .int ((T i) ((k + 1) % 3))), (12, .int ((T i) k)), (11, .int (nI k)), (10, .int (s_side (s_more C nC (s3 x y z)) (T i) x y)), (9, .ref xq25), (8, .int (nI i)), (7, .int (nI nT)), (6, .ref qt), (5, .ref qt), (4, .int (nI nC)), (0, .ref h), (1, .int x), (2, .int y), (3, .int z)] = ([(14, .int (nI (j + 1))), (13, .int ((T i) ((k + 1) % 3))), (12, .int ((T i) k)), (11, .int (nI k)), (10, .int (s_side (s_more C nC (s3 x y z)) (T i) x y)), (9, .ref xq25), (8, .int (nI i)), (7, .int (nI nT)), (6, .ref qt), (5, .ref qt), (4, .int (nI nC)), (0, .ref h), (1, .int x), (2, .int y), (3, .int z)] : List (Nat × Value)) := by rfl
                                  rw [← e9]; exact hl
                                exact ih_46 (j + 1) (by omega) (by omega) (rg_bef hbj (show s_pS (s_bK (T i) (s_side (s_more C nC (s3 x y z)) (T i) x y) (nI nC) (s_b1 (T i) (s_bO (s_more C nC (s3 x y z)) x y (nI nC) T (nT, T, nS, S) i)) k).2.2.2 (T i k) (T i ((k + 1) % 3)) j = false from by rw [s_pS, s_pr, if_pos c_50, if_neg c_93, if_pos c_130, if_neg c_133])) _ hl
                  have hl := lv_sub (l' := [(14, .int 0), (13, .int ((T i) ((k + 1) % 3))), (12, .int ((T i) k)), (11, .int (nI k)), (10, .int (s_side (s_more C nC (s3 x y z)) (T i) x y)), (9, .ref xq25), (8, .int (nI i)), (7, .int (nI nT)), (6, .ref qt), (5, .ref qt), (4, .int (nI nC)), (0, .ref h), (1, .int x), (2, .int y), (3, .int z)]) hl [0, 1, 2, 3, 4, 5, 6, 7, 8, 9, 10, 11, 12, 13, 14] rfl
                  have hl : lv_has ls 15 [(14, .int (nI 0)), (13, .int ((T i) ((k + 1) % 3))), (12, .int ((T i) k)), (11, .int (nI k)), (10, .int (s_side (s_more C nC (s3 x y z)) (T i) x y)), (9, .ref xq25), (8, .int (nI i)), (7, .int (nI nT)), (6, .ref qt), (5, .ref qt), (4, .int (nI nC)), (0, .ref h), (1, .int x), (2, .int y), (3, .int z)] := by
                    have e9 : [(14, .int 0), (13, .int ((T i) ((k + 1) % 3))), (12, .int ((T i) k)), (11, .int (nI k)), (10, .int (s_side (s_more C nC (s3 x y z)) (T i) x y)), (9, .ref xq25), (8, .int (nI i)), (7, .int (nI nT)), (6, .ref qt), (5, .ref qt), (4, .int (nI nC)), (0, .ref h), (1, .int x), (2, .int y), (3, .int z)] = ([(14, .int (nI 0)), (13, .int ((T i) ((k + 1) % 3))), (12, .int ((T i) k)), (11, .int (nI k)), (10, .int (s_side (s_more C nC (s3 x y z)) (T i) x y)), (9, .ref xq25), (8, .int (nI i)), (7, .int (nI nT)), (6, .ref qt), (5, .ref qt), (4, .int (nI nC)), (0, .ref h), (1, .int x), (2, .int y), (3, .int z)] : List (Nat × Value)) := by rfl
                    rw [← e9]; exact hl
                  exact hL139 _ 0 (Nat.lt_succ_self _) (by omega) (fun j hj => absurd hj (Nat.not_lt_zero _)) _ hl
                · refine lv_aload_n hx hb dX2_build_123 rfl (lv_at hl 10 rfl) ?_
                  refine lv_iload hx hb dX2_build_124 (lv_at hl 1 rfl) ?_
                  refine lv_iload hx hb dX2_build_126 (lv_at hl 0 rfl) ?_
                  refine lv_iload hx hb dX2_build_128 (lv_at hl 9 rfl) ?_
                  refine sc_cVHv (hh := h) (As := [.int ((T i) k), .int ((T i) ((k + 1) % 3)), .int (nI nC)]) (rest := []) F (c_X2_put l dC dI cI cZ cY h (nC + 1) (s_more C nC (s3 x y z)) ((s_bK (T i) (s_side (s_more C nC (s3 x y z)) (T i) x y) (nI nC) (s_b1 (T i) (s_bO (s_more C nC (s3 x y z)) x y (nI nC) T (nT, T, nS, S) i)) k).1) ((s_bK (T i) (s_side (s_more C nC (s3 x y z)) (T i) x y) (nI nC) (s_b1 (T i) (s_bO (s_more C nC (s3 x y z)) x y (nI nC) T (nT, T, nS, S) i)) k).2.1) ((s_bK (T i) (s_side (s_more C nC (s3 x y z)) (T i) x y) (nI nC) (s_b1 (T i) (s_bO (s_more C nC (s3 x y z)) x y (nI nC) T (nT, T, nS, S) i)) k).2.2.1) ((s_bK (T i) (s_side (s_more C nC (s3 x y z)) (T i) x y) (nI nC) (s_b1 (T i) (s_bO (s_more C nC (s3 x y z)) x y (nI nC) T (nT, T, nS, S) i)) k).2.2.2) fl ((T i) k) ((T i) ((k + 1) % 3)) (nI nC) (by omega) H41.size) (cwV 3 hts gX2_build_X2_put rfl rfl rfl hd_X2_put ⟨Nat.le_of_ble_eq_true rfl, Nat.le_of_ble_eq_true rfl⟩) ⟨qc1, qt1, qs1, hO, hC, hTt, hSt, hn1, hn2⟩ hK hS hA hAh (sM.recv hK.1 ⟨qc1, qt1, qs1, hO, hC, hTt, hSt, hn1, hn2⟩) rfl hl.1 rfl (lv_room (Nat.le_of_ble_eq_true rfl)) dX2_build_130 ⟨(by first | exact Nat.le_of_ble_eq_true rfl | omega | (dsimp only; omega)), (by first | exact Nat.le_of_ble_eq_true rfl | omega | (dsimp only; omega))⟩ (fun H168 locs169 hf170 hZ hS => ?_)
                  have hr11 := hr11.extZ hZ
                  have hOld := hOld.extZ hZ
                  have hr26 := hr26.extZ hZ
                  have hB21 := hB21.tr hZ
                  have hB40 := hB40.tr hZ
                  obtain ⟨qc172, qt172, qs172, hO, hC, hTt, hSt, hn1, hn2⟩ := hf170
                  refine lv_goto (tgt := 270) hx hb dX2_build_133 (by decide) ?_
                  refine lv_iinc (v := nI (k + 1)) (lv' := [(11, .int (nI (k + 1))), (13, .int ((T i) ((k + 1) % 3))), (12, .int ((T i) k)), (10, .int (s_side (s_more C nC (s3 x y z)) (T i) x y)), (9, .ref xq25), (8, .int (nI i)), (7, .int (nI nT)), (6, .ref qt), (5, .ref qt), (4, .int (nI nC)), (0, .ref h), (1, .int x), (2, .int y), (3, .int z)]) hx hb dX2_build_270 hl (k := 2) rfl (nI_1 _) (by decide) rfl (fun ls hl => ?_)
                  refine lv_goto (tgt := 92) hx hb dX2_build_273 (by decide) ?_
                  have hl := lv_sub (l' := [(11, .int (nI (k + 1))), (10, .int (s_side (s_more C nC (s3 x y z)) (T i) x y)), (9, .ref xq25), (8, .int (nI i)), (7, .int (nI nT)), (6, .ref qt), (5, .ref qt), (4, .int (nI nC)), (0, .ref h), (1, .int x), (2, .int y), (3, .int z)]) hl [0, 3, 4, 5, 6, 7, 8, 9, 10, 11, 12, 13] rfl
                  have hl : lv_has ls 15 [(11, .int (nI (k + 1))), (10, .int (s_side (s_more C nC (s3 x y z)) (T i) x y)), (9, .ref xq25), (8, .int (nI i)), (7, .int (nI nT)), (6, .ref qt), (5, .ref qt), (4, .int (nI nC)), (0, .ref h), (1, .int x), (2, .int y), (3, .int z)] := by
                    have e9 : [(11, .int (nI (k + 1))), (10, .int (s_side (s_more C nC (s3 x y z)) (T i) x y)), (9, .ref xq25), (8, .int (nI i)), (7, .int (nI nT)), (6, .ref qt), (5, .ref qt), (4, .int (nI nC)), (0, .ref h), (1, .int x), (2, .int y), (3, .int z)] = ([(11, .int (nI (k + 1))), (10, .int (s_side (s_more C nC (s3 x y z)) (T i) x y)), (9, .ref xq25), (8, .int (nI i)), (7, .int (nI nT)), (6, .ref qt), (5, .ref qt), (4, .int (nI nC)), (0, .ref h), (1, .int x), (2, .int y), (3, .int z)] : List (Nat × Value)) := by rfl
                    rw [← e9]; exact hl
                  refine W.widen (show ((2 + 17 * i + 2 + 5 * k) + 2) ≤ 2 + 17 * i + 2 + 5 * (k + 1) from (by omega)) (show (((nC + 4) + (11 * V1 + 70) * i + (2 * V1 + 10) + (3 * V1 + 20) * k) + (((s_bK (T i) (s_side (s_more C nC (s3 x y z)) (T i) x y) (nI nC) (s_b1 (T i) (s_bO (s_more C nC (s3 x y z)) x y (nI nC) T (nT, T, nS, S) i)) k).1) + 4)) ≤ (nC + 4) + (11 * V1 + 70) * i + (2 * V1 + 10) + (3 * V1 + 20) * (k + 1) from (by omega)) ?_
                  exact ih39 (k + 1) qc172 qt172 qs172 (by omega) (by omega) _ _ hB40 hS (by rw [s_bK, if_neg c_44]; exact ⟨hO, hC, hTt, hSt, hn1, hn2⟩)  _ hl
          have hl := lv_sub (l' := [(11, .int 0), (10, .int (s_side (s_more C nC (s3 x y z)) (T i) x y)), (9, .ref xq25), (8, .int (nI i)), (7, .int (nI nT)), (6, .ref qt), (5, .ref qt), (4, .int (nI nC)), (0, .ref h), (1, .int x), (2, .int y), (3, .int z)]) hl [0, 1, 2, 3, 4, 5, 6, 7, 8, 9, 10, 11] rfl
          have hl : lv_has ls 15 [(11, .int (nI 0)), (10, .int (s_side (s_more C nC (s3 x y z)) (T i) x y)), (9, .ref xq25), (8, .int (nI i)), (7, .int (nI nT)), (6, .ref qt), (5, .ref qt), (4, .int (nI nC)), (0, .ref h), (1, .int x), (2, .int y), (3, .int z)] := by
            have e9 : [(11, .int 0), (10, .int (s_side (s_more C nC (s3 x y z)) (T i) x y)), (9, .ref xq25), (8, .int (nI i)), (7, .int (nI nT)), (6, .ref qt), (5, .ref qt), (4, .int (nI nC)), (0, .ref h), (1, .int x), (2, .int y), (3, .int z)] = ([(11, .int (nI 0)), (10, .int (s_side (s_more C nC (s3 x y z)) (T i) x y)), (9, .ref xq25), (8, .int (nI i)), (7, .int (nI nT)), (6, .ref qt), (5, .ref qt), (4, .int (nI nC)), (0, .ref h), (1, .int x), (2, .int y), (3, .int z)] : List (Nat × Value)) := by rfl
            rw [← e9]; exact hl
          refine W.widen (show (((2 + 17 * i) + 1) + 1) ≤ 2 + 17 * i + 2 + 5 * 0 from (by omega)) (show ((((nC + 4) + (11 * V1 + 70) * i) + 2) + ((s_bO (s_more C nC (s3 x y z)) x y (nI nC) T (nT, T, nS, S) i).1)) ≤ (nC + 4) + (11 * V1 + 70) * i + (2 * V1 + 10) + (3 * V1 + 20) * 0 from (by omega)) ?_
          exact hL92_37 _ 0 qc36 qt36 qs36 (Nat.lt_succ_self _) (Nat.zero_le _) _ _ hz.rf hS ⟨hO, hC, hTt, hSt, hn1, hn2⟩  _ hl
        · refine lv_goto (tgt := 276) hx hb dX2_build_80 (by decide) ?_
          refine lv_iinc (v := nI (i + 1)) (lv' := [(8, .int (nI (i + 1))), (10, .int (s_side (s_more C nC (s3 x y z)) (T i) x y)), (9, .ref xq25), (7, .int (nI nT)), (6, .ref qt), (5, .ref qt), (4, .int (nI nC)), (0, .ref h), (1, .int x), (2, .int y), (3, .int z)]) hx hb dX2_build_276 hl (k := 2) rfl (nI_1 _) (by decide) rfl (fun ls hl => ?_)
          refine lv_goto (tgt := 51) hx hb dX2_build_279 (by decide) ?_
          have hl := lv_sub (l' := [(8, .int (nI (i + 1))), (7, .int (nI nT)), (6, .ref qt), (5, .ref qt), (4, .int (nI nC)), (0, .ref h), (1, .int x), (2, .int y), (3, .int z)]) hl [0, 3, 4, 5, 6, 7, 8, 9, 10] rfl
          have hl : lv_has ls 15 [(8, .int (nI (i + 1))), (7, .int (nI nT)), (6, .ref qt), (5, .ref qt), (4, .int (nI nC)), (0, .ref h), (1, .int x), (2, .int y), (3, .int z)] := by
            have e9 : [(8, .int (nI (i + 1))), (7, .int (nI nT)), (6, .ref qt), (5, .ref qt), (4, .int (nI nC)), (0, .ref h), (1, .int x), (2, .int y), (3, .int z)] = ([(8, .int (nI (i + 1))), (7, .int (nI nT)), (6, .ref qt), (5, .ref qt), (4, .int (nI nC)), (0, .ref h), (1, .int x), (2, .int y), (3, .int z)] : List (Nat × Value)) := by rfl
            rw [← e9]; exact hl
          refine W.widen (show ((2 + 17 * i) + 1) ≤ 2 + 17 * (i + 1) from (by omega)) (show (((nC + 4) + (11 * V1 + 70) * i) + 2) ≤ (nC + 4) + (11 * V1 + 70) * (i + 1) from (by omega)) ?_
          exact ih20 (i + 1) qc1 qt1 qs1 (by omega) (by omega) _ _ hB21 hS (by rw [s_bO, if_neg c_31]; exact ⟨hO, hC, hTt, hSt, hn1, hn2⟩)  _ hl
  have hl := lv_sub (l' := [(8, .int 0), (7, .int (nI nT)), (6, .ref qt), (5, .ref qt), (4, .int (nI nC)), (0, .ref h), (1, .int x), (2, .int y), (3, .int z)]) hl [0, 1, 2, 3, 4, 5, 6, 7, 8] rfl
  have hl : lv_has ls 15 [(8, .int (nI 0)), (7, .int (nI nT)), (6, .ref qt), (5, .ref qt), (4, .int (nI nC)), (0, .ref h), (1, .int x), (2, .int y), (3, .int z)] := by
    have e9 : [(8, .int 0), (7, .int (nI nT)), (6, .ref qt), (5, .ref qt), (4, .int (nI nC)), (0, .ref h), (1, .int x), (2, .int y), (3, .int z)] = ([(8, .int (nI 0)), (7, .int (nI nT)), (6, .ref qt), (5, .ref qt), (4, .int (nI nC)), (0, .ref h), (1, .int x), (2, .int y), (3, .int z)] : List (Nat × Value)) := by rfl
    rw [← e9]; exact hl
  refine W.widen (show ((0 + 1) + 1) ≤ 2 + 17 * 0 from (by omega)) (show ((0 + 3) + (nC + 1)) ≤ (nC + 4) + (11 * V1 + 70) * 0 from (by omega)) ?_
  exact hL51_18 _ 0 q15 qt qs (Nat.lt_succ_self _) (Nat.zero_le _) _ _ hz.rf hS ⟨hO, hf14T, hTt, hSt, hn1, hn2⟩  _ hl
