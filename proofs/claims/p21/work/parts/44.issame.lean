/-! the law's own moor: isSame, by program (gens.py) -/
theorem s_rgI (p : Nat → Bool) (j : Nat) : nI (rg_ct p (j + 1)) = nI (rg_ct p j) + bI (p j) := by
  show nI (rg_ct p j + (if p j = true then 1 else 0)) = _
  cases p j <;> simp [bI, nI_1]
theorem in_X2_isSame_X2 : ∀ w ∈ wsX20, w ∈ wsX2_isSame := by decide +kernel
theorem fl_X2_isSame_9 : (Cond.fieldLink RX2 9 "MoorTrianglesLaw$Sim" "cairns" "[[I") ∈ wsX2_isSame := by decide +kernel
theorem fl_X2_isSame_15 : (Cond.fieldLink RX2 15 "MoorTrianglesLaw$Sim" "triangles" "[[I") ∈ wsX2_isSame := by decide +kernel
theorem na_X2_isSame : (Cond.arrayClass .int) ∈ wsX2_isSame := by decide +kernel
theorem fl_X2_isSame_18 : (Cond.fieldLink RX2 18 "MoorTrianglesLaw$Sim" "stays" "[[I") ∈ wsX2_isSame := by decide +kernel
theorem fl_X2_isSame_22 : (Cond.fieldLink RX2 22 "MoorTrianglesLaw$Sim" "flips" "I") ∈ wsX2_isSame := by decide +kernel
theorem hd_X2_isSame : yX2_isSame.cls = RX2 ∧ yX2_isSame.cls ≠ "java/lang/invoke/MethodHandle" ∧ yX2_isSame.cls ≠ "java/lang/invoke/VarHandle" ∧ (parseMethodDescriptor yX2_isSame.desc).map (fun d => d.parameters.length) = some 1 := by decide +kernel
set_option maxHeartbeats 8000000 in
set_option maxRecDepth 100000 in
theorem c_X2_isSame (l : Launch) (hl0 : l.stackTraces = false) (dC : Nat → ClassId) (dI : Nat → Nat → Nat) (cI cZ cY : ClassId) (a : Nat → Nat) (B0 : Nat) (hs : Nat → Int32) (fx : Int32) (n t : Nat) (xs ys lf sy co : Nat → Int32) (n2 t2 : Nat) (xs2 ys2 lf2 sy2 co2 : Nat → Int32) (h : Nat) (nC : Nat) (C : Nat → Nat → Int32) (nT : Nat) (T : Nat → Nat → Int32) (nS : Nat) (S : Nat → Nat → Int32) (fl : Int32) (hnC : nC ≤ 16) (hnT : nT ≤ 30) (hnS : nS ≤ 1000) (hn : n ≤ 17) (h1n : 1 ≤ n) (hF : s_okF nC nT T) (hok : ∀ k : Nat, k < nT → ∀ j : Nat, j < 3 → vp_in (T k j) nC) (hcO : s_cO nT T nC ≤ 15616)
    (HEO : ∀ i b w : Nat, i < nC → b < nC → w < 5 → x_okEd n (nI i) (nI b) (nI w) = true ∧ x_eFact n xs ys lf sy (nI i) (nI b) (nI w) = s_eRow C nT T nS S (nI i) (nI b) w)
    (HTO : ∀ i w : Nat, i < nC → w < 5 → x_okTd n (nI i) (nI w) = true ∧ x_cFact n xs ys lf hs (nI i) (nI w) = s_tRow nC C nT T nS S i w)
    (HRO : ∀ k w : Nat, k < nT → w < 4 → x_okTr t (nI k) (nI w) = true ∧ x_tFact xs ys co (nI k) (nI w) = s_trI C T k w)
    (HCO : ∀ w : Nat, w < 7 → x_what (nI w) 7 = true ∧ x_cntOf n t xs ys lf sy fx (nI w) = s_cRow nC C nT T nS S fl w)
    (HM : x_mean n xs ys lf sy = FP.ddiv (FP.i2d (s_eO nC C nT T nS S nC)) (FP.i2d (nI nC)) ∧ vf_n64 (FP.ddiv (FP.i2d (s_eO nC C nT T nS S nC)) (FP.i2d (nI nC))) ∧ Op.cmpValue (FP.dcmp (FP.ddiv (FP.i2d (s_eO nC C nT T nS S nC)) (FP.i2d (nI nC))) (FP.ddiv (FP.i2d (s_eO nC C nT T nS S nC)) (FP.i2d (nI nC)))) .l = 0) (sz : Nat) : Met l yX2_isSame wsX2_isSame ({ frames := 8, cells := 51504, slots := 118801, locals := 168 }) (va_Pc [.ref h, .ref (a 0)] (lP (dC, dI) cI cZ cY B0 (lJ (dC, dI) cI cY a B0 h (hs, fx, n, t, xs, ys, lf, sy, co, n2, t2, xs2, ys2, lf2, sy2, co2) (nC, C, nT, T, nS, S, fl)) sz)) (lQi (S := Unit) (fun r _ => r = 1) (fun _ H => lJ (dC, dI) cI cY a B0 h (hs, fx, n, t, xs, ys, lf, sy, co, n2, t2, xs2, ys2, lf2, sy2, co2) (nC, C, nT, T, nS, S, fl) H) B0) 51504 118801 (fun q => B0 ≤ q) := by
  refine la_start (cc := cX2_isSame) (maxL := 13) (ret := (some .boolean)) RX2 (by decide) rfl rfl (Nat.le_of_ble_eq_true rfl) ?_
  intro p e s m below meth c ⟨hx, hb, hr, hml, hown, hts, hlocks⟩ hB ⟨hP, hD, qc, qt, qs, hO, hC, hTt, hSt, hn1, hn2⟩ hK hX9 hS ls hl
  have hA : ∀ q : Nat, s.heap.size ≤ q → B0 ≤ q := fun q z => Nat.le_trans hB z
  have F : CallFix p m c cX2_isSame 13 s ([.ref h, .ref (a 0)] : List Value).toArray wsX2_isSame RX2 := ⟨hx, hb, hml, hown, hts⟩
  have hl : lv_has ls 13 [(0, .ref h), (1, .ref (a 0))] := hl
  have hC : hT cI cY (h + 1) s.heap qc nC 3 C := hC
  have hTt : hT cI cY (h + 1) s.heap qt nT 3 T := hTt
  have hSt : hT cI cY (h + 1) s.heap qs nS 2 S := hSt
  have hO : sO (dC, dI) s.heap h qc qt qs fl := hO
  have hAh : B0 ≤ h := Nat.le_trans (hD.2 0 _ rfl).1 (Nat.le_of_lt (hD.2 0 _ rfl).2)
  refine lv_aload_n hx hb dX2_isSame_0 rfl (lv_at hl 0 rfl) ?_
  refine va_get (D := (dC, dI)) (ci := 2) (v := .ref qc) (C := RX2) (T := TX2) (N := 4) hx hb hts in_X2_isSame_X2 hown hK.1 (va_P.one hO) 0 rfl rfl 0 (by decide) (hts (.fieldLink RX2 9 "MoorTrianglesLaw$Sim" "cairns" "[[I") fl_X2_isSame_9) (fun _ h9 => h9) rfl dX2_isSame_1 ?_
  refine sx_alenT hx hb hK.1 hC dX2_isSame_4 ?_
  refine lv_istore_n (lv' := [(2, .int (nI nC)), (0, .ref h), (1, .ref (a 0))]) hx hb dX2_isSame_5 rfl hl (by decide) rfl (fun ls hl => ?_)
  refine lv_iconst (v := 0) hx hb dX2_isSame_6 (by decide) ?_
  refine lv_istore_n (lv' := [(3, .int 0), (2, .int (nI nC)), (0, .ref h), (1, .ref (a 0))]) hx hb dX2_isSame_7 rfl hl (by decide) rfl (fun ls hl => ?_)
  refine lv_iconst (v := 0) hx hb dX2_isSame_8 (by decide) ?_
  refine lv_istore (lv' := [(4, .int 0), (3, .int 0), (2, .int (nI nC)), (0, .ref h), (1, .ref (a 0))]) hx hb dX2_isSame_9 hl (by decide) rfl (fun ls hl => ?_)
  refine lv_iconst (v := 0) hx hb dX2_isSame_11 (by decide) ?_
  refine lv_istore (lv' := [(5, .int 0), (4, .int 0), (3, .int 0), (2, .int (nI nC)), (0, .ref h), (1, .ref (a 0))]) hx hb dX2_isSame_12 hl (by decide) rfl (fun ls hl => ?_)
  have hL14_1 : ∀ (k2 : Nat) (i : Nat), (nC - i) < k2 → (i ≤ nC) → ∀ (H5 : Heap) (locs6 : List Loc), hy h s.heap H5 → va_S (fun q => B0 ≤ q) s.heap H5 locs6 → va_P (dC, dI) vwCl (lW cI a (hs, fx, n, t, xs, ys, lf, sy, co, n2, t2, xs2, ys2, lf2, sy2, co2)) H5 → ∀ ls : Array Slot, lv_has ls 13 [(5, .int (nI i)), (3, .int (s_eO nC C nT T nS S i)), (4, .int (s_bdO nC C nT T nS S i)), (2, .int (nI nC)), (0, .ref h), (1, .ref (a 0))] → W p l e ({ frames := 8, cells := 51504, slots := 118801, locals := 168 } : Room) s m ([.ref h, .ref (a 0)] : List Value).toArray below meth c H5 locs6 (i * 2235) (i * 5425) (MQ below (lQi (S := Unit) (fun r _ => r = 1) (fun _ H => lJ (dC, dI) cI cY a B0 h (hs, fx, n, t, xs, ys, lf, sy, co, n2, t2, xs2, ys2, lf2, sy2, co2) (nC, C, nT, T, nS, S, fl) H) B0) ([.ref h, .ref (a 0)] : List Value).toArray s 51504 118801 (fun q => B0 ≤ q)) (F0 m 14 ls []) := by
    intro k2
    induction k2 with
    | zero => intro i hk; exact absurd hk (Nat.not_lt_zero _)
    | succ k2 ih3 =>
      intro i hk_14 hi_i H5 locs6 hB4 hS hP  ls hl
      have hC := hC.ext (hB4.up (Nat.le_succ h))
      have hTt := hTt.ext (hB4.up (Nat.le_succ h))
      have hSt := hSt.ext (hB4.up (Nat.le_succ h))
      have hO := hO.ext hB4
      refine lv_iload hx hb dX2_isSame_14 (lv_at hl 0 rfl) ?_
      refine lv_iload_n hx hb dX2_isSame_16 rfl (lv_at hl 3 rfl) ?_
      refine lv_icmp_ge (tgt := 361) hx hb dX2_isSame_17 (by decide) (fun c_7 => ?_) (fun c_7 => ?_)
      · have hge_i : nC ≤ i := nI_le_le (by omega) (by omega) c_7
        have heq_i : i = nC := by omega
        have hl : lv_has ls 13 [(5, .int (nI nC)), (3, .int (s_eO nC C nT T nS S nC)), (4, .int (s_bdO nC C nT T nS S nC)), (2, .int (nI nC)), (0, .ref h), (1, .ref (a 0))] := by rw [heq_i] at hl; exact hl
        refine lv_iconst (v := 0) hx hb dX2_isSame_361 (by decide) ?_
        refine lv_istore (lv' := [(5, .int 0), (3, .int (s_eO nC C nT T nS S nC)), (4, .int (s_bdO nC C nT T nS S nC)), (2, .int (nI nC)), (0, .ref h), (1, .ref (a 0))]) hx hb dX2_isSame_362 hl (by decide) rfl (fun ls hl => ?_)
        have hL364_8 : ∀ (k9 : Nat) (k : Nat), (nT - k) < k9 → (k ≤ nT) → ∀ (H12 : Heap) (locs13 : List Loc), hy h H5 H12 → va_S (fun q => B0 ≤ q) s.heap H12 locs13 → va_P (dC, dI) vwCl (lW cI a (hs, fx, n, t, xs, ys, lf, sy, co, n2, t2, xs2, ys2, lf2, sy2, co2)) H12 → ∀ ls : Array Slot, lv_has ls 13 [(5, .int (nI k)), (3, .int (s_eO nC C nT T nS S nC)), (4, .int (s_bdO nC C nT T nS S nC)), (2, .int (nI nC)), (0, .ref h), (1, .ref (a 0))] → W p l e ({ frames := 8, cells := 51504, slots := 118801, locals := 168 } : Room) s m ([.ref h, .ref (a 0)] : List Value).toArray below meth c H12 locs13 (35760 + k * 4) (86800 + k * 24) (MQ below (lQi (S := Unit) (fun r _ => r = 1) (fun _ H => lJ (dC, dI) cI cY a B0 h (hs, fx, n, t, xs, ys, lf, sy, co, n2, t2, xs2, ys2, lf2, sy2, co2) (nC, C, nT, T, nS, S, fl) H) B0) ([.ref h, .ref (a 0)] : List Value).toArray s 51504 118801 (fun q => B0 ≤ q)) (F0 m 364 ls []) := by
          intro k9
          induction k9 with
          | zero => intro k hk; exact absurd hk (Nat.not_lt_zero _)
          | succ k9 ih10 =>
            intro k hk_364 hi_k H12 locs13 hB11 hS hP  ls hl
            have hB4 := hB4.tr hB11
            have hC := hC.ext (hB11.up (Nat.le_succ h))
            have hTt := hTt.ext (hB11.up (Nat.le_succ h))
            have hSt := hSt.ext (hB11.up (Nat.le_succ h))
            have hO := hO.ext hB11
            refine lv_iload hx hb dX2_isSame_364 (lv_at hl 0 rfl) ?_
            refine lv_aload_n hx hb dX2_isSame_366 rfl (lv_at hl 4 rfl) ?_
            refine va_get (D := (dC, dI)) (ci := 2) (v := .ref qt) (C := RX2) (T := TX2) (N := 4) hx hb hts in_X2_isSame_X2 hown hK.1 (va_P.one hO) 0 rfl rfl 1 (by decide) (hts (.fieldLink RX2 15 "MoorTrianglesLaw$Sim" "triangles" "[[I") fl_X2_isSame_15) (fun _ h9 => h9) rfl dX2_isSame_367 ?_
            refine sx_alenT hx hb hK.1 hTt dX2_isSame_370 ?_
            refine lv_icmp_ge (tgt := 438) hx hb dX2_isSame_371 (by decide) (fun c_14 => ?_) (fun c_14 => ?_)
            · have hge_k : nT ≤ k := nI_le_le (by omega) (by omega) c_14
              have heq_k : k = nT := by omega
              have hl : lv_has ls 13 [(5, .int (nI nT)), (3, .int (s_eO nC C nT T nS S nC)), (4, .int (s_bdO nC C nT T nS S nC)), (2, .int (nI nC)), (0, .ref h), (1, .ref (a 0))] := by rw [heq_k] at hl; exact hl
              refine lv_bipush (v := 7) hx hb dX2_isSame_438 (by decide) ?_
              have hz018 := hS.1
              refine sx_newi (N := 7) hx hb (hts _ na_X2_isSame) hK.1 hS (Nat.succ_le_of_lt hO.lt) ix_7 (Nat.le_of_ble_eq_true rfl) (by first | exact Nat.le_of_ble_eq_true rfl | omega | (dsimp only; omega)) (by first | exact Nat.le_of_ble_eq_true rfl | omega | (dsimp only; omega)) dX2_isSame_440 (fun q15 H16 hq17 hE hN hS => ?_)
              refine lv_dup hx hb dX2_isSame_442 rfl ?_
              refine lv_iconst (v := 0) hx hb dX2_isSame_443 (by decide) ?_
              refine lv_iload_n hx hb dX2_isSame_444 rfl (lv_at hl 3 rfl) ?_
              refine sx_iast hx hb hK.1 hS hN (hA q15 (by rw [hq17]; exact hz018)) ix_0 (by decide) dX2_isSame_445 (fun H19 locs20 hN hz_ ho_ hS => ?_)
              have hE := hE.wr (Nat.le_of_eq hq17.symm) hz_ ho_
              refine lv_dup hx hb dX2_isSame_446 rfl ?_
              refine lv_iconst (v := 1) hx hb dX2_isSame_447 (by decide) ?_
              refine lv_aload_n hx hb dX2_isSame_448 rfl (lv_at hl 4 rfl) ?_
              refine va_get (D := (dC, dI)) (ci := 2) (v := .ref qt) (C := RX2) (T := TX2) (N := 4) hx hb hts in_X2_isSame_X2 hown hK.1 (va_P.one (hO.ext0 hE)) 0 rfl rfl 1 (by decide) (hts (.fieldLink RX2 15 "MoorTrianglesLaw$Sim" "triangles" "[[I") fl_X2_isSame_15) (fun _ h9 => h9) rfl dX2_isSame_449 ?_
              refine sx_alenT hx hb hK.1 (hTt.ext0 hE) dX2_isSame_452 ?_
              refine sx_iast hx hb hK.1 hS hN (hA q15 (by rw [hq17]; exact hz018)) ix_1 (by decide) dX2_isSame_453 (fun H21 locs22 hN hz_ ho_ hS => ?_)
              have hE := hE.wr (Nat.le_of_eq hq17.symm) hz_ ho_
              refine lv_dup hx hb dX2_isSame_454 rfl ?_
              refine lv_iconst (v := 2) hx hb dX2_isSame_455 (by decide) ?_
              refine lv_iload_n hx hb dX2_isSame_456 rfl (lv_at hl 1 rfl) ?_
              refine lv_iconst (v := 2) hx hb dX2_isSame_457 (by decide) ?_
              refine lv_idiv hx hb dX2_isSame_458 (by decide) ?_
              refine sx_iast hx hb hK.1 hS hN (hA q15 (by rw [hq17]; exact hz018)) ix_2 (by decide) dX2_isSame_459 (fun H23 locs24 hN hz_ ho_ hS => ?_)
              have hE := hE.wr (Nat.le_of_eq hq17.symm) hz_ ho_
              refine lv_dup hx hb dX2_isSame_460 rfl ?_
              refine lv_iconst (v := 3) hx hb dX2_isSame_461 (by decide) ?_
              refine lv_iload hx hb dX2_isSame_462 (lv_at hl 2 rfl) ?_
              refine lv_iconst (v := 2) hx hb dX2_isSame_464 (by decide) ?_
              refine lv_idiv hx hb dX2_isSame_465 (by decide) ?_
              refine sx_iast hx hb hK.1 hS hN (hA q15 (by rw [hq17]; exact hz018)) ix_3 (by decide) dX2_isSame_466 (fun H25 locs26 hN hz_ ho_ hS => ?_)
              have hE := hE.wr (Nat.le_of_eq hq17.symm) hz_ ho_
              refine lv_dup hx hb dX2_isSame_467 rfl ?_
              refine lv_iconst (v := 4) hx hb dX2_isSame_468 (by decide) ?_
              refine lv_aload_n hx hb dX2_isSame_469 rfl (lv_at hl 4 rfl) ?_
              refine va_get (D := (dC, dI)) (ci := 2) (v := .ref qs) (C := RX2) (T := TX2) (N := 4) hx hb hts in_X2_isSame_X2 hown hK.1 (va_P.one (hO.ext0 hE)) 0 rfl rfl 2 (by decide) (hts (.fieldLink RX2 18 "MoorTrianglesLaw$Sim" "stays" "[[I") fl_X2_isSame_18) (fun _ h9 => h9) rfl dX2_isSame_470 ?_
              refine sx_alenT hx hb hK.1 (hSt.ext0 hE) dX2_isSame_473 ?_
              refine sx_iast hx hb hK.1 hS hN (hA q15 (by rw [hq17]; exact hz018)) ix_4 (by decide) dX2_isSame_474 (fun H27 locs28 hN hz_ ho_ hS => ?_)
              have hE := hE.wr (Nat.le_of_eq hq17.symm) hz_ ho_
              refine lv_dup hx hb dX2_isSame_475 rfl ?_
              refine lv_iconst (v := 5) hx hb dX2_isSame_476 (by decide) ?_
              refine lv_aload_n hx hb dX2_isSame_477 rfl (lv_at hl 4 rfl) ?_
              refine sc_cVNi (As := []) (rest := [.int 5, .ref q15, .ref q15]) F (c_X2_unfair l dC dI cI cZ cY h nC C nT T nS S fl (by omega) (by omega) hF H27.size) (cwV 0 hts gX2_isSame_X2_unfair rfl rfl rfl hd_X2_unfair ⟨Nat.le_of_ble_eq_true rfl, Nat.le_of_ble_eq_true rfl⟩) ⟨qc, qt, qs, (hO.ext0 hE), (hC.ext0 hE), (hTt.ext0 hE), (hSt.ext0 hE), hn1, hn2⟩ hK hS hA (sM.recv hK.1 ⟨qc, qt, qs, (hO.ext0 hE), (hC.ext0 hE), (hTt.ext0 hE), (hSt.ext0 hE), hn1, hn2⟩) rfl hl.1 rfl (lv_room (Nat.le_of_ble_eq_true rfl)) dX2_isSame_478 ⟨(by first | exact Nat.le_of_ble_eq_true rfl | omega | (dsimp only; omega)), (by first | exact Nat.le_of_ble_eq_true rfl | omega | (dsimp only; omega))⟩ (fun H29 locs30 hf31 hE2 hS => ?_)
              have hN := hN.ext0 hE2
              have hE := hE.tr hE2
              refine sx_iast hx hb hK.1 hS hN (hA q15 (by rw [hq17]; exact hz018)) ix_5 (by decide) dX2_isSame_481 (fun H33 locs34 hN hz_ ho_ hS => ?_)
              have hE := hE.wr (Nat.le_of_eq hq17.symm) hz_ ho_
              refine lv_dup hx hb dX2_isSame_482 rfl ?_
              refine lv_bipush (v := 6) hx hb dX2_isSame_483 (by decide) ?_
              refine lv_aload_n hx hb dX2_isSame_485 rfl (lv_at hl 4 rfl) ?_
              refine va_get (D := (dC, dI)) (ci := 2) (v := .int fl) (C := RX2) (T := TX2) (N := 4) hx hb hts in_X2_isSame_X2 hown hK.1 (va_P.one (hO.ext0 hE)) 0 rfl rfl 3 (by decide) (hts (.fieldLink RX2 22 "MoorTrianglesLaw$Sim" "flips" "I") fl_X2_isSame_22) (fun _ h9 => h9) rfl dX2_isSame_486 ?_
              refine sx_iast hx hb hK.1 hS hN (hA q15 (by rw [hq17]; exact hz018)) ix_6 (by decide) dX2_isSame_489 (fun H35 locs36 hN hz_ ho_ hS => ?_)
              have hE := hE.wr (Nat.le_of_eq hq17.symm) hz_ ho_
              have hC := hC.ext0 hE
              have hTt := hTt.ext0 hE
              have hSt := hSt.ext0 hE
              have hB4 := hB4.tr (hE.up (Nat.zero_le _))
              have hB11 := hB11.tr (hE.up (Nat.zero_le _))
              have hO := hO.ext0 hE
              have hP := hP.hy0 hE
              have hr37 : hI cI _ H35 q15 7 (upd (upd (upd (upd (upd (upd (upd (fun _ => 0) 0 (nI nC)) 1 (nI nT)) 2 ((s_eO nC C nT T nS S nC) / 2)) 3 ((s_bdO nC C nT T nS S nC) / 2)) 4 (nI nS)) 5 (nI (s_uN C nT T nC))) 6 fl) := hN
              have hr37 : hI cI (h + 1) H35 q15 7 (s_cRow nC C nT T nS S fl) := hr37
              refine lv_astore (lv' := [(5, .ref q15), (3, .int (s_eO nC C nT T nS S nC)), (4, .int (s_bdO nC C nT T nS S nC)), (2, .int (nI nC)), (0, .ref h), (1, .ref (a 0))]) hx hb dX2_isSame_490 hl (by decide) rfl (fun ls hl => ?_)
              refine lv_iconst (v := 0) hx hb dX2_isSame_492 (by decide) ?_
              refine lv_istore (lv' := [(6, .int 0), (5, .ref q15), (3, .int (s_eO nC C nT T nS S nC)), (4, .int (s_bdO nC C nT T nS S nC)), (2, .int (nI nC)), (0, .ref h), (1, .ref (a 0))]) hx hb dX2_isSame_493 hl (by decide) rfl (fun ls hl => ?_)
              have hL495_38 : ∀ (k39 : Nat) (w : Nat), (7 - w) < k39 → (w ≤ 7) → ∀ (H42 : Heap) (locs43 : List Loc), hy h H35 H42 → va_S (fun q => B0 ≤ q) s.heap H42 locs43 → va_P (dC, dI) vwCl (lW cI a (hs, fx, n, t, xs, ys, lf, sy, co, n2, t2, xs2, ys2, lf2, sy2, co2)) H42 → ∀ ls : Array Slot, lv_has ls 13 [(6, .int (nI w)), (5, .ref q15), (3, .int (s_eO nC C nT T nS S nC)), (4, .int (s_bdO nC C nT T nS S nC)), (2, .int (nI nC)), (0, .ref h), (1, .ref (a 0))] → W p l e ({ frames := 8, cells := 51504, slots := 118801, locals := 168 } : Room) s m ([.ref h, .ref (a 0)] : List Value).toArray below meth c H42 locs43 (35881 + s_cO nT T nC + w) (87527 + 2 * s_cO nT T nC + w * 6) (MQ below (lQi (S := Unit) (fun r _ => r = 1) (fun _ H => lJ (dC, dI) cI cY a B0 h (hs, fx, n, t, xs, ys, lf, sy, co, n2, t2, xs2, ys2, lf2, sy2, co2) (nC, C, nT, T, nS, S, fl) H) B0) ([.ref h, .ref (a 0)] : List Value).toArray s 51504 118801 (fun q => B0 ≤ q)) (F0 m 495 ls []) := by
                intro k39
                induction k39 with
                | zero => intro w hk; exact absurd hk (Nat.not_lt_zero _)
                | succ k39 ih40 =>
                  intro w hk_495 hi_w H42 locs43 hB41 hS hP  ls hl
                  have hB4 := hB4.tr hB41
                  have hB11 := hB11.tr hB41
                  have hC := hC.ext (hB41.up (Nat.le_succ h))
                  have hTt := hTt.ext (hB41.up (Nat.le_succ h))
                  have hSt := hSt.ext (hB41.up (Nat.le_succ h))
                  have hr37 := hr37.ext (hB41.up (Nat.le_succ h))
                  have hO := hO.ext hB41
                  refine lv_iload hx hb dX2_isSame_495 (lv_at hl 0 rfl) ?_
                  refine lv_bipush (v := 7) hx hb dX2_isSame_497 (by decide) ?_
                  refine lv_icmp_ge (tgt := 524) hx hb dX2_isSame_499 (by decide) (fun c_44 => ?_) (fun c_44 => ?_)
                  · have hge_w : 7 ≤ w := nI_le_le (by omega) (by omega) c_44
                    have heq_w : w = 7 := by omega
                    have hl : lv_has ls 13 [(6, .int (nI 7)), (5, .ref q15), (3, .int (s_eO nC C nT T nS S nC)), (4, .int (s_bdO nC C nT T nS S nC)), (2, .int (nI nC)), (0, .ref h), (1, .ref (a 0))] := by rw [heq_w] at hl; exact hl
                    refine lv_aload_n hx hb dX2_isSame_524 rfl (lv_at hl 6 rfl) ?_
                    refine lc_rd (As := []) (rest := []) F (c_X1_mean l dC dI cI cZ cY (a 0) (a 1) hs fx (a 2) (a 3) (a 4) (a 5) (a 6) (a 7) n t xs ys lf sy co (a 8) (a 9) (a 10) (a 11) (a 12) (a 13) n2 t2 xs2 ys2 lf2 sy2 co2 hn h1n) (cwV 0 hts gX2_isSame_X1_mean rfl rfl rfl hd_X1_mean ⟨Nat.le_of_ble_eq_true rfl, Nat.le_of_ble_eq_true rfl⟩) hP hK (lW_recv hK.1 hP) rfl hl.1 rfl (lv_room (Nat.le_of_ble_eq_true rfl)) dX2_isSame_525 ⟨(by first | exact Nat.le_of_ble_eq_true rfl | omega | (dsimp only; omega)), (by first | exact Nat.le_of_ble_eq_true rfl | omega | (dsimp only; omega))⟩ ?_
                    refine lv_iload_n hx hb dX2_isSame_528 rfl (lv_at hl 2 rfl) ?_
                    refine lv_i2d hx hb dX2_isSame_529 ?_
                    refine lv_iload_n hx hb dX2_isSame_530 rfl (lv_at hl 4 rfl) ?_
                    refine lv_i2d hx hb dX2_isSame_531 ?_
                    refine lv_ddiv hx hb dX2_isSame_532 HM.2.1 ?_
                    refine lv_dcmp hx hb dX2_isSame_533 ?_
                    refine lv_if_ne (tgt := 541) hx hb dX2_isSame_534 (by decide) (fun c_45 => ?_) (fun c_45 => ?_)
                    · exact absurd (by rw [HM.1]; exact HM.2.2) c_45
                    · refine lv_iconst (v := 1) hx hb dX2_isSame_537 (by decide) ?_
                      refine lv_goto (tgt := 542) hx hb dX2_isSame_538 (by decide) ?_
                      exact la_zret (S := Unit) () (b := true) hx hb hr hlocks rfl rfl ⟨hP, hD, ⟨qc, qt, qs, hO, hC, hTt, hSt, hn1, hn2⟩⟩ hS (by first | exact Nat.le_of_ble_eq_true rfl | omega | (dsimp only; omega)) (by first | exact Nat.le_of_ble_eq_true rfl | omega | (dsimp only; omega)) dX2_isSame_542
                  · have hlt_w : w < 7 := nI_nle_lt (by omega) (by omega) c_44
                    refine lv_aload_n hx hb dX2_isSame_502 rfl (lv_at hl 6 rfl) ?_
                    refine lv_iload hx hb dX2_isSame_503 (lv_at hl 0 rfl) ?_
                    refine lc_xi (As := [.int (nI w)]) (rest := []) hX9 F (c_X1_count l hl0 dC dI cI cZ cY (a 0) (a 1) hs fx (a 2) (a 3) (a 4) (a 5) (a 6) (a 7) n t xs ys lf sy co (a 8) (a 9) (a 10) (a 11) (a 12) (a 13) n2 t2 xs2 ys2 lf2 sy2 co2 (nI w) H42.size hn) (cwV 1 hts gX2_isSame_X1_count rfl rfl rfl hd_X1_count ⟨Nat.le_of_ble_eq_true rfl, Nat.le_of_ble_eq_true rfl⟩) (HCO w hlt_w).1 rfl hP hK hD hS hB (lW_recv hK.1 hP) rfl hl.1 rfl (lv_room (Nat.le_of_ble_eq_true rfl)) dX2_isSame_505 ⟨(by first | exact Nat.le_of_ble_eq_true rfl | omega | (dsimp only; omega)), (by first | exact Nat.le_of_ble_eq_true rfl | omega | (dsimp only; omega))⟩ (fun H46 locs47 hP hD hY hS => ?_)
                    have hC := hC.ext (hY.up (Nat.le_succ h))
                    have hTt := hTt.ext (hY.up (Nat.le_succ h))
                    have hSt := hSt.ext (hY.up (Nat.le_succ h))
                    have hr37 := hr37.ext (hY.up (Nat.le_succ h))
                    have hO := hO.ext hY
                    have hB4 := hB4.tr hY
                    have hB11 := hB11.tr hY
                    have hB41 := hB41.tr hY
                    refine lv_aload hx hb dX2_isSame_508 (lv_at hl 1 rfl) ?_
                    refine lv_iload hx hb dX2_isSame_510 (lv_at hl 0 rfl) ?_
                    refine sx_iald hx hb hK.1 hr37 (ix_nI (by omega)) hlt_w dX2_isSame_512 ?_
                    refine lv_icmp_eq (tgt := 518) hx hb dX2_isSame_513 (by decide) (fun c_48 => ?_) (fun c_48 => ?_)
                    · refine lv_iinc (v := nI (w + 1)) (lv' := [(6, .int (nI (w + 1))), (5, .ref q15), (3, .int (s_eO nC C nT T nS S nC)), (4, .int (s_bdO nC C nT T nS S nC)), (2, .int (nI nC)), (0, .ref h), (1, .ref (a 0))]) hx hb dX2_isSame_518 hl (k := 0) rfl (nI_1 _) (by decide) rfl (fun ls hl => ?_)
                      refine lv_goto (tgt := 495) hx hb dX2_isSame_521 (by decide) ?_
                      have hl := lv_sub (l' := [(6, .int (nI (w + 1))), (5, .ref q15), (3, .int (s_eO nC C nT T nS S nC)), (4, .int (s_bdO nC C nT T nS S nC)), (2, .int (nI nC)), (0, .ref h), (1, .ref (a 0))]) hl [0, 1, 2, 3, 4, 5, 6] rfl
                      have hl : lv_has ls 13 [(6, .int (nI (w + 1))), (5, .ref q15), (3, .int (s_eO nC C nT T nS S nC)), (4, .int (s_bdO nC C nT T nS S nC)), (2, .int (nI nC)), (0, .ref h), (1, .ref (a 0))] := by
                        have e9 : [(6, .int (nI (w + 1))), (5, .ref q15), (3, .int (s_eO nC C nT T nS S nC)), (4, .int (s_bdO nC C nT T nS S nC)), (2, .int (nI nC)), (0, .ref h), (1, .ref (a 0))] = ([(6, .int (nI (w + 1))), (5, .ref q15), (3, .int (s_eO nC C nT T nS S nC)), (4, .int (s_bdO nC C nT T nS S nC)), (2, .int (nI nC)), (0, .ref h), (1, .ref (a 0))] : List (Nat × Value)) := by rfl
                        rw [← e9]; exact hl
                      refine W.widen (show ((35881 + s_cO nT T nC + w) + 1) ≤ 35881 + s_cO nT T nC + (w + 1) from (by omega)) (show ((87527 + 2 * s_cO nT T nC + w * 6) + 6) ≤ 87527 + 2 * s_cO nT T nC + (w + 1) * 6 from (by omega)) ?_
                      exact ih40 (w + 1) (by omega) (by omega) _ _ hB41 hS hP  _ hl
                    · exact absurd (HCO w hlt_w).2 c_48
              have hl := lv_sub (l' := [(6, .int 0), (5, .ref q15), (3, .int (s_eO nC C nT T nS S nC)), (4, .int (s_bdO nC C nT T nS S nC)), (2, .int (nI nC)), (0, .ref h), (1, .ref (a 0))]) hl [0, 1, 2, 3, 4, 5, 6] rfl
              have hl : lv_has ls 13 [(6, .int (nI 0)), (5, .ref q15), (3, .int (s_eO nC C nT T nS S nC)), (4, .int (s_bdO nC C nT T nS S nC)), (2, .int (nI nC)), (0, .ref h), (1, .ref (a 0))] := by
                have e9 : [(6, .int 0), (5, .ref q15), (3, .int (s_eO nC C nT T nS S nC)), (4, .int (s_bdO nC C nT T nS S nC)), (2, .int (nI nC)), (0, .ref h), (1, .ref (a 0))] = ([(6, .int (nI 0)), (5, .ref q15), (3, .int (s_eO nC C nT T nS S nC)), (4, .int (s_bdO nC C nT T nS S nC)), (2, .int (nI nC)), (0, .ref h), (1, .ref (a 0))] : List (Nat × Value)) := by rfl
                rw [← e9]; exact hl
              refine W.widen (show (((35760 + k * 4) + 1) + (s_cO nT T nC)) ≤ 35881 + s_cO nT T nC + 0 from (by omega)) (show (((86800 + k * 24) + 7) + (2 * s_cO nT T nC)) ≤ 87527 + 2 * s_cO nT T nC + 0 * 6 from (by omega)) ?_
              exact hL495_38 _ 0 (Nat.lt_succ_self _) (by omega) _ _ hy.rf hS hP  _ hl
            · have hlt_k : k < nT := nI_nle_lt (by omega) (by omega) c_14
              refine lv_iconst (v := 0) hx hb dX2_isSame_374 (by decide) ?_
              refine lv_istore (lv' := [(6, .int 0), (5, .int (nI k)), (3, .int (s_eO nC C nT T nS S nC)), (4, .int (s_bdO nC C nT T nS S nC)), (2, .int (nI nC)), (0, .ref h), (1, .ref (a 0))]) hx hb dX2_isSame_375 hl (by decide) rfl (fun ls hl => ?_)
              have hL377_49 : ∀ (k50 : Nat) (w : Nat), (4 - w) < k50 → (w ≤ 4) → ∀ (H53 : Heap) (locs54 : List Loc), hy h H12 H53 → va_S (fun q => B0 ≤ q) s.heap H53 locs54 → va_P (dC, dI) vwCl (lW cI a (hs, fx, n, t, xs, ys, lf, sy, co, n2, t2, xs2, ys2, lf2, sy2, co2)) H53 → ∀ ls : Array Slot, lv_has ls 13 [(6, .int (nI w)), (5, .int (nI k)), (3, .int (s_eO nC C nT T nS S nC)), (4, .int (s_bdO nC C nT T nS S nC)), (2, .int (nI nC)), (0, .ref h), (1, .ref (a 0))] → W p l e ({ frames := 8, cells := 51504, slots := 118801, locals := 168 } : Room) s m ([.ref h, .ref (a 0)] : List Value).toArray below meth c H53 locs54 (35760 + k * 4 + w) (86800 + k * 24 + w * 6) (MQ below (lQi (S := Unit) (fun r _ => r = 1) (fun _ H => lJ (dC, dI) cI cY a B0 h (hs, fx, n, t, xs, ys, lf, sy, co, n2, t2, xs2, ys2, lf2, sy2, co2) (nC, C, nT, T, nS, S, fl) H) B0) ([.ref h, .ref (a 0)] : List Value).toArray s 51504 118801 (fun q => B0 ≤ q)) (F0 m 377 ls []) := by
                intro k50
                induction k50 with
                | zero => intro w hk; exact absurd hk (Nat.not_lt_zero _)
                | succ k50 ih51 =>
                  intro w hk_377 hi_w H53 locs54 hB52 hS hP  ls hl
                  have hB4 := hB4.tr hB52
                  have hB11 := hB11.tr hB52
                  have hC := hC.ext (hB52.up (Nat.le_succ h))
                  have hTt := hTt.ext (hB52.up (Nat.le_succ h))
                  have hSt := hSt.ext (hB52.up (Nat.le_succ h))
                  have hO := hO.ext hB52
                  refine lv_iload hx hb dX2_isSame_377 (lv_at hl 0 rfl) ?_
                  refine lv_iconst (v := 4) hx hb dX2_isSame_379 (by decide) ?_
                  refine lv_icmp_ge (tgt := 432) hx hb dX2_isSame_380 (by decide) (fun c_55 => ?_) (fun c_55 => ?_)
                  · have hge_w : 4 ≤ w := nI_le_le (by omega) (by omega) c_55
                    have heq_w : w = 4 := by omega
                    have hl : lv_has ls 13 [(6, .int (nI 4)), (5, .int (nI k)), (3, .int (s_eO nC C nT T nS S nC)), (4, .int (s_bdO nC C nT T nS S nC)), (2, .int (nI nC)), (0, .ref h), (1, .ref (a 0))] := by rw [heq_w] at hl; exact hl
                    refine lv_iinc (v := nI (k + 1)) (lv' := [(5, .int (nI (k + 1))), (6, .int (nI 4)), (3, .int (s_eO nC C nT T nS S nC)), (4, .int (s_bdO nC C nT T nS S nC)), (2, .int (nI nC)), (0, .ref h), (1, .ref (a 0))]) hx hb dX2_isSame_432 hl (k := 1) rfl (nI_1 _) (by decide) rfl (fun ls hl => ?_)
                    refine lv_goto (tgt := 364) hx hb dX2_isSame_435 (by decide) ?_
                    have hl := lv_sub (l' := [(5, .int (nI (k + 1))), (3, .int (s_eO nC C nT T nS S nC)), (4, .int (s_bdO nC C nT T nS S nC)), (2, .int (nI nC)), (0, .ref h), (1, .ref (a 0))]) hl [0, 2, 3, 4, 5, 6] rfl
                    have hl : lv_has ls 13 [(5, .int (nI (k + 1))), (3, .int (s_eO nC C nT T nS S nC)), (4, .int (s_bdO nC C nT T nS S nC)), (2, .int (nI nC)), (0, .ref h), (1, .ref (a 0))] := by
                      have e9 : [(5, .int (nI (k + 1))), (3, .int (s_eO nC C nT T nS S nC)), (4, .int (s_bdO nC C nT T nS S nC)), (2, .int (nI nC)), (0, .ref h), (1, .ref (a 0))] = ([(5, .int (nI (k + 1))), (3, .int (s_eO nC C nT T nS S nC)), (4, .int (s_bdO nC C nT T nS S nC)), (2, .int (nI nC)), (0, .ref h), (1, .ref (a 0))] : List (Nat × Value)) := by rfl
                      rw [← e9]; exact hl
                    refine W.widen (show (35760 + k * 4 + w) ≤ 35760 + (k + 1) * 4 from (by omega)) (show (86800 + k * 24 + w * 6) ≤ 86800 + (k + 1) * 24 from (by omega)) ?_
                    exact ih10 (k + 1) (by omega) (by omega) _ _ hB11 hS hP  _ hl
                  · have hlt_w : w < 4 := nI_nle_lt (by omega) (by omega) c_55
                    refine lv_aload_n hx hb dX2_isSame_383 rfl (lv_at hl 6 rfl) ?_
                    refine lv_iload hx hb dX2_isSame_384 (lv_at hl 1 rfl) ?_
                    refine lv_iload hx hb dX2_isSame_386 (lv_at hl 0 rfl) ?_
                    refine lc_xi (As := [.int (nI k), .int (nI w)]) (rest := []) hX9 F (c_X1_triangle l hl0 dC dI cI cZ cY (a 0) (a 1) hs fx (a 2) (a 3) (a 4) (a 5) (a 6) (a 7) n t xs ys lf sy co (a 8) (a 9) (a 10) (a 11) (a 12) (a 13) n2 t2 xs2 ys2 lf2 sy2 co2 (nI k) (nI w) H53.size ) (cwV 2 hts gX2_isSame_X1_triangle rfl rfl rfl hd_X1_triangle ⟨Nat.le_of_ble_eq_true rfl, Nat.le_of_ble_eq_true rfl⟩) (HRO k w hlt_k hlt_w).1 rfl hP hK hD hS hB (lW_recv hK.1 hP) rfl hl.1 rfl (lv_room (Nat.le_of_ble_eq_true rfl)) dX2_isSame_388 ⟨(by first | exact Nat.le_of_ble_eq_true rfl | omega | (dsimp only; omega)), (by first | exact Nat.le_of_ble_eq_true rfl | omega | (dsimp only; omega))⟩ (fun H56 locs57 hP hD hY hS => ?_)
                    have hC := hC.ext (hY.up (Nat.le_succ h))
                    have hTt := hTt.ext (hY.up (Nat.le_succ h))
                    have hSt := hSt.ext (hY.up (Nat.le_succ h))
                    have hO := hO.ext hY
                    have hB4 := hB4.tr hY
                    have hB11 := hB11.tr hY
                    have hB52 := hB52.tr hY
                    refine lv_iload hx hb dX2_isSame_391 (lv_at hl 0 rfl) ?_
                    refine lv_iconst (v := 3) hx hb dX2_isSame_393 (by decide) ?_
                    have hj394 : W p l e ({ frames := 8, cells := 51504, slots := 118801, locals := 168 } : Room) s m ([.ref h, .ref (a 0)] : List Value).toArray below meth c H56 locs57 ((35760 + k * 4 + w) + 1) ((86800 + k * 24 + w * 6) + 6) (MQ below (lQi (S := Unit) (fun r _ => r = 1) (fun _ H => lJ (dC, dI) cI cY a B0 h (hs, fx, n, t, xs, ys, lf, sy, co, n2, t2, xs2, ys2, lf2, sy2, co2) (nC, C, nT, T, nS, S, fl) H) B0) ([.ref h, .ref (a 0)] : List Value).toArray s 51504 118801 (fun q => B0 ≤ q)) (F0 m 421 ls [.int (s_trI C T k w), .int (x_tFact xs ys co (nI k) (nI w))]) := by
                      refine lv_icmp_eq (tgt := 426) hx hb dX2_isSame_421 (by decide) (fun c_58 => ?_) (fun c_58 => ?_)
                      · refine lv_iinc (v := nI (w + 1)) (lv' := [(6, .int (nI (w + 1))), (5, .int (nI k)), (3, .int (s_eO nC C nT T nS S nC)), (4, .int (s_bdO nC C nT T nS S nC)), (2, .int (nI nC)), (0, .ref h), (1, .ref (a 0))]) hx hb dX2_isSame_426 hl (k := 0) rfl (nI_1 _) (by decide) rfl (fun ls hl => ?_)
                        refine lv_goto (tgt := 377) hx hb dX2_isSame_429 (by decide) ?_
                        have hl := lv_sub (l' := [(6, .int (nI (w + 1))), (5, .int (nI k)), (3, .int (s_eO nC C nT T nS S nC)), (4, .int (s_bdO nC C nT T nS S nC)), (2, .int (nI nC)), (0, .ref h), (1, .ref (a 0))]) hl [0, 1, 2, 3, 4, 5, 6] rfl
                        have hl : lv_has ls 13 [(6, .int (nI (w + 1))), (5, .int (nI k)), (3, .int (s_eO nC C nT T nS S nC)), (4, .int (s_bdO nC C nT T nS S nC)), (2, .int (nI nC)), (0, .ref h), (1, .ref (a 0))] := by
                          have e9 : [(6, .int (nI (w + 1))), (5, .int (nI k)), (3, .int (s_eO nC C nT T nS S nC)), (4, .int (s_bdO nC C nT T nS S nC)), (2, .int (nI nC)), (0, .ref h), (1, .ref (a 0))] = ([(6, .int (nI (w + 1))), (5, .int (nI k)), (3, .int (s_eO nC C nT T nS S nC)), (4, .int (s_bdO nC C nT T nS S nC)), (2, .int (nI nC)), (0, .ref h), (1, .ref (a 0))] : List (Nat × Value)) := by rfl
                          rw [← e9]; exact hl
                        refine W.widen (show ((35760 + k * 4 + w) + 1) ≤ 35760 + k * 4 + (w + 1) from (by omega)) (show ((86800 + k * 24 + w * 6) + 6) ≤ 86800 + k * 24 + (w + 1) * 6 from (by omega)) ?_
                        exact ih51 (w + 1) (by omega) (by omega) _ _ hB52 hS hP  _ hl
                      · exact absurd (HRO k w hlt_k hlt_w).2 c_58
                    refine lv_icmp_ge (tgt := 410) hx hb dX2_isSame_394 (by decide) (fun c_59 => ?_) (fun c_59 => ?_)
                    · refine lv_aload_n hx hb dX2_isSame_410 rfl (lv_at hl 5 rfl) ?_
                      refine lv_aload_n hx hb dX2_isSame_411 rfl (lv_at hl 5 rfl) ?_
                      refine va_get (D := (dC, dI)) (ci := 2) (v := .ref qt) (C := RX2) (T := TX2) (N := 4) hx hb hts in_X2_isSame_X2 hown hK.1 (va_P.one hO) 0 rfl rfl 1 (by decide) (hts (.fieldLink RX2 15 "MoorTrianglesLaw$Sim" "triangles" "[[I") fl_X2_isSame_15) (fun _ h9 => h9) rfl dX2_isSame_412 ?_
                      refine lv_iload hx hb dX2_isSame_415 (lv_at hl 1 rfl) ?_
                      refine sx_aald hx hb hK.1 hTt (ix_nI (by omega)) hlt_k dX2_isSame_417 (fun xq60 hr61 => ?_)
                      refine sr_cVi (As := [.ref xq60]) (rest := [.int (x_tFact xs ys co (nI k) (nI w))]) F (c_X2_area l dC dI cI cZ cY h nC C nT T nS S fl xq60 (T k) (hok k hlt_k)) (cwV 1 hts gX2_isSame_X2_area rfl rfl rfl hd_X2_area ⟨Nat.le_of_ble_eq_true rfl, Nat.le_of_ble_eq_true rfl⟩) ⟨⟨qc, qt, qs, hO, hC, hTt, hSt, hn1, hn2⟩, hr61⟩ hK (sM.recv hK.1 ⟨qc, qt, qs, hO, hC, hTt, hSt, hn1, hn2⟩) rfl hl.1 rfl (lv_room (Nat.le_of_ble_eq_true rfl)) dX2_isSame_418 ⟨(by first | exact Nat.le_of_ble_eq_true rfl | omega | (dsimp only; omega)), (by first | exact Nat.le_of_ble_eq_true rfl | omega | (dsimp only; omega))⟩ ?_
                      refine lv_cvi (y := (s_trI C T k w)) (by rw [s_trI, if_pos c_59]) ?_
                      exact hj394
                    · refine lv_aload_n hx hb dX2_isSame_397 rfl (lv_at hl 5 rfl) ?_
                      refine va_get (D := (dC, dI)) (ci := 2) (v := .ref qt) (C := RX2) (T := TX2) (N := 4) hx hb hts in_X2_isSame_X2 hown hK.1 (va_P.one hO) 0 rfl rfl 1 (by decide) (hts (.fieldLink RX2 15 "MoorTrianglesLaw$Sim" "triangles" "[[I") fl_X2_isSame_15) (fun _ h9 => h9) rfl dX2_isSame_398 ?_
                      refine lv_iload hx hb dX2_isSame_401 (lv_at hl 1 rfl) ?_
                      refine sx_aald hx hb hK.1 hTt (ix_nI (by omega)) hlt_k dX2_isSame_403 (fun xq62 hr63 => ?_)
                      refine lv_iload hx hb dX2_isSame_404 (lv_at hl 0 rfl) ?_
                      refine sx_iald hx hb hK.1 hr63 (ix_nI (by omega)) (nI_nle_lt (a := w) (b := 3) (by omega) (by decide) c_59) dX2_isSame_406 ?_
                      refine lv_goto (tgt := 421) hx hb dX2_isSame_407 (by decide) ?_
                      refine lv_cvi (y := (s_trI C T k w)) (by rw [s_trI, if_neg c_59]) ?_
                      exact hj394
              have hl := lv_sub (l' := [(6, .int 0), (5, .int (nI k)), (3, .int (s_eO nC C nT T nS S nC)), (4, .int (s_bdO nC C nT T nS S nC)), (2, .int (nI nC)), (0, .ref h), (1, .ref (a 0))]) hl [0, 1, 2, 3, 4, 5, 6] rfl
              have hl : lv_has ls 13 [(6, .int (nI 0)), (5, .int (nI k)), (3, .int (s_eO nC C nT T nS S nC)), (4, .int (s_bdO nC C nT T nS S nC)), (2, .int (nI nC)), (0, .ref h), (1, .ref (a 0))] := by
                have e9 : [(6, .int 0), (5, .int (nI k)), (3, .int (s_eO nC C nT T nS S nC)), (4, .int (s_bdO nC C nT T nS S nC)), (2, .int (nI nC)), (0, .ref h), (1, .ref (a 0))] = ([(6, .int (nI 0)), (5, .int (nI k)), (3, .int (s_eO nC C nT T nS S nC)), (4, .int (s_bdO nC C nT T nS S nC)), (2, .int (nI nC)), (0, .ref h), (1, .ref (a 0))] : List (Nat × Value)) := by rfl
                rw [← e9]; exact hl
              refine W.widen (show (35760 + k * 4) ≤ 35760 + k * 4 + 0 from (by omega)) (show (86800 + k * 24) ≤ 86800 + k * 24 + 0 * 6 from (by omega)) ?_
              exact hL377_49 _ 0 (Nat.lt_succ_self _) (by omega) _ _ hy.rf hS hP  _ hl
        have hl := lv_sub (l' := [(5, .int 0), (3, .int (s_eO nC C nT T nS S nC)), (4, .int (s_bdO nC C nT T nS S nC)), (2, .int (nI nC)), (0, .ref h), (1, .ref (a 0))]) hl [0, 1, 2, 3, 4, 5] rfl
        have hl : lv_has ls 13 [(5, .int (nI 0)), (3, .int (s_eO nC C nT T nS S nC)), (4, .int (s_bdO nC C nT T nS S nC)), (2, .int (nI nC)), (0, .ref h), (1, .ref (a 0))] := by
          have e9 : [(5, .int 0), (3, .int (s_eO nC C nT T nS S nC)), (4, .int (s_bdO nC C nT T nS S nC)), (2, .int (nI nC)), (0, .ref h), (1, .ref (a 0))] = ([(5, .int (nI 0)), (3, .int (s_eO nC C nT T nS S nC)), (4, .int (s_bdO nC C nT T nS S nC)), (2, .int (nI nC)), (0, .ref h), (1, .ref (a 0))] : List (Nat × Value)) := by rfl
          rw [← e9]; exact hl
        refine W.widen (show (i * 2235) ≤ 35760 + 0 * 4 from (by omega)) (show (i * 5425) ≤ 86800 + 0 * 24 from (by omega)) ?_
        exact hL364_8 _ 0 (Nat.lt_succ_self _) (by omega) _ _ hy.rf hS hP  _ hl
      · have hlt_i : i < nC := nI_nle_lt (by omega) (by omega) c_7
        refine lv_iconst (v := 0) hx hb dX2_isSame_20 (by decide) ?_
        refine lv_istore (lv' := [(6, .int 0), (5, .int (nI i)), (3, .int (s_eO nC C nT T nS S i)), (4, .int (s_bdO nC C nT T nS S i)), (2, .int (nI nC)), (0, .ref h), (1, .ref (a 0))]) hx hb dX2_isSame_21 hl (by decide) rfl (fun ls hl => ?_)
        refine lv_iconst (v := 0) hx hb dX2_isSame_23 (by decide) ?_
        refine lv_istore (lv' := [(7, .int 0), (6, .int 0), (5, .int (nI i)), (3, .int (s_eO nC C nT T nS S i)), (4, .int (s_bdO nC C nT T nS S i)), (2, .int (nI nC)), (0, .ref h), (1, .ref (a 0))]) hx hb dX2_isSame_24 hl (by decide) rfl (fun ls hl => ?_)
        refine lv_aload_n hx hb dX2_isSame_26 rfl (lv_at hl 6 rfl) ?_
        refine va_get (D := (dC, dI)) (ci := 2) (v := .ref qt) (C := RX2) (T := TX2) (N := 4) hx hb hts in_X2_isSame_X2 hown hK.1 (va_P.one hO) 0 rfl rfl 1 (by decide) (hts (.fieldLink RX2 15 "MoorTrianglesLaw$Sim" "triangles" "[[I") fl_X2_isSame_15) (fun _ h9 => h9) rfl dX2_isSame_27 ?_
        refine lv_astore (lv' := [(8, .ref qt), (7, .int 0), (6, .int 0), (5, .int (nI i)), (3, .int (s_eO nC C nT T nS S i)), (4, .int (s_bdO nC C nT T nS S i)), (2, .int (nI nC)), (0, .ref h), (1, .ref (a 0))]) hx hb dX2_isSame_30 hl (by decide) rfl (fun ls hl => ?_)
        refine lv_aload hx hb dX2_isSame_32 (lv_at hl 0 rfl) ?_
        refine sx_alenT hx hb hK.1 hTt dX2_isSame_34 ?_
        refine lv_istore (lv' := [(9, .int (nI nT)), (8, .ref qt), (7, .int 0), (6, .int 0), (5, .int (nI i)), (3, .int (s_eO nC C nT T nS S i)), (4, .int (s_bdO nC C nT T nS S i)), (2, .int (nI nC)), (0, .ref h), (1, .ref (a 0))]) hx hb dX2_isSame_35 hl (by decide) rfl (fun ls hl => ?_)
        refine lv_iconst (v := 0) hx hb dX2_isSame_37 (by decide) ?_
        refine lv_istore (lv' := [(10, .int 0), (9, .int (nI nT)), (8, .ref qt), (7, .int 0), (6, .int 0), (5, .int (nI i)), (3, .int (s_eO nC C nT T nS S i)), (4, .int (s_bdO nC C nT T nS S i)), (2, .int (nI nC)), (0, .ref h), (1, .ref (a 0))]) hx hb dX2_isSame_38 hl (by decide) rfl (fun ls hl => ?_)
        have hL40 : ∀ (k_64 : Nat) (j : Nat), (nT - j) < k_64 → (j ≤ nT) → ∀ ls : Array Slot, lv_has ls 13 [(10, .int (nI j)), (7, .int (nI (rg_ct (s_inP T i) j))), (9, .int (nI nT)), (8, .ref qt), (6, .int 0), (5, .int (nI i)), (3, .int (s_eO nC C nT T nS S i)), (4, .int (s_bdO nC C nT T nS S i)), (2, .int (nI nC)), (0, .ref h), (1, .ref (a 0))] → W p l e ({ frames := 8, cells := 51504, slots := 118801, locals := 168 } : Room) s m ([.ref h, .ref (a 0)] : List Value).toArray below meth c H5 locs6 (i * 2235) (i * 5425) (MQ below (lQi (S := Unit) (fun r _ => r = 1) (fun _ H => lJ (dC, dI) cI cY a B0 h (hs, fx, n, t, xs, ys, lf, sy, co, n2, t2, xs2, ys2, lf2, sy2, co2) (nC, C, nT, T, nS, S, fl) H) B0) ([.ref h, .ref (a 0)] : List Value).toArray s 51504 118801 (fun q => B0 ≤ q)) (F0 m 40 ls []) := by
          intro k_64
          induction k_64 with
          | zero => intro j hk; exact absurd hk (Nat.not_lt_zero _)
          | succ k_64 ih_65 =>
            intro j hk_40 hi_j ls hl
            refine lv_iload hx hb dX2_isSame_40 (lv_at hl 0 rfl) ?_
            refine lv_iload hx hb dX2_isSame_42 (lv_at hl 2 rfl) ?_
            refine lv_icmp_ge (tgt := 80) hx hb dX2_isSame_44 (by decide) (fun c_66 => ?_) (fun c_66 => ?_)
            · have hge_j : nT ≤ j := nI_le_le (by omega) (by omega) c_66
              have heq_j : j = nT := by omega
              have hl : lv_has ls 13 [(10, .int (nI nT)), (7, .int (nI (rg_ct (s_inP T i) nT))), (9, .int (nI nT)), (8, .ref qt), (6, .int 0), (5, .int (nI i)), (3, .int (s_eO nC C nT T nS S i)), (4, .int (s_bdO nC C nT T nS S i)), (2, .int (nI nC)), (0, .ref h), (1, .ref (a 0))] := by rw [heq_j] at hl; exact hl
              refine lv_iconst (v := 0) hx hb dX2_isSame_80 (by decide) ?_
              refine lv_istore (lv' := [(8, .int 0), (10, .int (nI nT)), (7, .int (nI (rg_ct (s_inP T i) nT))), (9, .int (nI nT)), (6, .int 0), (5, .int (nI i)), (3, .int (s_eO nC C nT T nS S i)), (4, .int (s_bdO nC C nT T nS S i)), (2, .int (nI nC)), (0, .ref h), (1, .ref (a 0))]) hx hb dX2_isSame_81 hl (by decide) rfl (fun ls hl => ?_)
              have hL83_67 : ∀ (k68 : Nat) (b : Nat), (nC - b) < k68 → (b ≤ nC) → ∀ (H71 : Heap) (locs72 : List Loc), hy h H5 H71 → va_S (fun q => B0 ≤ q) s.heap H71 locs72 → va_P (dC, dI) vwCl (lW cI a (hs, fx, n, t, xs, ys, lf, sy, co, n2, t2, xs2, ys2, lf2, sy2, co2)) H71 → ∀ ls : Array Slot, lv_has ls 13 [(8, .int (nI b)), (6, .int (s_hasN C nT T nS S i b)), (4, .int (s_bdN C nT T nS S (s_bdO nC C nT T nS S i) i b)), (7, .int (nI (rg_ct (s_inP T i) nT))), (5, .int (nI i)), (3, .int (s_eO nC C nT T nS S i)), (2, .int (nI nC)), (0, .ref h), (1, .ref (a 0))] → W p l e ({ frames := 8, cells := 51504, slots := 118801, locals := 168 } : Room) s m ([.ref h, .ref (a 0)] : List Value).toArray below meth c H71 locs72 (i * 2235 + b * 139) (i * 5425 + b * 335) (MQ below (lQi (S := Unit) (fun r _ => r = 1) (fun _ H => lJ (dC, dI) cI cY a B0 h (hs, fx, n, t, xs, ys, lf, sy, co, n2, t2, xs2, ys2, lf2, sy2, co2) (nC, C, nT, T, nS, S, fl) H) B0) ([.ref h, .ref (a 0)] : List Value).toArray s 51504 118801 (fun q => B0 ≤ q)) (F0 m 83 ls []) := by
                intro k68
                induction k68 with
                | zero => intro b hk; exact absurd hk (Nat.not_lt_zero _)
                | succ k68 ih69 =>
                  intro b hk_83 hi_b H71 locs72 hB70 hS hP  ls hl
                  have hB4 := hB4.tr hB70
                  have hC := hC.ext (hB70.up (Nat.le_succ h))
                  have hTt := hTt.ext (hB70.up (Nat.le_succ h))
                  have hSt := hSt.ext (hB70.up (Nat.le_succ h))
                  have hO := hO.ext hB70
                  refine lv_iload hx hb dX2_isSame_83 (lv_at hl 0 rfl) ?_
                  refine lv_iload_n hx hb dX2_isSame_85 rfl (lv_at hl 6 rfl) ?_
                  refine lv_icmp_ge (tgt := 266) hx hb dX2_isSame_86 (by decide) (fun c_73 => ?_) (fun c_73 => ?_)
                  · have hge_b : nC ≤ b := nI_le_le (by omega) (by omega) c_73
                    have heq_b : b = nC := by omega
                    have hl : lv_has ls 13 [(8, .int (nI nC)), (6, .int (s_hasN C nT T nS S i nC)), (4, .int (s_bdN C nT T nS S (s_bdO nC C nT T nS S i) i nC)), (7, .int (nI (rg_ct (s_inP T i) nT))), (5, .int (nI i)), (3, .int (s_eO nC C nT T nS S i)), (2, .int (nI nC)), (0, .ref h), (1, .ref (a 0))] := by rw [heq_b] at hl; exact hl
                    refine lv_iload_n hx hb dX2_isSame_266 rfl (lv_at hl 5 rfl) ?_
                    refine lv_iload hx hb dX2_isSame_267 (lv_at hl 1 rfl) ?_
                    refine lv_iadd hx hb dX2_isSame_269 ?_
                    refine lv_istore_n (lv' := [(3, .int ((s_eO nC C nT T nS S i) + (s_hasN C nT T nS S i nC))), (8, .int (nI nC)), (6, .int (s_hasN C nT T nS S i nC)), (4, .int (s_bdN C nT T nS S (s_bdO nC C nT T nS S i) i nC)), (7, .int (nI (rg_ct (s_inP T i) nT))), (5, .int (nI i)), (2, .int (nI nC)), (0, .ref h), (1, .ref (a 0))]) hx hb dX2_isSame_270 rfl hl (by decide) rfl (fun ls hl => ?_)
                    refine lv_iconst (v := 5) hx hb dX2_isSame_271 (by decide) ?_
                    have hz077 := hS.1
                    refine sx_newi (N := 5) hx hb (hts _ na_X2_isSame) hK.1 hS (Nat.succ_le_of_lt hO.lt) ix_5 (Nat.le_of_ble_eq_true rfl) (by first | exact Nat.le_of_ble_eq_true rfl | omega | (dsimp only; omega)) (by first | exact Nat.le_of_ble_eq_true rfl | omega | (dsimp only; omega)) dX2_isSame_272 (fun q74 H75 hq76 hE hN hS => ?_)
                    refine lv_dup hx hb dX2_isSame_274 rfl ?_
                    refine lv_iconst (v := 0) hx hb dX2_isSame_275 (by decide) ?_
                    refine lv_aload_n hx hb dX2_isSame_276 rfl (lv_at hl 7 rfl) ?_
                    refine va_get (D := (dC, dI)) (ci := 2) (v := .ref qc) (C := RX2) (T := TX2) (N := 4) hx hb hts in_X2_isSame_X2 hown hK.1 (va_P.one (hO.ext0 hE)) 0 rfl rfl 0 (by decide) (hts (.fieldLink RX2 9 "MoorTrianglesLaw$Sim" "cairns" "[[I") fl_X2_isSame_9) (fun _ h9 => h9) rfl dX2_isSame_277 ?_
                    refine lv_iload hx hb dX2_isSame_280 (lv_at hl 5 rfl) ?_
                    refine sx_aald hx hb hK.1 (hC.ext0 hE) (ix_nI (by omega)) hlt_i dX2_isSame_282 (fun xq78 hr79 => ?_)
                    refine lv_iconst (v := 0) hx hb dX2_isSame_283 (by decide) ?_
                    refine sx_iald hx hb hK.1 hr79 ix_0 (by decide) dX2_isSame_284 ?_
                    refine sx_iast hx hb hK.1 hS hN (hA q74 (by rw [hq76]; exact hz077)) ix_0 (by decide) dX2_isSame_285 (fun H80 locs81 hN hz_ ho_ hS => ?_)
                    have hE := hE.wr (Nat.le_of_eq hq76.symm) hz_ ho_
                    refine lv_dup hx hb dX2_isSame_286 rfl ?_
                    refine lv_iconst (v := 1) hx hb dX2_isSame_287 (by decide) ?_
                    refine lv_aload_n hx hb dX2_isSame_288 rfl (lv_at hl 7 rfl) ?_
                    refine va_get (D := (dC, dI)) (ci := 2) (v := .ref qc) (C := RX2) (T := TX2) (N := 4) hx hb hts in_X2_isSame_X2 hown hK.1 (va_P.one (hO.ext0 hE)) 0 rfl rfl 0 (by decide) (hts (.fieldLink RX2 9 "MoorTrianglesLaw$Sim" "cairns" "[[I") fl_X2_isSame_9) (fun _ h9 => h9) rfl dX2_isSame_289 ?_
                    refine lv_iload hx hb dX2_isSame_292 (lv_at hl 5 rfl) ?_
                    refine sx_aald hx hb hK.1 (hC.ext0 hE) (ix_nI (by omega)) hlt_i dX2_isSame_294 (fun xq82 hr83 => ?_)
                    refine lv_iconst (v := 1) hx hb dX2_isSame_295 (by decide) ?_
                    refine sx_iald hx hb hK.1 hr83 ix_1 (by decide) dX2_isSame_296 ?_
                    refine sx_iast hx hb hK.1 hS hN (hA q74 (by rw [hq76]; exact hz077)) ix_1 (by decide) dX2_isSame_297 (fun H84 locs85 hN hz_ ho_ hS => ?_)
                    have hE := hE.wr (Nat.le_of_eq hq76.symm) hz_ ho_
                    refine lv_dup hx hb dX2_isSame_298 rfl ?_
                    refine lv_iconst (v := 2) hx hb dX2_isSame_299 (by decide) ?_
                    refine lv_aload_n hx hb dX2_isSame_300 rfl (lv_at hl 7 rfl) ?_
                    refine va_get (D := (dC, dI)) (ci := 2) (v := .ref qc) (C := RX2) (T := TX2) (N := 4) hx hb hts in_X2_isSame_X2 hown hK.1 (va_P.one (hO.ext0 hE)) 0 rfl rfl 0 (by decide) (hts (.fieldLink RX2 9 "MoorTrianglesLaw$Sim" "cairns" "[[I") fl_X2_isSame_9) (fun _ h9 => h9) rfl dX2_isSame_301 ?_
                    refine lv_iload hx hb dX2_isSame_304 (lv_at hl 5 rfl) ?_
                    refine sx_aald hx hb hK.1 (hC.ext0 hE) (ix_nI (by omega)) hlt_i dX2_isSame_306 (fun xq86 hr87 => ?_)
                    refine lv_iconst (v := 2) hx hb dX2_isSame_307 (by decide) ?_
                    refine sx_iald hx hb hK.1 hr87 ix_2 (by decide) dX2_isSame_308 ?_
                    refine sx_iast hx hb hK.1 hS hN (hA q74 (by rw [hq76]; exact hz077)) ix_2 (by decide) dX2_isSame_309 (fun H88 locs89 hN hz_ ho_ hS => ?_)
                    have hE := hE.wr (Nat.le_of_eq hq76.symm) hz_ ho_
                    refine lv_dup hx hb dX2_isSame_310 rfl ?_
                    refine lv_iconst (v := 3) hx hb dX2_isSame_311 (by decide) ?_
                    refine lv_iload hx hb dX2_isSame_312 (lv_at hl 2 rfl) ?_
                    refine sx_iast hx hb hK.1 hS hN (hA q74 (by rw [hq76]; exact hz077)) ix_3 (by decide) dX2_isSame_314 (fun H90 locs91 hN hz_ ho_ hS => ?_)
                    have hE := hE.wr (Nat.le_of_eq hq76.symm) hz_ ho_
                    refine lv_dup hx hb dX2_isSame_315 rfl ?_
                    refine lv_iconst (v := 4) hx hb dX2_isSame_316 (by decide) ?_
                    refine lv_iload hx hb dX2_isSame_317 (lv_at hl 4 rfl) ?_
                    refine sx_iast hx hb hK.1 hS hN (hA q74 (by rw [hq76]; exact hz077)) ix_4 (by decide) dX2_isSame_319 (fun H92 locs93 hN hz_ ho_ hS => ?_)
                    have hE := hE.wr (Nat.le_of_eq hq76.symm) hz_ ho_
                    have hC := hC.ext0 hE
                    have hTt := hTt.ext0 hE
                    have hSt := hSt.ext0 hE
                    have hB4 := hB4.tr (hE.up (Nat.zero_le _))
                    have hB70 := hB70.tr (hE.up (Nat.zero_le _))
                    have hO := hO.ext0 hE
                    have hP := hP.hy0 hE
                    have hr94 : hI cI _ H92 q74 5 (upd (upd (upd (upd (upd (fun _ => 0) 0 ((C i) 0)) 1 ((C i) 1)) 2 ((C i) 2)) 3 (s_hasN C nT T nS S i nC)) 4 (nI (rg_ct (s_inP T i) nT))) := hN
                    have hr94 : hI cI (h + 1) H92 q74 5 (s_tRow nC C nT T nS S i) := hr94
                    refine lv_astore (lv' := [(8, .ref q74), (3, .int ((s_eO nC C nT T nS S i) + (s_hasN C nT T nS S i nC))), (6, .int (s_hasN C nT T nS S i nC)), (4, .int (s_bdN C nT T nS S (s_bdO nC C nT T nS S i) i nC)), (7, .int (nI (rg_ct (s_inP T i) nT))), (5, .int (nI i)), (2, .int (nI nC)), (0, .ref h), (1, .ref (a 0))]) hx hb dX2_isSame_320 hl (by decide) rfl (fun ls hl => ?_)
                    refine lv_iconst (v := 0) hx hb dX2_isSame_322 (by decide) ?_
                    refine lv_istore (lv' := [(9, .int 0), (8, .ref q74), (3, .int ((s_eO nC C nT T nS S i) + (s_hasN C nT T nS S i nC))), (6, .int (s_hasN C nT T nS S i nC)), (4, .int (s_bdN C nT T nS S (s_bdO nC C nT T nS S i) i nC)), (7, .int (nI (rg_ct (s_inP T i) nT))), (5, .int (nI i)), (2, .int (nI nC)), (0, .ref h), (1, .ref (a 0))]) hx hb dX2_isSame_323 hl (by decide) rfl (fun ls hl => ?_)
                    have hL325_95 : ∀ (k96 : Nat) (w : Nat), (5 - w) < k96 → (w ≤ 5) → ∀ (H99 : Heap) (locs100 : List Loc), hy h H92 H99 → va_S (fun q => B0 ≤ q) s.heap H99 locs100 → va_P (dC, dI) vwCl (lW cI a (hs, fx, n, t, xs, ys, lf, sy, co, n2, t2, xs2, ys2, lf2, sy2, co2)) H99 → ∀ ls : Array Slot, lv_has ls 13 [(9, .int (nI w)), (8, .ref q74), (3, .int ((s_eO nC C nT T nS S i) + (s_hasN C nT T nS S i nC))), (6, .int (s_hasN C nT T nS S i nC)), (4, .int (s_bdN C nT T nS S (s_bdO nC C nT T nS S i) i nC)), (7, .int (nI (rg_ct (s_inP T i) nT))), (5, .int (nI i)), (2, .int (nI nC)), (0, .ref h), (1, .ref (a 0))] → W p l e ({ frames := 8, cells := 51504, slots := 118801, locals := 168 } : Room) s m ([.ref h, .ref (a 0)] : List Value).toArray below meth c H99 locs100 (i * 2235 + 2225 + w * 2) (i * 5425 + 5365 + w * 12) (MQ below (lQi (S := Unit) (fun r _ => r = 1) (fun _ H => lJ (dC, dI) cI cY a B0 h (hs, fx, n, t, xs, ys, lf, sy, co, n2, t2, xs2, ys2, lf2, sy2, co2) (nC, C, nT, T, nS, S, fl) H) B0) ([.ref h, .ref (a 0)] : List Value).toArray s 51504 118801 (fun q => B0 ≤ q)) (F0 m 325 ls []) := by
                      intro k96
                      induction k96 with
                      | zero => intro w hk; exact absurd hk (Nat.not_lt_zero _)
                      | succ k96 ih97 =>
                        intro w hk_325 hi_w H99 locs100 hB98 hS hP  ls hl
                        have hB4 := hB4.tr hB98
                        have hB70 := hB70.tr hB98
                        have hC := hC.ext (hB98.up (Nat.le_succ h))
                        have hTt := hTt.ext (hB98.up (Nat.le_succ h))
                        have hSt := hSt.ext (hB98.up (Nat.le_succ h))
                        have hr94 := hr94.ext (hB98.up (Nat.le_succ h))
                        have hO := hO.ext hB98
                        refine lv_iload hx hb dX2_isSame_325 (lv_at hl 0 rfl) ?_
                        refine lv_iconst (v := 5) hx hb dX2_isSame_327 (by decide) ?_
                        refine lv_icmp_ge (tgt := 355) hx hb dX2_isSame_328 (by decide) (fun c_101 => ?_) (fun c_101 => ?_)
                        · have hge_w : 5 ≤ w := nI_le_le (by omega) (by omega) c_101
                          have heq_w : w = 5 := by omega
                          have hl : lv_has ls 13 [(9, .int (nI 5)), (8, .ref q74), (3, .int ((s_eO nC C nT T nS S i) + (s_hasN C nT T nS S i nC))), (6, .int (s_hasN C nT T nS S i nC)), (4, .int (s_bdN C nT T nS S (s_bdO nC C nT T nS S i) i nC)), (7, .int (nI (rg_ct (s_inP T i) nT))), (5, .int (nI i)), (2, .int (nI nC)), (0, .ref h), (1, .ref (a 0))] := by rw [heq_w] at hl; exact hl
                          refine lv_iinc (v := nI (i + 1)) (lv' := [(5, .int (nI (i + 1))), (9, .int (nI 5)), (8, .ref q74), (3, .int ((s_eO nC C nT T nS S i) + (s_hasN C nT T nS S i nC))), (6, .int (s_hasN C nT T nS S i nC)), (4, .int (s_bdN C nT T nS S (s_bdO nC C nT T nS S i) i nC)), (7, .int (nI (rg_ct (s_inP T i) nT))), (2, .int (nI nC)), (0, .ref h), (1, .ref (a 0))]) hx hb dX2_isSame_355 hl (k := 6) rfl (nI_1 _) (by decide) rfl (fun ls hl => ?_)
                          refine lv_goto (tgt := 14) hx hb dX2_isSame_358 (by decide) ?_
                          have hl := lv_sub (l' := [(5, .int (nI (i + 1))), (3, .int ((s_eO nC C nT T nS S i) + (s_hasN C nT T nS S i nC))), (4, .int (s_bdN C nT T nS S (s_bdO nC C nT T nS S i) i nC)), (2, .int (nI nC)), (0, .ref h), (1, .ref (a 0))]) hl [0, 3, 5, 7, 8, 9] rfl
                          have hl : lv_has ls 13 [(5, .int (nI (i + 1))), (3, .int (s_eO nC C nT T nS S (i + 1))), (4, .int (s_bdO nC C nT T nS S (i + 1))), (2, .int (nI nC)), (0, .ref h), (1, .ref (a 0))] := by
                            have e9 : [(5, .int (nI (i + 1))), (3, .int ((s_eO nC C nT T nS S i) + (s_hasN C nT T nS S i nC))), (4, .int (s_bdN C nT T nS S (s_bdO nC C nT T nS S i) i nC)), (2, .int (nI nC)), (0, .ref h), (1, .ref (a 0))] = ([(5, .int (nI (i + 1))), (3, .int (s_eO nC C nT T nS S (i + 1))), (4, .int (s_bdO nC C nT T nS S (i + 1))), (2, .int (nI nC)), (0, .ref h), (1, .ref (a 0))] : List (Nat × Value)) := by rfl
                            rw [← e9]; exact hl
                          refine W.widen (show (i * 2235 + 2225 + w * 2) ≤ (i + 1) * 2235 from (by omega)) (show (i * 5425 + 5365 + w * 12) ≤ (i + 1) * 5425 from (by omega)) ?_
                          exact ih3 (i + 1) (by omega) (by omega) _ _ hB4 hS hP  _ hl
                        · have hlt_w : w < 5 := nI_nle_lt (by omega) (by omega) c_101
                          refine lv_aload_n hx hb dX2_isSame_331 rfl (lv_at hl 9 rfl) ?_
                          refine lv_iload hx hb dX2_isSame_332 (lv_at hl 6 rfl) ?_
                          refine lv_iload hx hb dX2_isSame_334 (lv_at hl 0 rfl) ?_
                          refine lc_xi (As := [.int (nI i), .int (nI w)]) (rest := []) hX9 F (c_X1_told l hl0 dC dI cI cZ cY (a 0) (a 1) hs fx (a 2) (a 3) (a 4) (a 5) (a 6) (a 7) n t xs ys lf sy co (a 8) (a 9) (a 10) (a 11) (a 12) (a 13) n2 t2 xs2 ys2 lf2 sy2 co2 (nI i) (nI w) H99.size hn) (cwV 2 hts gX2_isSame_X1_told rfl rfl rfl hd_X1_told ⟨Nat.le_of_ble_eq_true rfl, Nat.le_of_ble_eq_true rfl⟩) (HTO i w hlt_i hlt_w).1 rfl hP hK hD hS hB (lW_recv hK.1 hP) rfl hl.1 rfl (lv_room (Nat.le_of_ble_eq_true rfl)) dX2_isSame_336 ⟨(by first | exact Nat.le_of_ble_eq_true rfl | omega | (dsimp only; omega)), (by first | exact Nat.le_of_ble_eq_true rfl | omega | (dsimp only; omega))⟩ (fun H102 locs103 hP hD hY hS => ?_)
                          have hC := hC.ext (hY.up (Nat.le_succ h))
                          have hTt := hTt.ext (hY.up (Nat.le_succ h))
                          have hSt := hSt.ext (hY.up (Nat.le_succ h))
                          have hr94 := hr94.ext (hY.up (Nat.le_succ h))
                          have hO := hO.ext hY
                          have hB4 := hB4.tr hY
                          have hB70 := hB70.tr hY
                          have hB98 := hB98.tr hY
                          refine lv_aload hx hb dX2_isSame_339 (lv_at hl 1 rfl) ?_
                          refine lv_iload hx hb dX2_isSame_341 (lv_at hl 0 rfl) ?_
                          refine sx_iald hx hb hK.1 hr94 (ix_nI (by omega)) hlt_w dX2_isSame_343 ?_
                          refine lv_icmp_eq (tgt := 349) hx hb dX2_isSame_344 (by decide) (fun c_104 => ?_) (fun c_104 => ?_)
                          · refine lv_iinc (v := nI (w + 1)) (lv' := [(9, .int (nI (w + 1))), (8, .ref q74), (3, .int ((s_eO nC C nT T nS S i) + (s_hasN C nT T nS S i nC))), (6, .int (s_hasN C nT T nS S i nC)), (4, .int (s_bdN C nT T nS S (s_bdO nC C nT T nS S i) i nC)), (7, .int (nI (rg_ct (s_inP T i) nT))), (5, .int (nI i)), (2, .int (nI nC)), (0, .ref h), (1, .ref (a 0))]) hx hb dX2_isSame_349 hl (k := 0) rfl (nI_1 _) (by decide) rfl (fun ls hl => ?_)
                            refine lv_goto (tgt := 325) hx hb dX2_isSame_352 (by decide) ?_
                            have hl := lv_sub (l' := [(9, .int (nI (w + 1))), (8, .ref q74), (3, .int ((s_eO nC C nT T nS S i) + (s_hasN C nT T nS S i nC))), (6, .int (s_hasN C nT T nS S i nC)), (4, .int (s_bdN C nT T nS S (s_bdO nC C nT T nS S i) i nC)), (7, .int (nI (rg_ct (s_inP T i) nT))), (5, .int (nI i)), (2, .int (nI nC)), (0, .ref h), (1, .ref (a 0))]) hl [0, 1, 2, 3, 4, 5, 6, 7, 8, 9] rfl
                            have hl : lv_has ls 13 [(9, .int (nI (w + 1))), (8, .ref q74), (3, .int ((s_eO nC C nT T nS S i) + (s_hasN C nT T nS S i nC))), (6, .int (s_hasN C nT T nS S i nC)), (4, .int (s_bdN C nT T nS S (s_bdO nC C nT T nS S i) i nC)), (7, .int (nI (rg_ct (s_inP T i) nT))), (5, .int (nI i)), (2, .int (nI nC)), (0, .ref h), (1, .ref (a 0))] := by
                              have e9 : [(9, .int (nI (w + 1))), (8, .ref q74), (3, .int ((s_eO nC C nT T nS S i) + (s_hasN C nT T nS S i nC))), (6, .int (s_hasN C nT T nS S i nC)), (4, .int (s_bdN C nT T nS S (s_bdO nC C nT T nS S i) i nC)), (7, .int (nI (rg_ct (s_inP T i) nT))), (5, .int (nI i)), (2, .int (nI nC)), (0, .ref h), (1, .ref (a 0))] = ([(9, .int (nI (w + 1))), (8, .ref q74), (3, .int ((s_eO nC C nT T nS S i) + (s_hasN C nT T nS S i nC))), (6, .int (s_hasN C nT T nS S i nC)), (4, .int (s_bdN C nT T nS S (s_bdO nC C nT T nS S i) i nC)), (7, .int (nI (rg_ct (s_inP T i) nT))), (5, .int (nI i)), (2, .int (nI nC)), (0, .ref h), (1, .ref (a 0))] : List (Nat × Value)) := by rfl
                              rw [← e9]; exact hl
                            refine W.widen (show ((i * 2235 + 2225 + w * 2) + 2) ≤ i * 2235 + 2225 + (w + 1) * 2 from (by omega)) (show ((i * 5425 + 5365 + w * 12) + 12) ≤ i * 5425 + 5365 + (w + 1) * 12 from (by omega)) ?_
                            exact ih97 (w + 1) (by omega) (by omega) _ _ hB98 hS hP  _ hl
                          · exact absurd (HTO i w hlt_i hlt_w).2 c_104
                    have hl := lv_sub (l' := [(9, .int 0), (8, .ref q74), (3, .int ((s_eO nC C nT T nS S i) + (s_hasN C nT T nS S i nC))), (6, .int (s_hasN C nT T nS S i nC)), (4, .int (s_bdN C nT T nS S (s_bdO nC C nT T nS S i) i nC)), (7, .int (nI (rg_ct (s_inP T i) nT))), (5, .int (nI i)), (2, .int (nI nC)), (0, .ref h), (1, .ref (a 0))]) hl [0, 1, 2, 3, 4, 5, 6, 7, 8, 9] rfl
                    have hl : lv_has ls 13 [(9, .int (nI 0)), (8, .ref q74), (3, .int ((s_eO nC C nT T nS S i) + (s_hasN C nT T nS S i nC))), (6, .int (s_hasN C nT T nS S i nC)), (4, .int (s_bdN C nT T nS S (s_bdO nC C nT T nS S i) i nC)), (7, .int (nI (rg_ct (s_inP T i) nT))), (5, .int (nI i)), (2, .int (nI nC)), (0, .ref h), (1, .ref (a 0))] := by
                      have e9 : [(9, .int 0), (8, .ref q74), (3, .int ((s_eO nC C nT T nS S i) + (s_hasN C nT T nS S i nC))), (6, .int (s_hasN C nT T nS S i nC)), (4, .int (s_bdN C nT T nS S (s_bdO nC C nT T nS S i) i nC)), (7, .int (nI (rg_ct (s_inP T i) nT))), (5, .int (nI i)), (2, .int (nI nC)), (0, .ref h), (1, .ref (a 0))] = ([(9, .int (nI 0)), (8, .ref q74), (3, .int ((s_eO nC C nT T nS S i) + (s_hasN C nT T nS S i nC))), (6, .int (s_hasN C nT T nS S i nC)), (4, .int (s_bdN C nT T nS S (s_bdO nC C nT T nS S i) i nC)), (7, .int (nI (rg_ct (s_inP T i) nT))), (5, .int (nI i)), (2, .int (nI nC)), (0, .ref h), (1, .ref (a 0))] : List (Nat × Value)) := by rfl
                      rw [← e9]; exact hl
                    refine W.widen (show ((i * 2235 + b * 139) + 1) ≤ i * 2235 + 2225 + 0 * 2 from (by omega)) (show ((i * 5425 + b * 335) + 5) ≤ i * 5425 + 5365 + 0 * 12 from (by omega)) ?_
                    exact hL325_95 _ 0 (Nat.lt_succ_self _) (by omega) _ _ hy.rf hS hP  _ hl
                  · have hlt_b : b < nC := nI_nle_lt (by omega) (by omega) c_73
                    have hct := s_ct_le (nT := nT) (T := T) (a := nI i) (b := nI b)
                    refine lv_aload_n hx hb dX2_isSame_89 rfl (lv_at hl 7 rfl) ?_
                    refine lv_iload hx hb dX2_isSame_90 (lv_at hl 4 rfl) ?_
                    refine lv_iload hx hb dX2_isSame_92 (lv_at hl 0 rfl) ?_
                    refine sc_cVNr (As := [.int (nI i), .int (nI b)]) (rest := []) F (c_X2_fars l dC dI cI cZ cY h nC C nT T nS S fl (nI i) (nI b) (by omega) H71.size) (cwV 2 hts gX2_isSame_X2_fars rfl rfl rfl hd_X2_fars ⟨Nat.le_of_ble_eq_true rfl, Nat.le_of_ble_eq_true rfl⟩) ⟨qc, qt, qs, hO, hC, hTt, hSt, hn1, hn2⟩ hK hS hA (sM.recv hK.1 ⟨qc, qt, qs, hO, hC, hTt, hSt, hn1, hn2⟩) rfl hl.1 rfl (lv_room (Nat.le_of_ble_eq_true rfl)) dX2_isSame_94 ⟨(by first | exact Nat.le_of_ble_eq_true rfl | omega | (dsimp only; omega)), (by first | exact Nat.le_of_ble_eq_true rfl | omega | (dsimp only; omega))⟩ (fun q108 H105 locs106 hf107 hE hS => ?_)
                    have hC := hC.ext0 hE
                    have hTt := hTt.ext0 hE
                    have hSt := hSt.ext0 hE
                    have hB4 := hB4.tr (hE.up (Nat.zero_le _))
                    have hB70 := hB70.tr (hE.up (Nat.zero_le _))
                    have hO := hO.ext0 hE
                    have hP := hP.hy0 hE
                    refine lv_astore (lv' := [(9, .ref q108), (8, .int (nI b)), (6, .int (s_hasN C nT T nS S i b)), (4, .int (s_bdN C nT T nS S (s_bdO nC C nT T nS S i) i b)), (7, .int (nI (rg_ct (s_inP T i) nT))), (5, .int (nI i)), (3, .int (s_eO nC C nT T nS S i)), (2, .int (nI nC)), (0, .ref h), (1, .ref (a 0))]) hx hb dX2_isSame_97 hl (by decide) rfl (fun ls hl => ?_)
                    refine lv_aload hx hb dX2_isSame_99 (lv_at hl 0 rfl) ?_
                    refine sx_alenI hx hb hK.1 hf107 dX2_isSame_101 ?_
                    have hj102 : W p l e ({ frames := 8, cells := 51504, slots := 118801, locals := 168 } : Room) s m ([.ref h, .ref (a 0)] : List Value).toArray below meth c H105 locs106 ((i * 2235 + b * 139) + (1 + s_ct T (nI i) (nI b) nT)) ((i * 5425 + b * 335) + (2 * s_ct T (nI i) (nI b) nT)) (MQ below (lQi (S := Unit) (fun r _ => r = 1) (fun _ H => lJ (dC, dI) cI cY a B0 h (hs, fx, n, t, xs, ys, lf, sy, co, n2, t2, xs2, ys2, lf2, sy2, co2) (nC, C, nT, T, nS, S, fl) H) B0) ([.ref h, .ref (a 0)] : List Value).toArray s 51504 118801 (fun q => B0 ≤ q)) (F0 m 110 ls [.int (bI (s_isB nT T (nI i) (nI b)))]) := by
                      refine lv_istore (lv' := [(10, .int (bI (s_isB nT T (nI i) (nI b)))), (9, .ref q108), (8, .int (nI b)), (6, .int (s_hasN C nT T nS S i b)), (4, .int (s_bdN C nT T nS S (s_bdO nC C nT T nS S i) i b)), (7, .int (nI (rg_ct (s_inP T i) nT))), (5, .int (nI i)), (3, .int (s_eO nC C nT T nS S i)), (2, .int (nI nC)), (0, .ref h), (1, .ref (a 0))]) hx hb dX2_isSame_110 hl (by decide) rfl (fun ls hl => ?_)
                      refine lv_iconst (v := 5) hx hb dX2_isSame_112 (by decide) ?_
                      have hz0112 := hS.1
                      refine sx_newi (N := 5) hx hb (hts _ na_X2_isSame) hK.1 hS (Nat.succ_le_of_lt hO.lt) ix_5 (Nat.le_of_ble_eq_true rfl) (by first | exact Nat.le_of_ble_eq_true rfl | omega | (dsimp only; omega)) (by first | exact Nat.le_of_ble_eq_true rfl | omega | (dsimp only; omega)) dX2_isSame_113 (fun q109 H110 hq111 hE hN hS => ?_)
                      refine lv_dup hx hb dX2_isSame_115 rfl ?_
                      refine lv_iconst (v := 0) hx hb dX2_isSame_116 (by decide) ?_
                      refine lv_iload hx hb dX2_isSame_117 (lv_at hl 0 rfl) ?_
                      have hj119 : W p l e ({ frames := 8, cells := 51504, slots := 118801, locals := 168 } : Room) s m ([.ref h, .ref (a 0)] : List Value).toArray below meth c H110 locs106 (((i * 2235 + b * 139) + (1 + s_ct T (nI i) (nI b) nT)) + 1) (((i * 5425 + b * 335) + (2 * s_ct T (nI i) (nI b) nT)) + 5) (MQ below (lQi (S := Unit) (fun r _ => r = 1) (fun _ H => lJ (dC, dI) cI cY a B0 h (hs, fx, n, t, xs, ys, lf, sy, co, n2, t2, xs2, ys2, lf2, sy2, co2) (nC, C, nT, T, nS, S, fl) H) B0) ([.ref h, .ref (a 0)] : List Value).toArray s 51504 118801 (fun q => B0 ≤ q)) (F0 m 127 ls [.int (bI (s_isB nT T (nI i) (nI b))), .int 0, .ref q109, .ref q109]) := by
                        refine sx_iast hx hb hK.1 hS hN (hA q109 (by rw [hq111]; exact hz0112)) ix_0 (by decide) dX2_isSame_127 (fun H113 locs114 hN hz_ ho_ hS => ?_)
                        have hE := hE.wr (Nat.le_of_eq hq111.symm) hz_ ho_
                        refine lv_dup hx hb dX2_isSame_128 rfl ?_
                        refine lv_iconst (v := 1) hx hb dX2_isSame_129 (by decide) ?_
                        refine lv_aload hx hb dX2_isSame_130 (lv_at hl 1 rfl) ?_
                        refine sx_alenI hx hb hK.1 (hf107.ext0 hE) dX2_isSame_132 ?_
                        refine lv_iconst (v := 1) hx hb dX2_isSame_133 (by decide) ?_
                        have hj134 : W p l e ({ frames := 8, cells := 51504, slots := 118801, locals := 168 } : Room) s m ([.ref h, .ref (a 0)] : List Value).toArray below meth c H113 locs114 (((i * 2235 + b * 139) + (1 + s_ct T (nI i) (nI b) nT)) + 1) (((i * 5425 + b * 335) + (2 * s_ct T (nI i) (nI b) nT)) + 5) (MQ below (lQi (S := Unit) (fun r _ => r = 1) (fun _ H => lJ (dC, dI) cI cY a B0 h (hs, fx, n, t, xs, ys, lf, sy, co, n2, t2, xs2, ys2, lf2, sy2, co2) (nC, C, nT, T, nS, S, fl) H) B0) ([.ref h, .ref (a 0)] : List Value).toArray s 51504 118801 (fun q => B0 ≤ q)) (F0 m 142 ls [.int (bI (s_one nT T (nI i) (nI b))), .int 1, .ref q109, .ref q109]) := by
                          refine sx_iast hx hb hK.1 hS hN (hA q109 (by rw [hq111]; exact hz0112)) ix_1 (by decide) dX2_isSame_142 (fun H115 locs116 hN hz_ ho_ hS => ?_)
                          have hE := hE.wr (Nat.le_of_eq hq111.symm) hz_ ho_
                          refine lv_dup hx hb dX2_isSame_143 rfl ?_
                          refine lv_iconst (v := 2) hx hb dX2_isSame_144 (by decide) ?_
                          refine lv_iload hx hb dX2_isSame_145 (lv_at hl 0 rfl) ?_
                          have hj147 : W p l e ({ frames := 8, cells := 51504, slots := 118801, locals := 168 } : Room) s m ([.ref h, .ref (a 0)] : List Value).toArray below meth c H115 locs116 (((i * 2235 + b * 139) + (1 + s_ct T (nI i) (nI b) nT)) + 1) (((i * 5425 + b * 335) + (2 * s_ct T (nI i) (nI b) nT)) + 5) (MQ below (lQi (S := Unit) (fun r _ => r = 1) (fun _ H => lJ (dC, dI) cI cY a B0 h (hs, fx, n, t, xs, ys, lf, sy, co, n2, t2, xs2, ys2, lf2, sy2, co2) (nC, C, nT, T, nS, S, fl) H) B0) ([.ref h, .ref (a 0)] : List Value).toArray s 51504 118801 (fun q => B0 ≤ q)) (F0 m 166 ls [.int (bI (s_isS nT T nS S (nI i) (nI b))), .int 2, .ref q109, .ref q109]) := by
                            refine sx_iast hx hb hK.1 hS hN (hA q109 (by rw [hq111]; exact hz0112)) ix_2 (by decide) dX2_isSame_166 (fun H117 locs118 hN hz_ ho_ hS => ?_)
                            have hE := hE.wr (Nat.le_of_eq hq111.symm) hz_ ho_
                            refine lv_dup hx hb dX2_isSame_167 rfl ?_
                            refine lv_iconst (v := 3) hx hb dX2_isSame_168 (by decide) ?_
                            refine lv_aload_n hx hb dX2_isSame_169 rfl (lv_at hl 9 rfl) ?_
                            refine lv_iload hx hb dX2_isSame_170 (lv_at hl 6 rfl) ?_
                            refine lv_iload hx hb dX2_isSame_172 (lv_at hl 2 rfl) ?_
                            refine sc_cVNi (As := [.int (nI i), .int (nI b)]) (rest := [.int 3, .ref q109, .ref q109]) F (c_X2_isUnfair l dC dI cI cZ cY h nC C nT T nS S fl (nI i) (nI b) (by omega) hF (vp_in_nI hlt_i (by omega)) (vp_in_nI hlt_b (by omega)) H117.size) (cwV 2 hts gX2_isSame_X2_isUnfair rfl rfl rfl hd_X2_isUnfair ⟨Nat.le_of_ble_eq_true rfl, Nat.le_of_ble_eq_true rfl⟩) ⟨qc, qt, qs, (hO.ext0 hE), (hC.ext0 hE), (hTt.ext0 hE), (hSt.ext0 hE), hn1, hn2⟩ hK hS hA (sM.recv hK.1 ⟨qc, qt, qs, (hO.ext0 hE), (hC.ext0 hE), (hTt.ext0 hE), (hSt.ext0 hE), hn1, hn2⟩) rfl hl.1 rfl (lv_room (Nat.le_of_ble_eq_true rfl)) dX2_isSame_174 ⟨(by first | exact Nat.le_of_ble_eq_true rfl | omega | (dsimp only; omega)), (by first | exact Nat.le_of_ble_eq_true rfl | omega | (dsimp only; omega))⟩ (fun H119 locs120 hf121 hE2 hS => ?_)
                            have hN := hN.ext0 hE2
                            have hE := hE.tr hE2
                            have hj177 : W p l e ({ frames := 8, cells := 51504, slots := 118801, locals := 168 } : Room) s m ([.ref h, .ref (a 0)] : List Value).toArray below meth c H119 locs120 ((((i * 2235 + b * 139) + (1 + s_ct T (nI i) (nI b) nT)) + 1) + (1 + 2 * s_ct T (nI i) (nI b) nT)) ((((i * 5425 + b * 335) + (2 * s_ct T (nI i) (nI b) nT)) + 5) + (4 * s_ct T (nI i) (nI b) nT)) (MQ below (lQi (S := Unit) (fun r _ => r = 1) (fun _ H => lJ (dC, dI) cI cY a B0 h (hs, fx, n, t, xs, ys, lf, sy, co, n2, t2, xs2, ys2, lf2, sy2, co2) (nC, C, nT, T, nS, S, fl) H) B0) ([.ref h, .ref (a 0)] : List Value).toArray s 51504 118801 (fun q => B0 ≤ q)) (F0 m 185 ls [.int (bI (s_unf C nT T (nI i) (nI b))), .int 3, .ref q109, .ref q109]) := by
                              refine sx_iast hx hb hK.1 hS hN (hA q109 (by rw [hq111]; exact hz0112)) ix_3 (by decide) dX2_isSame_185 (fun H123 locs124 hN hz_ ho_ hS => ?_)
                              have hE := hE.wr (Nat.le_of_eq hq111.symm) hz_ ho_
                              refine lv_dup hx hb dX2_isSame_186 rfl ?_
                              refine lv_iconst (v := 4) hx hb dX2_isSame_187 (by decide) ?_
                              refine lv_aload_n hx hb dX2_isSame_188 rfl (lv_at hl 9 rfl) ?_
                              refine lv_iload hx hb dX2_isSame_189 (lv_at hl 6 rfl) ?_
                              refine lv_iload hx hb dX2_isSame_191 (lv_at hl 2 rfl) ?_
                              refine sc_cVNi (As := [.int (nI i), .int (nI b)]) (rest := [.int 4, .ref q109, .ref q109]) F (c_X2_canFlip l dC dI cI cZ cY h nC C nT T nS S fl (nI i) (nI b) (by omega) hnS hF (vp_in_nI hlt_i (by omega)) (vp_in_nI hlt_b (by omega)) H123.size) (cwV 2 hts gX2_isSame_X2_canFlip rfl rfl rfl hd_X2_canFlip ⟨Nat.le_of_ble_eq_true rfl, Nat.le_of_ble_eq_true rfl⟩) ⟨qc, qt, qs, (hO.ext0 hE), (hC.ext0 hE), (hTt.ext0 hE), (hSt.ext0 hE), hn1, hn2⟩ hK hS hA (sM.recv hK.1 ⟨qc, qt, qs, (hO.ext0 hE), (hC.ext0 hE), (hTt.ext0 hE), (hSt.ext0 hE), hn1, hn2⟩) rfl hl.1 rfl (lv_room (Nat.le_of_ble_eq_true rfl)) dX2_isSame_193 ⟨(by first | exact Nat.le_of_ble_eq_true rfl | omega | (dsimp only; omega)), (by first | exact Nat.le_of_ble_eq_true rfl | omega | (dsimp only; omega))⟩ (fun H125 locs126 hf127 hE2 hS => ?_)
                              have hN := hN.ext0 hE2
                              have hE := hE.tr hE2
                              have hj196 : W p l e ({ frames := 8, cells := 51504, slots := 118801, locals := 168 } : Room) s m ([.ref h, .ref (a 0)] : List Value).toArray below meth c H125 locs126 (((((i * 2235 + b * 139) + (1 + s_ct T (nI i) (nI b) nT)) + 1) + (1 + 2 * s_ct T (nI i) (nI b) nT)) + (1 + s_ct T (nI i) (nI b) nT)) (((((i * 5425 + b * 335) + (2 * s_ct T (nI i) (nI b) nT)) + 5) + (4 * s_ct T (nI i) (nI b) nT)) + (2 * s_ct T (nI i) (nI b) nT)) (MQ below (lQi (S := Unit) (fun r _ => r = 1) (fun _ H => lJ (dC, dI) cI cY a B0 h (hs, fx, n, t, xs, ys, lf, sy, co, n2, t2, xs2, ys2, lf2, sy2, co2) (nC, C, nT, T, nS, S, fl) H) B0) ([.ref h, .ref (a 0)] : List Value).toArray s 51504 118801 (fun q => B0 ≤ q)) (F0 m 204 ls [.int (bI (s_flp C nT T nS S (nI i) (nI b))), .int 4, .ref q109, .ref q109]) := by
                                refine sx_iast hx hb hK.1 hS hN (hA q109 (by rw [hq111]; exact hz0112)) ix_4 (by decide) dX2_isSame_204 (fun H129 locs130 hN hz_ ho_ hS => ?_)
                                have hE := hE.wr (Nat.le_of_eq hq111.symm) hz_ ho_
                                have hC := hC.ext0 hE
                                have hTt := hTt.ext0 hE
                                have hSt := hSt.ext0 hE
                                have hf107 := hf107.ext0 hE
                                have hB4 := hB4.tr (hE.up (Nat.zero_le _))
                                have hB70 := hB70.tr (hE.up (Nat.zero_le _))
                                have hO := hO.ext0 hE
                                have hP := hP.hy0 hE
                                have hr131 : hI cI _ H129 q109 5 (upd (upd (upd (upd (upd (fun _ => 0) 0 (bI (s_isB nT T (nI i) (nI b)))) 1 (bI (s_one nT T (nI i) (nI b)))) 2 (bI (s_isS nT T nS S (nI i) (nI b)))) 3 (bI (s_unf C nT T (nI i) (nI b)))) 4 (bI (s_flp C nT T nS S (nI i) (nI b)))) := hN
                                have hr131 : hI cI (h + 1) H129 q109 5 (s_eRow C nT T nS S (nI i) (nI b)) := hr131
                                refine lv_astore (lv' := [(11, .ref q109), (10, .int (bI (s_isB nT T (nI i) (nI b)))), (9, .ref q108), (8, .int (nI b)), (6, .int (s_hasN C nT T nS S i b)), (4, .int (s_bdN C nT T nS S (s_bdO nC C nT T nS S i) i b)), (7, .int (nI (rg_ct (s_inP T i) nT))), (5, .int (nI i)), (3, .int (s_eO nC C nT T nS S i)), (2, .int (nI nC)), (0, .ref h), (1, .ref (a 0))]) hx hb dX2_isSame_205 hl (by decide) rfl (fun ls hl => ?_)
                                refine lv_iconst (v := 0) hx hb dX2_isSame_207 (by decide) ?_
                                refine lv_istore (lv' := [(12, .int 0), (11, .ref q109), (10, .int (bI (s_isB nT T (nI i) (nI b)))), (9, .ref q108), (8, .int (nI b)), (6, .int (s_hasN C nT T nS S i b)), (4, .int (s_bdN C nT T nS S (s_bdO nC C nT T nS S i) i b)), (7, .int (nI (rg_ct (s_inP T i) nT))), (5, .int (nI i)), (3, .int (s_eO nC C nT T nS S i)), (2, .int (nI nC)), (0, .ref h), (1, .ref (a 0))]) hx hb dX2_isSame_208 hl (by decide) rfl (fun ls hl => ?_)
                                have hL210_132 : ∀ (k133 : Nat) (w : Nat), (5 - w) < k133 → (w ≤ 5) → ∀ (H136 : Heap) (locs137 : List Loc), hy h H129 H136 → va_S (fun q => B0 ≤ q) s.heap H136 locs137 → va_P (dC, dI) vwCl (lW cI a (hs, fx, n, t, xs, ys, lf, sy, co, n2, t2, xs2, ys2, lf2, sy2, co2)) H136 → ∀ ls : Array Slot, lv_has ls 13 [(12, .int (nI w)), (11, .ref q109), (10, .int (bI (s_isB nT T (nI i) (nI b)))), (9, .ref q108), (8, .int (nI b)), (6, .int (s_hasN C nT T nS S i b)), (4, .int (s_bdN C nT T nS S (s_bdO nC C nT T nS S i) i b)), (7, .int (nI (rg_ct (s_inP T i) nT))), (5, .int (nI i)), (3, .int (s_eO nC C nT T nS S i)), (2, .int (nI nC)), (0, .ref h), (1, .ref (a 0))] → W p l e ({ frames := 8, cells := 51504, slots := 118801, locals := 168 } : Room) s m ([.ref h, .ref (a 0)] : List Value).toArray below meth c H136 locs137 (i * 2235 + b * 139 + 124 + w * 3) (i * 5425 + b * 335 + 245 + w * 18) (MQ below (lQi (S := Unit) (fun r _ => r = 1) (fun _ H => lJ (dC, dI) cI cY a B0 h (hs, fx, n, t, xs, ys, lf, sy, co, n2, t2, xs2, ys2, lf2, sy2, co2) (nC, C, nT, T, nS, S, fl) H) B0) ([.ref h, .ref (a 0)] : List Value).toArray s 51504 118801 (fun q => B0 ≤ q)) (F0 m 210 ls []) := by
                                  intro k133
                                  induction k133 with
                                  | zero => intro w hk; exact absurd hk (Nat.not_lt_zero _)
                                  | succ k133 ih134 =>
                                    intro w hk_210 hi_w H136 locs137 hB135 hS hP  ls hl
                                    have hB4 := hB4.tr hB135
                                    have hB70 := hB70.tr hB135
                                    have hC := hC.ext (hB135.up (Nat.le_succ h))
                                    have hTt := hTt.ext (hB135.up (Nat.le_succ h))
                                    have hSt := hSt.ext (hB135.up (Nat.le_succ h))
                                    have hf107 := hf107.ext (hB135.up (Nat.le_succ h))
                                    have hr131 := hr131.ext (hB135.up (Nat.le_succ h))
                                    have hO := hO.ext hB135
                                    refine lv_iload hx hb dX2_isSame_210 (lv_at hl 0 rfl) ?_
                                    refine lv_iconst (v := 5) hx hb dX2_isSame_212 (by decide) ?_
                                    refine lv_icmp_ge (tgt := 242) hx hb dX2_isSame_213 (by decide) (fun c_138 => ?_) (fun c_138 => ?_)
                                    · have hge_w : 5 ≤ w := nI_le_le (by omega) (by omega) c_138
                                      have heq_w : w = 5 := by omega
                                      have hl : lv_has ls 13 [(12, .int (nI 5)), (11, .ref q109), (10, .int (bI (s_isB nT T (nI i) (nI b)))), (9, .ref q108), (8, .int (nI b)), (6, .int (s_hasN C nT T nS S i b)), (4, .int (s_bdN C nT T nS S (s_bdO nC C nT T nS S i) i b)), (7, .int (nI (rg_ct (s_inP T i) nT))), (5, .int (nI i)), (3, .int (s_eO nC C nT T nS S i)), (2, .int (nI nC)), (0, .ref h), (1, .ref (a 0))] := by rw [heq_w] at hl; exact hl
                                      refine lv_iload hx hb dX2_isSame_242 (lv_at hl 5 rfl) ?_
                                      refine lv_aload hx hb dX2_isSame_244 (lv_at hl 1 rfl) ?_
                                      refine lv_iconst (v := 0) hx hb dX2_isSame_246 (by decide) ?_
                                      refine sx_iald hx hb hK.1 hr131 ix_0 (by decide) dX2_isSame_247 ?_
                                      refine lv_iadd hx hb dX2_isSame_248 ?_
                                      refine lv_istore (lv' := [(6, .int ((s_hasN C nT T nS S i b) + ((s_eRow C nT T nS S (nI i) (nI b)) 0))), (12, .int (nI 5)), (11, .ref q109), (10, .int (bI (s_isB nT T (nI i) (nI b)))), (9, .ref q108), (8, .int (nI b)), (4, .int (s_bdN C nT T nS S (s_bdO nC C nT T nS S i) i b)), (7, .int (nI (rg_ct (s_inP T i) nT))), (5, .int (nI i)), (3, .int (s_eO nC C nT T nS S i)), (2, .int (nI nC)), (0, .ref h), (1, .ref (a 0))]) hx hb dX2_isSame_249 hl (by decide) rfl (fun ls hl => ?_)
                                      refine lv_iload hx hb dX2_isSame_251 (lv_at hl 6 rfl) ?_
                                      refine lv_aload hx hb dX2_isSame_253 (lv_at hl 2 rfl) ?_
                                      refine lv_iconst (v := 1) hx hb dX2_isSame_255 (by decide) ?_
                                      refine sx_iald hx hb hK.1 hr131 ix_1 (by decide) dX2_isSame_256 ?_
                                      refine lv_iadd hx hb dX2_isSame_257 ?_
                                      refine lv_istore (lv' := [(4, .int ((s_bdN C nT T nS S (s_bdO nC C nT T nS S i) i b) + ((s_eRow C nT T nS S (nI i) (nI b)) 1))), (6, .int ((s_hasN C nT T nS S i b) + ((s_eRow C nT T nS S (nI i) (nI b)) 0))), (12, .int (nI 5)), (11, .ref q109), (10, .int (bI (s_isB nT T (nI i) (nI b)))), (9, .ref q108), (8, .int (nI b)), (7, .int (nI (rg_ct (s_inP T i) nT))), (5, .int (nI i)), (3, .int (s_eO nC C nT T nS S i)), (2, .int (nI nC)), (0, .ref h), (1, .ref (a 0))]) hx hb dX2_isSame_258 hl (by decide) rfl (fun ls hl => ?_)
                                      refine lv_iinc (v := nI (b + 1)) (lv' := [(8, .int (nI (b + 1))), (4, .int ((s_bdN C nT T nS S (s_bdO nC C nT T nS S i) i b) + ((s_eRow C nT T nS S (nI i) (nI b)) 1))), (6, .int ((s_hasN C nT T nS S i b) + ((s_eRow C nT T nS S (nI i) (nI b)) 0))), (12, .int (nI 5)), (11, .ref q109), (10, .int (bI (s_isB nT T (nI i) (nI b)))), (9, .ref q108), (7, .int (nI (rg_ct (s_inP T i) nT))), (5, .int (nI i)), (3, .int (s_eO nC C nT T nS S i)), (2, .int (nI nC)), (0, .ref h), (1, .ref (a 0))]) hx hb dX2_isSame_260 hl (k := 6) rfl (nI_1 _) (by decide) rfl (fun ls hl => ?_)
                                      refine lv_goto (tgt := 83) hx hb dX2_isSame_263 (by decide) ?_
                                      have hl := lv_sub (l' := [(8, .int (nI (b + 1))), (6, .int ((s_hasN C nT T nS S i b) + ((s_eRow C nT T nS S (nI i) (nI b)) 0))), (4, .int ((s_bdN C nT T nS S (s_bdO nC C nT T nS S i) i b) + ((s_eRow C nT T nS S (nI i) (nI b)) 1))), (7, .int (nI (rg_ct (s_inP T i) nT))), (5, .int (nI i)), (3, .int (s_eO nC C nT T nS S i)), (2, .int (nI nC)), (0, .ref h), (1, .ref (a 0))]) hl [0, 2, 1, 7, 8, 9, 10, 11, 12] rfl
                                      have hl : lv_has ls 13 [(8, .int (nI (b + 1))), (6, .int (s_hasN C nT T nS S i (b + 1))), (4, .int (s_bdN C nT T nS S (s_bdO nC C nT T nS S i) i (b + 1))), (7, .int (nI (rg_ct (s_inP T i) nT))), (5, .int (nI i)), (3, .int (s_eO nC C nT T nS S i)), (2, .int (nI nC)), (0, .ref h), (1, .ref (a 0))] := by
                                        have e9 : [(8, .int (nI (b + 1))), (6, .int ((s_hasN C nT T nS S i b) + ((s_eRow C nT T nS S (nI i) (nI b)) 0))), (4, .int ((s_bdN C nT T nS S (s_bdO nC C nT T nS S i) i b) + ((s_eRow C nT T nS S (nI i) (nI b)) 1))), (7, .int (nI (rg_ct (s_inP T i) nT))), (5, .int (nI i)), (3, .int (s_eO nC C nT T nS S i)), (2, .int (nI nC)), (0, .ref h), (1, .ref (a 0))] = ([(8, .int (nI (b + 1))), (6, .int (s_hasN C nT T nS S i (b + 1))), (4, .int (s_bdN C nT T nS S (s_bdO nC C nT T nS S i) i (b + 1))), (7, .int (nI (rg_ct (s_inP T i) nT))), (5, .int (nI i)), (3, .int (s_eO nC C nT T nS S i)), (2, .int (nI nC)), (0, .ref h), (1, .ref (a 0))] : List (Nat × Value)) := by rfl
                                        rw [← e9]; exact hl
                                      refine W.widen (show (i * 2235 + b * 139 + 124 + w * 3) ≤ i * 2235 + (b + 1) * 139 from (by omega)) (show (i * 5425 + b * 335 + 245 + w * 18) ≤ i * 5425 + (b + 1) * 335 from (by omega)) ?_
                                      exact ih69 (b + 1) (by omega) (by omega) _ _ hB70 hS hP  _ hl
                                    · have hlt_w : w < 5 := nI_nle_lt (by omega) (by omega) c_138
                                      refine lv_aload_n hx hb dX2_isSame_216 rfl (lv_at hl 12 rfl) ?_
                                      refine lv_iload hx hb dX2_isSame_217 (lv_at hl 8 rfl) ?_
                                      refine lv_iload hx hb dX2_isSame_219 (lv_at hl 4 rfl) ?_
                                      refine lv_iload hx hb dX2_isSame_221 (lv_at hl 0 rfl) ?_
                                      refine lc_xi (As := [.int (nI i), .int (nI b), .int (nI w)]) (rest := []) hX9 F (c_X1_edge l hl0 dC dI cI cZ cY (a 0) (a 1) hs fx (a 2) (a 3) (a 4) (a 5) (a 6) (a 7) n t xs ys lf sy co (a 8) (a 9) (a 10) (a 11) (a 12) (a 13) n2 t2 xs2 ys2 lf2 sy2 co2 (nI i) (nI b) (nI w) H136.size ) (cwV 3 hts gX2_isSame_X1_edge rfl rfl rfl hd_X1_edge ⟨Nat.le_of_ble_eq_true rfl, Nat.le_of_ble_eq_true rfl⟩) (HEO i b w hlt_i hlt_b hlt_w).1 rfl hP hK hD hS hB (lW_recv hK.1 hP) rfl hl.1 rfl (lv_room (Nat.le_of_ble_eq_true rfl)) dX2_isSame_223 ⟨(by first | exact Nat.le_of_ble_eq_true rfl | omega | (dsimp only; omega)), (by first | exact Nat.le_of_ble_eq_true rfl | omega | (dsimp only; omega))⟩ (fun H139 locs140 hP hD hY hS => ?_)
                                      have hC := hC.ext (hY.up (Nat.le_succ h))
                                      have hTt := hTt.ext (hY.up (Nat.le_succ h))
                                      have hSt := hSt.ext (hY.up (Nat.le_succ h))
                                      have hf107 := hf107.ext (hY.up (Nat.le_succ h))
                                      have hr131 := hr131.ext (hY.up (Nat.le_succ h))
                                      have hO := hO.ext hY
                                      have hB4 := hB4.tr hY
                                      have hB70 := hB70.tr hY
                                      have hB135 := hB135.tr hY
                                      refine lv_aload hx hb dX2_isSame_226 (lv_at hl 1 rfl) ?_
                                      refine lv_iload hx hb dX2_isSame_228 (lv_at hl 0 rfl) ?_
                                      refine sx_iald hx hb hK.1 hr131 (ix_nI (by omega)) hlt_w dX2_isSame_230 ?_
                                      refine lv_icmp_eq (tgt := 236) hx hb dX2_isSame_231 (by decide) (fun c_141 => ?_) (fun c_141 => ?_)
                                      · refine lv_iinc (v := nI (w + 1)) (lv' := [(12, .int (nI (w + 1))), (11, .ref q109), (10, .int (bI (s_isB nT T (nI i) (nI b)))), (9, .ref q108), (8, .int (nI b)), (6, .int (s_hasN C nT T nS S i b)), (4, .int (s_bdN C nT T nS S (s_bdO nC C nT T nS S i) i b)), (7, .int (nI (rg_ct (s_inP T i) nT))), (5, .int (nI i)), (3, .int (s_eO nC C nT T nS S i)), (2, .int (nI nC)), (0, .ref h), (1, .ref (a 0))]) hx hb dX2_isSame_236 hl (k := 0) rfl (nI_1 _) (by decide) rfl (fun ls hl => ?_)
                                        refine lv_goto (tgt := 210) hx hb dX2_isSame_239 (by decide) ?_
                                        have hl := lv_sub (l' := [(12, .int (nI (w + 1))), (11, .ref q109), (10, .int (bI (s_isB nT T (nI i) (nI b)))), (9, .ref q108), (8, .int (nI b)), (6, .int (s_hasN C nT T nS S i b)), (4, .int (s_bdN C nT T nS S (s_bdO nC C nT T nS S i) i b)), (7, .int (nI (rg_ct (s_inP T i) nT))), (5, .int (nI i)), (3, .int (s_eO nC C nT T nS S i)), (2, .int (nI nC)), (0, .ref h), (1, .ref (a 0))]) hl [0, 1, 2, 3, 4, 5, 6, 7, 8, 9, 10, 11, 12] rfl
                                        have hl : lv_has ls 13 [(12, .int (nI (w + 1))), (11, .ref q109), (10, .int (bI (s_isB nT T (nI i) (nI b)))), (9, .ref q108), (8, .int (nI b)), (6, .int (s_hasN C nT T nS S i b)), (4, .int (s_bdN C nT T nS S (s_bdO nC C nT T nS S i) i b)), (7, .int (nI (rg_ct (s_inP T i) nT))), (5, .int (nI i)), (3, .int (s_eO nC C nT T nS S i)), (2, .int (nI nC)), (0, .ref h), (1, .ref (a 0))] := by
                                          have e9 : [(12, .int (nI (w + 1))), (11, .ref q109), (10, .int (bI (s_isB nT T (nI i) (nI b)))), (9, .ref q108), (8, .int (nI b)), (6, .int (s_hasN C nT T nS S i b)), (4, .int (s_bdN C nT T nS S (s_bdO nC C nT T nS S i) i b)), (7, .int (nI (rg_ct (s_inP T i) nT))), (5, .int (nI i)), (3, .int (s_eO nC C nT T nS S i)), (2, .int (nI nC)), (0, .ref h), (1, .ref (a 0))] = ([(12, .int (nI (w + 1))), (11, .ref q109), (10, .int (bI (s_isB nT T (nI i) (nI b)))), (9, .ref q108), (8, .int (nI b)), (6, .int (s_hasN C nT T nS S i b)), (4, .int (s_bdN C nT T nS S (s_bdO nC C nT T nS S i) i b)), (7, .int (nI (rg_ct (s_inP T i) nT))), (5, .int (nI i)), (3, .int (s_eO nC C nT T nS S i)), (2, .int (nI nC)), (0, .ref h), (1, .ref (a 0))] : List (Nat × Value)) := by rfl
                                          rw [← e9]; exact hl
                                        refine W.widen (show ((i * 2235 + b * 139 + 124 + w * 3) + 3) ≤ i * 2235 + b * 139 + 124 + (w + 1) * 3 from (by omega)) (show ((i * 5425 + b * 335 + 245 + w * 18) + 18) ≤ i * 5425 + b * 335 + 245 + (w + 1) * 18 from (by omega)) ?_
                                        exact ih134 (w + 1) (by omega) (by omega) _ _ hB135 hS hP  _ hl
                                      · exact absurd (HEO i b w hlt_i hlt_b hlt_w).2 c_141
                                have hl := lv_sub (l' := [(12, .int 0), (11, .ref q109), (10, .int (bI (s_isB nT T (nI i) (nI b)))), (9, .ref q108), (8, .int (nI b)), (6, .int (s_hasN C nT T nS S i b)), (4, .int (s_bdN C nT T nS S (s_bdO nC C nT T nS S i) i b)), (7, .int (nI (rg_ct (s_inP T i) nT))), (5, .int (nI i)), (3, .int (s_eO nC C nT T nS S i)), (2, .int (nI nC)), (0, .ref h), (1, .ref (a 0))]) hl [0, 1, 2, 3, 4, 5, 6, 7, 8, 9, 10, 11, 12] rfl
                                have hl : lv_has ls 13 [(12, .int (nI 0)), (11, .ref q109), (10, .int (bI (s_isB nT T (nI i) (nI b)))), (9, .ref q108), (8, .int (nI b)), (6, .int (s_hasN C nT T nS S i b)), (4, .int (s_bdN C nT T nS S (s_bdO nC C nT T nS S i) i b)), (7, .int (nI (rg_ct (s_inP T i) nT))), (5, .int (nI i)), (3, .int (s_eO nC C nT T nS S i)), (2, .int (nI nC)), (0, .ref h), (1, .ref (a 0))] := by
                                  have e9 : [(12, .int 0), (11, .ref q109), (10, .int (bI (s_isB nT T (nI i) (nI b)))), (9, .ref q108), (8, .int (nI b)), (6, .int (s_hasN C nT T nS S i b)), (4, .int (s_bdN C nT T nS S (s_bdO nC C nT T nS S i) i b)), (7, .int (nI (rg_ct (s_inP T i) nT))), (5, .int (nI i)), (3, .int (s_eO nC C nT T nS S i)), (2, .int (nI nC)), (0, .ref h), (1, .ref (a 0))] = ([(12, .int (nI 0)), (11, .ref q109), (10, .int (bI (s_isB nT T (nI i) (nI b)))), (9, .ref q108), (8, .int (nI b)), (6, .int (s_hasN C nT T nS S i b)), (4, .int (s_bdN C nT T nS S (s_bdO nC C nT T nS S i) i b)), (7, .int (nI (rg_ct (s_inP T i) nT))), (5, .int (nI i)), (3, .int (s_eO nC C nT T nS S i)), (2, .int (nI nC)), (0, .ref h), (1, .ref (a 0))] : List (Nat × Value)) := by rfl
                                  rw [← e9]; exact hl
                                refine W.widen (show (((((i * 2235 + b * 139) + (1 + s_ct T (nI i) (nI b) nT)) + 1) + (1 + 2 * s_ct T (nI i) (nI b) nT)) + (1 + s_ct T (nI i) (nI b) nT)) ≤ i * 2235 + b * 139 + 124 + 0 * 3 from (by omega)) (show (((((i * 5425 + b * 335) + (2 * s_ct T (nI i) (nI b) nT)) + 5) + (4 * s_ct T (nI i) (nI b) nT)) + (2 * s_ct T (nI i) (nI b) nT)) ≤ i * 5425 + b * 335 + 245 + 0 * 18 from (by omega)) ?_
                                exact hL210_132 _ 0 (Nat.lt_succ_self _) (by omega) _ _ hy.rf hS hP  _ hl
                              refine lv_if_eqB (tgt := 203) hx hb dX2_isSame_196 (by decide) (fun c_142 => ?_) (fun c_142 => ?_)
                              · refine lv_iconst (v := 0) hx hb dX2_isSame_203 (by decide) ?_
                                refine lv_cvi (y := (bI (s_flp C nT T nS S (nI i) (nI b)))) (by rw [c_142]; rfl) ?_
                                exact hj196
                              · refine lv_iconst (v := 1) hx hb dX2_isSame_199 (by decide) ?_
                                refine lv_goto (tgt := 204) hx hb dX2_isSame_200 (by decide) ?_
                                refine lv_cvi (y := (bI (s_flp C nT T nS S (nI i) (nI b)))) (by rw [c_142]; rfl) ?_
                                exact hj196
                            refine lv_if_eqB (tgt := 184) hx hb dX2_isSame_177 (by decide) (fun c_143 => ?_) (fun c_143 => ?_)
                            · refine lv_iconst (v := 0) hx hb dX2_isSame_184 (by decide) ?_
                              refine lv_cvi (y := (bI (s_unf C nT T (nI i) (nI b)))) (by rw [c_143]; rfl) ?_
                              exact hj177
                            · refine lv_iconst (v := 1) hx hb dX2_isSame_180 (by decide) ?_
                              refine lv_goto (tgt := 185) hx hb dX2_isSame_181 (by decide) ?_
                              refine lv_cvi (y := (bI (s_unf C nT T (nI i) (nI b)))) (by rw [c_143]; rfl) ?_
                              exact hj177
                          refine lv_if_eqB (tgt := 165) hx hb dX2_isSame_147 (by decide) (fun c_144 => ?_) (fun c_144 => ?_)
                          · refine lv_iconst (v := 0) hx hb dX2_isSame_165 (by decide) ?_
                            refine lv_cvi (y := (bI (s_isS nT T nS S (nI i) (nI b)))) (by rw [s_isS, if_neg (by rw [c_144]; decide)]; rfl) ?_
                            exact hj147
                          · refine lv_aload_n hx hb dX2_isSame_150 rfl (lv_at hl 9 rfl) ?_
                            refine lv_iload hx hb dX2_isSame_151 (lv_at hl 6 rfl) ?_
                            refine lv_iload hx hb dX2_isSame_153 (lv_at hl 2 rfl) ?_
                            refine sr_cVi (As := [.int (nI i), .int (nI b)]) (rest := [.int 2, .ref q109, .ref q109]) F (c_X2_isStaying l dC dI cI cZ cY h nC C nT T nS S fl (nI i) (nI b) hnS) (cwV 2 hts gX2_isSame_X2_isStaying rfl rfl rfl hd_X2_isStaying ⟨Nat.le_of_ble_eq_true rfl, Nat.le_of_ble_eq_true rfl⟩) ⟨qc, qt, qs, (hO.ext0 hE), (hC.ext0 hE), (hTt.ext0 hE), (hSt.ext0 hE), hn1, hn2⟩ hK (sM.recv hK.1 ⟨qc, qt, qs, (hO.ext0 hE), (hC.ext0 hE), (hTt.ext0 hE), (hSt.ext0 hE), hn1, hn2⟩) rfl hl.1 rfl (lv_room (Nat.le_of_ble_eq_true rfl)) dX2_isSame_155 ⟨(by first | exact Nat.le_of_ble_eq_true rfl | omega | (dsimp only; omega)), (by first | exact Nat.le_of_ble_eq_true rfl | omega | (dsimp only; omega))⟩ ?_
                            refine lv_if_eqB (tgt := 165) hx hb dX2_isSame_158 (by decide) (fun c_145 => ?_) (fun c_145 => ?_)
                            · refine lv_iconst (v := 0) hx hb dX2_isSame_165 (by decide) ?_
                              refine lv_cvi (y := (bI (s_isS nT T nS S (nI i) (nI b)))) (by rw [s_isS, if_pos c_144, c_145]; rfl) ?_
                              exact hj147
                            · refine lv_iconst (v := 1) hx hb dX2_isSame_161 (by decide) ?_
                              refine lv_goto (tgt := 166) hx hb dX2_isSame_162 (by decide) ?_
                              refine lv_cvi (y := (bI (s_isS nT T nS S (nI i) (nI b)))) (by rw [s_isS, if_pos c_144, c_145]; rfl) ?_
                              exact hj147
                        refine lv_icmp_ne (tgt := 141) hx hb dX2_isSame_134 (by decide) (fun c_146 => ?_) (fun c_146 => ?_)
                        · refine lv_iconst (v := 0) hx hb dX2_isSame_141 (by decide) ?_
                          refine lv_cvi (y := (bI (s_one nT T (nI i) (nI b)))) (by rw [s_one, if_neg c_146]; rfl) ?_
                          exact hj134
                        · refine lv_iconst (v := 1) hx hb dX2_isSame_137 (by decide) ?_
                          refine lv_goto (tgt := 142) hx hb dX2_isSame_138 (by decide) ?_
                          refine lv_cvi (y := (bI (s_one nT T (nI i) (nI b)))) (by rw [s_one, if_pos c_146]; rfl) ?_
                          exact hj134
                      refine lv_if_eqB (tgt := 126) hx hb dX2_isSame_119 (by decide) (fun c_147 => ?_) (fun c_147 => ?_)
                      · refine lv_iconst (v := 0) hx hb dX2_isSame_126 (by decide) ?_
                        refine lv_cvi (y := (bI (s_isB nT T (nI i) (nI b)))) (by rw [c_147]; rfl) ?_
                        exact hj119
                      · refine lv_iconst (v := 1) hx hb dX2_isSame_122 (by decide) ?_
                        refine lv_goto (tgt := 127) hx hb dX2_isSame_123 (by decide) ?_
                        refine lv_cvi (y := (bI (s_isB nT T (nI i) (nI b)))) (by rw [c_147]; rfl) ?_
                        exact hj119
                    refine lv_if_le (tgt := 109) hx hb dX2_isSame_102 (by decide) (fun c_148 => ?_) (fun c_148 => ?_)
                    · refine lv_iconst (v := 0) hx hb dX2_isSame_109 (by decide) ?_
                      refine lv_cvi (y := (bI (s_isB nT T (nI i) (nI b)))) (by rw [s_isB, if_pos c_148]; rfl) ?_
                      exact hj102
                    · refine lv_iconst (v := 1) hx hb dX2_isSame_105 (by decide) ?_
                      refine lv_goto (tgt := 110) hx hb dX2_isSame_106 (by decide) ?_
                      refine lv_cvi (y := (bI (s_isB nT T (nI i) (nI b)))) (by rw [s_isB, if_neg c_148]; rfl) ?_
                      exact hj102
              have hl := lv_sub (l' := [(8, .int 0), (6, .int 0), (4, .int (s_bdO nC C nT T nS S i)), (7, .int (nI (rg_ct (s_inP T i) nT))), (5, .int (nI i)), (3, .int (s_eO nC C nT T nS S i)), (2, .int (nI nC)), (0, .ref h), (1, .ref (a 0))]) hl [0, 4, 7, 2, 5, 6, 8, 9, 10] rfl
              have hl : lv_has ls 13 [(8, .int (nI 0)), (6, .int (s_hasN C nT T nS S i 0)), (4, .int (s_bdN C nT T nS S (s_bdO nC C nT T nS S i) i 0)), (7, .int (nI (rg_ct (s_inP T i) nT))), (5, .int (nI i)), (3, .int (s_eO nC C nT T nS S i)), (2, .int (nI nC)), (0, .ref h), (1, .ref (a 0))] := by
                have e9 : [(8, .int 0), (6, .int 0), (4, .int (s_bdO nC C nT T nS S i)), (7, .int (nI (rg_ct (s_inP T i) nT))), (5, .int (nI i)), (3, .int (s_eO nC C nT T nS S i)), (2, .int (nI nC)), (0, .ref h), (1, .ref (a 0))] = ([(8, .int (nI 0)), (6, .int (s_hasN C nT T nS S i 0)), (4, .int (s_bdN C nT T nS S (s_bdO nC C nT T nS S i) i 0)), (7, .int (nI (rg_ct (s_inP T i) nT))), (5, .int (nI i)), (3, .int (s_eO nC C nT T nS S i)), (2, .int (nI nC)), (0, .ref h), (1, .ref (a 0))] : List (Nat × Value)) := by rfl
                rw [← e9]; exact hl
              refine W.widen (show (i * 2235) ≤ i * 2235 + 0 * 139 from (by omega)) (show (i * 5425) ≤ i * 5425 + 0 * 335 from (by omega)) ?_
              exact hL83_67 _ 0 (Nat.lt_succ_self _) (by omega) _ _ hy.rf hS hP  _ hl
            · have hlt_j : j < nT := nI_nle_lt (by omega) (by omega) c_66
              refine lv_aload hx hb dX2_isSame_47 (lv_at hl 3 rfl) ?_
              refine lv_iload hx hb dX2_isSame_49 (lv_at hl 0 rfl) ?_
              refine sx_aald hx hb hK.1 hTt (ix_nI (by omega)) hlt_j dX2_isSame_51 (fun xq149 hr150 => ?_)
              refine lv_astore (lv' := [(11, .ref xq149), (10, .int (nI j)), (7, .int (nI (rg_ct (s_inP T i) j))), (9, .int (nI nT)), (8, .ref qt), (6, .int 0), (5, .int (nI i)), (3, .int (s_eO nC C nT T nS S i)), (4, .int (s_bdO nC C nT T nS S i)), (2, .int (nI nC)), (0, .ref h), (1, .ref (a 0))]) hx hb dX2_isSame_52 hl (by decide) rfl (fun ls hl => ?_)
              refine lv_iload hx hb dX2_isSame_54 (lv_at hl 2 rfl) ?_
              refine lv_aload hx hb dX2_isSame_56 (lv_at hl 0 rfl) ?_
              refine lv_iload hx hb dX2_isSame_58 (lv_at hl 6 rfl) ?_
              refine sr_cSi (As := [.ref xq149, .int (nI i)]) (rest := [.int (nI (rg_ct (s_inP T i) j))]) F (c_X2_has l dC dI cI cZ cY (h + 1) xq149 (T j) (nI i)) (cwS 2 hts gX2_isSame_X2_has rfl rfl rfl hd_X2_has ⟨Nat.le_of_ble_eq_true rfl, Nat.le_of_ble_eq_true rfl⟩) hr150 hK rfl hl.1 rfl (lv_room (Nat.le_of_ble_eq_true rfl)) dX2_isSame_60 ⟨(by first | exact Nat.le_of_ble_eq_true rfl | omega | (dsimp only; omega)), (by first | exact Nat.le_of_ble_eq_true rfl | omega | (dsimp only; omega))⟩ ?_
              have hj63 : W p l e ({ frames := 8, cells := 51504, slots := 118801, locals := 168 } : Room) s m ([.ref h, .ref (a 0)] : List Value).toArray below meth c H5 locs6 (i * 2235) (i * 5425) (MQ below (lQi (S := Unit) (fun r _ => r = 1) (fun _ H => lJ (dC, dI) cI cY a B0 h (hs, fx, n, t, xs, ys, lf, sy, co, n2, t2, xs2, ys2, lf2, sy2, co2) (nC, C, nT, T, nS, S, fl) H) B0) ([.ref h, .ref (a 0)] : List Value).toArray s 51504 118801 (fun q => B0 ≤ q)) (F0 m 71 ls [.int (bI (s_has (T j) (nI i))), .int (nI (rg_ct (s_inP T i) j))]) := by
                refine lv_iadd hx hb dX2_isSame_71 ?_
                refine lv_istore (lv' := [(7, .int ((nI (rg_ct (s_inP T i) j)) + (bI (s_has (T j) (nI i))))), (11, .ref xq149), (10, .int (nI j)), (9, .int (nI nT)), (8, .ref qt), (6, .int 0), (5, .int (nI i)), (3, .int (s_eO nC C nT T nS S i)), (4, .int (s_bdO nC C nT T nS S i)), (2, .int (nI nC)), (0, .ref h), (1, .ref (a 0))]) hx hb dX2_isSame_72 hl (by decide) rfl (fun ls hl => ?_)
                refine lv_iinc (v := nI (j + 1)) (lv' := [(10, .int (nI (j + 1))), (7, .int ((nI (rg_ct (s_inP T i) j)) + (bI (s_has (T j) (nI i))))), (11, .ref xq149), (9, .int (nI nT)), (8, .ref qt), (6, .int 0), (5, .int (nI i)), (3, .int (s_eO nC C nT T nS S i)), (4, .int (s_bdO nC C nT T nS S i)), (2, .int (nI nC)), (0, .ref h), (1, .ref (a 0))]) hx hb dX2_isSame_74 hl (k := 2) rfl (nI_1 _) (by decide) rfl (fun ls hl => ?_)
                refine lv_goto (tgt := 40) hx hb dX2_isSame_77 (by decide) ?_
                have hl := lv_sub (l' := [(10, .int (nI (j + 1))), (7, .int ((nI (rg_ct (s_inP T i) j)) + (bI (s_has (T j) (nI i))))), (9, .int (nI nT)), (8, .ref qt), (6, .int 0), (5, .int (nI i)), (3, .int (s_eO nC C nT T nS S i)), (4, .int (s_bdO nC C nT T nS S i)), (2, .int (nI nC)), (0, .ref h), (1, .ref (a 0))]) hl [0, 1, 3, 4, 5, 6, 7, 8, 9, 10, 11] rfl
                have hl : lv_has ls 13 [(10, .int (nI (j + 1))), (7, .int (nI (rg_ct (s_inP T i) (j + 1)))), (9, .int (nI nT)), (8, .ref qt), (6, .int 0), (5, .int (nI i)), (3, .int (s_eO nC C nT T nS S i)), (4, .int (s_bdO nC C nT T nS S i)), (2, .int (nI nC)), (0, .ref h), (1, .ref (a 0))] := by
                  have e9 : [(10, .int (nI (j + 1))), (7, .int ((nI (rg_ct (s_inP T i) j)) + (bI (s_has (T j) (nI i))))), (9, .int (nI nT)), (8, .ref qt), (6, .int 0), (5, .int (nI i)), (3, .int (s_eO nC C nT T nS S i)), (4, .int (s_bdO nC C nT T nS S i)), (2, .int (nI nC)), (0, .ref h), (1, .ref (a 0))] = ([(10, .int (nI (j + 1))), (7, .int (nI (rg_ct (s_inP T i) (j + 1)))), (9, .int (nI nT)), (8, .ref qt), (6, .int 0), (5, .int (nI i)), (3, .int (s_eO nC C nT T nS S i)), (4, .int (s_bdO nC C nT T nS S i)), (2, .int (nI nC)), (0, .ref h), (1, .ref (a 0))] : List (Nat × Value)) := by rw [s_rgI (s_inP T i) j]; rfl
                  rw [← e9]; exact hl
                exact ih_65 (j + 1) (by omega) (by omega) _ hl
              refine lv_if_eqB (tgt := 70) hx hb dX2_isSame_63 (by decide) (fun c_151 => ?_) (fun c_151 => ?_)
              · refine lv_iconst (v := 0) hx hb dX2_isSame_70 (by decide) ?_
                refine lv_cvi (y := (bI (s_has (T j) (nI i)))) (by rw [c_151]; rfl) ?_
                exact hj63
              · refine lv_iconst (v := 1) hx hb dX2_isSame_66 (by decide) ?_
                refine lv_goto (tgt := 71) hx hb dX2_isSame_67 (by decide) ?_
                refine lv_cvi (y := (bI (s_has (T j) (nI i)))) (by rw [c_151]; rfl) ?_
                exact hj63
        have hl := lv_sub (l' := [(10, .int 0), (7, .int 0), (9, .int (nI nT)), (8, .ref qt), (6, .int 0), (5, .int (nI i)), (3, .int (s_eO nC C nT T nS S i)), (4, .int (s_bdO nC C nT T nS S i)), (2, .int (nI nC)), (0, .ref h), (1, .ref (a 0))]) hl [0, 3, 1, 2, 4, 5, 6, 7, 8, 9, 10] rfl
        have hl : lv_has ls 13 [(10, .int (nI 0)), (7, .int (nI (rg_ct (s_inP T i) 0))), (9, .int (nI nT)), (8, .ref qt), (6, .int 0), (5, .int (nI i)), (3, .int (s_eO nC C nT T nS S i)), (4, .int (s_bdO nC C nT T nS S i)), (2, .int (nI nC)), (0, .ref h), (1, .ref (a 0))] := by
          have e9 : [(10, .int 0), (7, .int 0), (9, .int (nI nT)), (8, .ref qt), (6, .int 0), (5, .int (nI i)), (3, .int (s_eO nC C nT T nS S i)), (4, .int (s_bdO nC C nT T nS S i)), (2, .int (nI nC)), (0, .ref h), (1, .ref (a 0))] = ([(10, .int (nI 0)), (7, .int (nI (rg_ct (s_inP T i) 0))), (9, .int (nI nT)), (8, .ref qt), (6, .int 0), (5, .int (nI i)), (3, .int (s_eO nC C nT T nS S i)), (4, .int (s_bdO nC C nT T nS S i)), (2, .int (nI nC)), (0, .ref h), (1, .ref (a 0))] : List (Nat × Value)) := by rfl
          rw [← e9]; exact hl
        exact hL40 _ 0 (Nat.lt_succ_self _) (by omega) _ hl
  have hl := lv_sub (l' := [(5, .int 0), (3, .int 0), (4, .int 0), (2, .int (nI nC)), (0, .ref h), (1, .ref (a 0))]) hl [0, 2, 1, 3, 4, 5] rfl
  have hl : lv_has ls 13 [(5, .int (nI 0)), (3, .int (s_eO nC C nT T nS S 0)), (4, .int (s_bdO nC C nT T nS S 0)), (2, .int (nI nC)), (0, .ref h), (1, .ref (a 0))] := by
    have e9 : [(5, .int 0), (3, .int 0), (4, .int 0), (2, .int (nI nC)), (0, .ref h), (1, .ref (a 0))] = ([(5, .int (nI 0)), (3, .int (s_eO nC C nT T nS S 0)), (4, .int (s_bdO nC C nT T nS S 0)), (2, .int (nI nC)), (0, .ref h), (1, .ref (a 0))] : List (Nat × Value)) := by rfl
    rw [← e9]; exact hl
  refine W.widen (show 0 ≤ 0 * 2235 from (by omega)) (show 0 ≤ 0 * 5425 from (by omega)) ?_
  exact hL14_1 _ 0 (Nat.lt_succ_self _) (by omega) _ _ hy.rf hS hP  _ hl
