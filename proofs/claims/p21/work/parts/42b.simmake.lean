/-! the law's own moor: methods that make rows, by program (gens.py) -/
theorem na_X2_fars : (Cond.arrayClass .int) ∈ wsX2_fars := by decide +kernel
theorem in_X2_fars_X2 : ∀ w ∈ wsX20, w ∈ wsX2_fars := by decide +kernel
theorem fl_X2_fars_15 : (Cond.fieldLink RX2 15 "MoorTrianglesLaw$Sim" "triangles" "[[I") ∈ wsX2_fars := by decide +kernel
theorem hd_X2_fars : yX2_fars.cls = RX2 ∧ yX2_fars.cls ≠ "java/lang/invoke/MethodHandle" ∧ yX2_fars.cls ≠ "java/lang/invoke/VarHandle" ∧ (parseMethodDescriptor yX2_fars.desc).map (fun d => d.parameters.length) = some 2 := by decide +kernel
set_option maxHeartbeats 4000000 in
set_option maxRecDepth 100000 in
theorem c_X2_fars (l : Launch) (dC : Nat → ClassId) (dI : Nat → Nat → Nat) (cI cZ cY : ClassId) (h : Nat) (nC : Nat) (C : Nat → Nat → Int32) (nT : Nat) (T : Nat → Nat → Int32) (nS : Nat) (S : Nat → Nat → Int32) (fl : Int32) (a : Int32) (b : Int32) (hnT : nT ≤ 1000) (sz : Nat) : Met l yX2_fars wsX2_fars ({ frames := 1, cells := 1 + s_ct T a b nT, slots := 2 * s_ct T a b nT, locals := 21 }) (va_Pc [.ref h, .int a, .int b] (sPz (dC, dI) cI cZ cY (sM (dC, dI) cI cY h nC C nT T nS S fl) sz)) (sQr (fun H q => hI cI (h + 1) H q (s_fa T a b nT).1 (sF (s_fa T a b nT))) (aN sz)) (1 + s_ct T a b nT) (2 * s_ct T a b nT) (aN sz) := by
  refine sa_start (cc := cX2_fars) (maxL := 9) (ret := (some (.array .int))) (Q0 := sQr (fun H q => hI cI (h + 1) H q (s_fa T a b nT).1 (sF (s_fa T a b nT)))) aN aN_ok RX2 (by decide) rfl rfl (Nat.le_of_ble_eq_true rfl) ?_
  intro p e s m below meth c ⟨hx, hb, hr, hml, hown, hts, hlocks, hini⟩ hM0 hK A hAe hA hS ls hl
  have F : CallFix p m c cX2_fars 9 s ([.ref h, .int a, .int b] : List Value).toArray wsX2_fars RX2 := ⟨hx, hb, hml, hown, hts⟩
  have hl : lv_has ls 9 [(0, .ref h), (1, .int a), (2, .int b)] := hl
  obtain ⟨qc, qt, qs, hO, hC, hTt, hSt, hn1, hn2⟩ := hM0
  refine lv_iconst (v := 0) hx hb dX2_fars_0 (by decide) ?_
  have hz04 := hS.1
  refine sx_newi (N := 0) hx hb (hts _ na_X2_fars) hK.1 hS (Nat.succ_le_of_lt hO.lt) ix_0 (Nat.le_of_ble_eq_true rfl) (by first | exact Nat.le_of_ble_eq_true rfl | omega | (dsimp only; omega)) (by first | exact Nat.le_of_ble_eq_true rfl | omega | (dsimp only; omega)) dX2_fars_1 (fun q1 H2 hq3 hE hN hS => ?_)
  have hC := hC.ext0 hE
  have hTt := hTt.ext0 hE
  have hSt := hSt.ext0 hE
  have hO := hO.ext0 hE
  have hr5 := hN
  refine lv_astore_n (lv' := [(3, .ref q1), (0, .ref h), (1, .int a), (2, .int b)]) hx hb dX2_fars_3 rfl hl (by decide) rfl (fun ls hl => ?_)
  refine lv_aload_n hx hb dX2_fars_4 rfl (lv_at hl 1 rfl) ?_
  refine va_get (D := (dC, dI)) (ci := 2) (v := .ref qt) (C := RX2) (T := TX2) (N := 4) hx hb hts in_X2_fars_X2 hown hK.1 (va_P.one hO) 0 rfl rfl 1 (by decide) (hts (.fieldLink RX2 15 "MoorTrianglesLaw$Sim" "triangles" "[[I") fl_X2_fars_15) (fun _ h9 => h9) rfl dX2_fars_5 ?_
  refine lv_astore (lv' := [(4, .ref qt), (3, .ref q1), (0, .ref h), (1, .int a), (2, .int b)]) hx hb dX2_fars_8 hl (by decide) rfl (fun ls hl => ?_)
  refine lv_aload hx hb dX2_fars_10 (lv_at hl 0 rfl) ?_
  refine sx_alenT hx hb hK.1 hTt dX2_fars_12 ?_
  refine lv_istore (lv' := [(5, .int (nI nT)), (4, .ref qt), (3, .ref q1), (0, .ref h), (1, .int a), (2, .int b)]) hx hb dX2_fars_13 hl (by decide) rfl (fun ls hl => ?_)
  refine lv_iconst (v := 0) hx hb dX2_fars_15 (by decide) ?_
  refine lv_istore (lv' := [(6, .int 0), (5, .int (nI nT)), (4, .ref qt), (3, .ref q1), (0, .ref h), (1, .int a), (2, .int b)]) hx hb dX2_fars_16 hl (by decide) rfl (fun ls hl => ?_)
  have hL18_6 : ∀ (k7 : Nat) (i : Nat) (r : Nat), (nT - i) < k7 → (i ≤ nT) → ∀ (H10 : Heap) (locs11 : List Loc), hy 0 H2 H10 → va_S A s.heap H10 locs11 → hI cI (h + 1) H10 r ((s_fa T a b i).1) (sF (s_fa T a b i)) → ∀ ls : Array Slot, lv_has ls 9 [(6, .int (nI i)), (3, .ref r), (5, .int (nI nT)), (4, .ref qt), (0, .ref h), (1, .int a), (2, .int b)] → W p l e ({ frames := 1, cells := 1 + s_ct T a b nT, slots := 2 * s_ct T a b nT, locals := 21 } : Room) s m ([.ref h, .int a, .int b] : List Value).toArray below meth c H10 locs11 (1 + s_ct T a b i) (2 * s_ct T a b i) (MQ below (sQr (fun H q => hI cI (h + 1) H q (s_fa T a b nT).1 (sF (s_fa T a b nT))) A) ([.ref h, .int a, .int b] : List Value).toArray s (1 + s_ct T a b nT) (2 * s_ct T a b nT) A) (F0 m 18 ls []) := by
    intro k7
    induction k7 with
    | zero => intro i r hk; exact absurd hk (Nat.not_lt_zero _)
    | succ k7 ih8 =>
      intro i r hk_18 hi_i H10 locs11 hB9 hS hrow ls hl
      have hC := hC.ext0 hB9
      have hTt := hTt.ext0 hB9
      have hSt := hSt.ext0 hB9
      have hr5 := hr5.ext0 hB9
      have hO := hO.ext0 hB9
      have hcm : s_ct T a b i ≤ s_ct T a b nT := rg_ct_mono hi_i
      refine lv_iload hx hb dX2_fars_18 (lv_at hl 0 rfl) ?_
      refine lv_iload hx hb dX2_fars_20 (lv_at hl 2 rfl) ?_
      refine lv_icmp_ge (tgt := 115) hx hb dX2_fars_22 (by decide) (fun c_12 => ?_) (fun c_12 => ?_)
      · have hge_i : nT ≤ i := nI_le_le (by omega) (by omega) c_12
        have heq_i : i = nT := by omega
        have hl : lv_has ls 9 [(6, .int (nI nT)), (3, .ref r), (5, .int (nI nT)), (4, .ref qt), (0, .ref h), (1, .int a), (2, .int b)] := by rw [heq_i] at hl; exact hl
        rw [heq_i] at hrow
        refine lv_aload_n hx hb dX2_fars_115 rfl (lv_at hl 1 rfl) ?_
        exact sa_aret (Pf := fun H q => hI cI (h + 1) H q (s_fa T a b nT).1 (sF (s_fa T a b nT))) hx hb hr hlocks hrow hS (Nat.le_of_eq (by rw [heq_i])) (Nat.le_of_eq (by rw [heq_i])) dX2_fars_116
      · have hlt_i : i < nT := nI_nle_lt (by omega) (by omega) c_12
        refine lv_aload hx hb dX2_fars_25 (lv_at hl 3 rfl) ?_
        refine lv_iload hx hb dX2_fars_27 (lv_at hl 0 rfl) ?_
        refine sx_aald hx hb hK.1 hTt (ix_nI (by omega)) hlt_i dX2_fars_29 (fun xq13 hr14 => ?_)
        refine lv_astore (lv' := [(7, .ref xq13), (6, .int (nI i)), (3, .ref r), (5, .int (nI nT)), (4, .ref qt), (0, .ref h), (1, .int a), (2, .int b)]) hx hb dX2_fars_30 hl (by decide) rfl (fun ls hl => ?_)
        refine lv_iload_n hx hb dX2_fars_32 rfl (lv_at hl 6 rfl) ?_
        refine lv_iload_n hx hb dX2_fars_33 rfl (lv_at hl 7 rfl) ?_
        refine lv_icmp_eq (tgt := 109) hx hb dX2_fars_34 (by decide) (fun c_15 => ?_) (fun c_15 => ?_)
        · refine lv_iinc (v := nI (i + 1)) (lv' := [(6, .int (nI (i + 1))), (7, .ref xq13), (3, .ref r), (5, .int (nI nT)), (4, .ref qt), (0, .ref h), (1, .int a), (2, .int b)]) hx hb dX2_fars_109 hl (k := 1) rfl (nI_1 _) (by decide) rfl (fun ls hl => ?_)
          refine lv_goto (tgt := 18) hx hb dX2_fars_112 (by decide) ?_
          have hl := lv_sub (l' := [(6, .int (nI (i + 1))), (3, .ref r), (5, .int (nI nT)), (4, .ref qt), (0, .ref h), (1, .int a), (2, .int b)]) hl [0, 2, 3, 4, 5, 6, 7] rfl
          refine W.widen (show (1 + s_ct T a b i) ≤ 1 + s_ct T a b (i + 1) from (by rw [s_ct_no (show s_mt (T i) a b = false from by simp [s_mt, c_15])]; exact Nat.le_refl _)) (show (2 * s_ct T a b i) ≤ 2 * s_ct T a b (i + 1) from (by rw [s_ct_no (show s_mt (T i) a b = false from by simp [s_mt, c_15])]; exact Nat.le_refl _)) ?_
          exact ih8 (i + 1) r (by omega) (by omega) _ _ hB9 hS (by rw [s_fa_no (show s_mt (T i) a b = false from by simp [s_mt, c_15])]; exact hrow) _ hl
        · refine lv_aload hx hb dX2_fars_37 (lv_at hl 0 rfl) ?_
          refine lv_iload_n hx hb dX2_fars_39 rfl (lv_at hl 6 rfl) ?_
          refine sr_cSi (As := [.ref xq13, .int a]) (rest := []) F (c_X2_has l dC dI cI cZ cY (h + 1) xq13 (T i) a) (cwS 2 hts gX2_fars_X2_has rfl rfl rfl hd_X2_has ⟨Nat.le_of_ble_eq_true rfl, Nat.le_of_ble_eq_true rfl⟩) hr14 hK rfl hl.1 rfl (lv_room (Nat.le_of_ble_eq_true rfl)) dX2_fars_40 ⟨(by first | exact Nat.le_of_ble_eq_true rfl | omega | (dsimp only; omega)), (by first | exact Nat.le_of_ble_eq_true rfl | omega | (dsimp only; omega))⟩ ?_
          refine lv_if_eqB (tgt := 109) hx hb dX2_fars_43 (by decide) (fun c_16 => ?_) (fun c_16 => ?_)
          · refine lv_iinc (v := nI (i + 1)) (lv' := [(6, .int (nI (i + 1))), (7, .ref xq13), (3, .ref r), (5, .int (nI nT)), (4, .ref qt), (0, .ref h), (1, .int a), (2, .int b)]) hx hb dX2_fars_109 hl (k := 1) rfl (nI_1 _) (by decide) rfl (fun ls hl => ?_)
            refine lv_goto (tgt := 18) hx hb dX2_fars_112 (by decide) ?_
            have hl := lv_sub (l' := [(6, .int (nI (i + 1))), (3, .ref r), (5, .int (nI nT)), (4, .ref qt), (0, .ref h), (1, .int a), (2, .int b)]) hl [0, 2, 3, 4, 5, 6, 7] rfl
            refine W.widen (show (1 + s_ct T a b i) ≤ 1 + s_ct T a b (i + 1) from (by rw [s_ct_no (show s_mt (T i) a b = false from by simp [s_mt, c_15, c_16])]; exact Nat.le_refl _)) (show (2 * s_ct T a b i) ≤ 2 * s_ct T a b (i + 1) from (by rw [s_ct_no (show s_mt (T i) a b = false from by simp [s_mt, c_15, c_16])]; exact Nat.le_refl _)) ?_
            exact ih8 (i + 1) r (by omega) (by omega) _ _ hB9 hS (by rw [s_fa_no (show s_mt (T i) a b = false from by simp [s_mt, c_15, c_16])]; exact hrow) _ hl
          · refine lv_aload hx hb dX2_fars_46 (lv_at hl 0 rfl) ?_
            refine lv_iload_n hx hb dX2_fars_48 rfl (lv_at hl 7 rfl) ?_
            refine sr_cSi (As := [.ref xq13, .int b]) (rest := []) F (c_X2_has l dC dI cI cZ cY (h + 1) xq13 (T i) b) (cwS 2 hts gX2_fars_X2_has rfl rfl rfl hd_X2_has ⟨Nat.le_of_ble_eq_true rfl, Nat.le_of_ble_eq_true rfl⟩) hr14 hK rfl hl.1 rfl (lv_room (Nat.le_of_ble_eq_true rfl)) dX2_fars_49 ⟨(by first | exact Nat.le_of_ble_eq_true rfl | omega | (dsimp only; omega)), (by first | exact Nat.le_of_ble_eq_true rfl | omega | (dsimp only; omega))⟩ ?_
            refine lv_if_neB (tgt := 58) hx hb dX2_fars_52 (by decide) (fun c_17 => ?_) (fun c_17 => ?_)
            · refine lv_aload hx hb dX2_fars_58 (lv_at hl 0 rfl) ?_
              refine lv_iconst (v := 0) hx hb dX2_fars_60 (by decide) ?_
              refine sx_iald hx hb hK.1 hr14 ix_0 (by decide) dX2_fars_61 ?_
              refine lv_aload hx hb dX2_fars_62 (lv_at hl 0 rfl) ?_
              refine lv_iconst (v := 1) hx hb dX2_fars_64 (by decide) ?_
              refine sx_iald hx hb hK.1 hr14 ix_1 (by decide) dX2_fars_65 ?_
              refine lv_iadd hx hb dX2_fars_66 ?_
              refine lv_aload hx hb dX2_fars_67 (lv_at hl 0 rfl) ?_
              refine lv_iconst (v := 2) hx hb dX2_fars_69 (by decide) ?_
              refine sx_iald hx hb hK.1 hr14 ix_2 (by decide) dX2_fars_70 ?_
              refine lv_iadd hx hb dX2_fars_71 ?_
              refine lv_iload_n hx hb dX2_fars_72 rfl (lv_at hl 6 rfl) ?_
              refine lv_isub hx hb dX2_fars_73 ?_
              refine lv_iload_n hx hb dX2_fars_74 rfl (lv_at hl 7 rfl) ?_
              refine lv_isub hx hb dX2_fars_75 ?_
              refine lv_istore (lv' := [(8, .int ((((((T i) 0) + ((T i) 1)) + ((T i) 2)) - a) - b)), (7, .ref xq13), (6, .int (nI i)), (3, .ref r), (5, .int (nI nT)), (4, .ref qt), (0, .ref h), (1, .int a), (2, .int b)]) hx hb dX2_fars_76 hl (by decide) rfl (fun ls hl => ?_)
              refine lv_aload_n hx hb dX2_fars_78 rfl (lv_at hl 3 rfl) ?_
              refine sx_alenI hx hb hK.1 hrow dX2_fars_79 ?_
              refine lv_if_ne (tgt := 94) hx hb dX2_fars_80 (by decide) (fun c_18 => ?_) (fun c_18 => ?_)
              · have hct := s_ct_lt (show s_mt (T i) a b = true from by simp [s_mt, c_15, c_16, c_17]) hlt_i
                refine lv_iconst (v := 2) hx hb dX2_fars_94 (by decide) ?_
                have hz022 := hS.1
                refine sx_newi (N := 2) hx hb (hts _ na_X2_fars) hK.1 hS (Nat.succ_le_of_lt hO.lt) ix_2 (Nat.le_of_ble_eq_true rfl) (by first | exact Nat.le_of_ble_eq_true rfl | omega | (dsimp only; omega)) (by first | exact Nat.le_of_ble_eq_true rfl | omega | (dsimp only; omega)) dX2_fars_95 (fun q19 H20 hq21 hE hN hS => ?_)
                refine lv_dup hx hb dX2_fars_97 rfl ?_
                refine lv_iconst (v := 0) hx hb dX2_fars_98 (by decide) ?_
                refine lv_aload_n hx hb dX2_fars_99 rfl (lv_at hl 3 rfl) ?_
                refine lv_iconst (v := 0) hx hb dX2_fars_100 (by decide) ?_
                refine sx_iald hx hb hK.1 (hrow.ext0 hE) ix_0 (nI_pos9 c_18) dX2_fars_101 ?_
                refine lv_cvi (y := (s_fa T a b i).2.1) rfl ?_
                refine sx_iast hx hb hK.1 hS hN (hA q19 (by rw [hq21]; exact hz022)) ix_0 (by decide) dX2_fars_102 (fun H23 locs24 hN hz_ ho_ hS => ?_)
                have hE := hE.wr (Nat.le_of_eq hq21.symm) hz_ ho_
                refine lv_dup hx hb dX2_fars_103 rfl ?_
                refine lv_iconst (v := 1) hx hb dX2_fars_104 (by decide) ?_
                refine lv_iload hx hb dX2_fars_105 (lv_at hl 0 rfl) ?_
                refine sx_iast hx hb hK.1 hS hN (hA q19 (by rw [hq21]; exact hz022)) ix_1 (by decide) dX2_fars_107 (fun H25 locs26 hN hz_ ho_ hS => ?_)
                have hE := hE.wr (Nat.le_of_eq hq21.symm) hz_ ho_
                have hC := hC.ext0 hE
                have hTt := hTt.ext0 hE
                have hSt := hSt.ext0 hE
                have hr5 := hr5.ext0 hE
                have hrow := hrow.ext0 hE
                have hr14 := hr14.ext0 hE
                have hB9 := hB9.tr hE
                have hO := hO.ext0 hE
                have hr27 : hI cI _ H25 q19 2 (s2 ((s_fa T a b i).2.1) ((((((T i) 0) + ((T i) 1)) + ((T i) 2)) - a) - b)) := hN.cg s2_upd
                refine lv_astore_n (lv' := [(3, .ref q19), (8, .int ((((((T i) 0) + ((T i) 1)) + ((T i) 2)) - a) - b)), (7, .ref xq13), (6, .int (nI i)), (5, .int (nI nT)), (4, .ref qt), (0, .ref h), (1, .int a), (2, .int b)]) hx hb dX2_fars_108 rfl hl (by decide) rfl (fun ls hl => ?_)
                refine lv_iinc (v := nI (i + 1)) (lv' := [(6, .int (nI (i + 1))), (3, .ref q19), (8, .int ((((((T i) 0) + ((T i) 1)) + ((T i) 2)) - a) - b)), (7, .ref xq13), (5, .int (nI nT)), (4, .ref qt), (0, .ref h), (1, .int a), (2, .int b)]) hx hb dX2_fars_109 hl (k := 3) rfl (nI_1 _) (by decide) rfl (fun ls hl => ?_)
                refine lv_goto (tgt := 18) hx hb dX2_fars_112 (by decide) ?_
                have hl := lv_sub (l' := [(6, .int (nI (i + 1))), (3, .ref q19), (5, .int (nI nT)), (4, .ref qt), (0, .ref h), (1, .int a), (2, .int b)]) hl [0, 1, 4, 5, 6, 7, 8] rfl
                refine W.widen (show ((1 + s_ct T a b i) + 1) ≤ 1 + s_ct T a b (i + 1) from (by rw [s_ct_yes (show s_mt (T i) a b = true from by simp [s_mt, c_15, c_16, c_17])]; omega)) (show ((2 * s_ct T a b i) + 2) ≤ 2 * s_ct T a b (i + 1) from (by rw [s_ct_yes (show s_mt (T i) a b = true from by simp [s_mt, c_15, c_16, c_17])]; omega)) ?_
                exact ih8 (i + 1) q19 (by omega) (by omega) _ _ hB9 hS (by rw [s_fa_2 (show s_mt (T i) a b = true from by simp [s_mt, c_15, c_16, c_17]) c_18]; exact hr27) _ hl
              · have hct := s_ct_lt (show s_mt (T i) a b = true from by simp [s_mt, c_15, c_16, c_17]) hlt_i
                refine lv_iconst (v := 1) hx hb dX2_fars_83 (by decide) ?_
                have hz031 := hS.1
                refine sx_newi (N := 1) hx hb (hts _ na_X2_fars) hK.1 hS (Nat.succ_le_of_lt hO.lt) ix_1 (Nat.le_of_ble_eq_true rfl) (by first | exact Nat.le_of_ble_eq_true rfl | omega | (dsimp only; omega)) (by first | exact Nat.le_of_ble_eq_true rfl | omega | (dsimp only; omega)) dX2_fars_84 (fun q28 H29 hq30 hE hN hS => ?_)
                refine lv_dup hx hb dX2_fars_86 rfl ?_
                refine lv_iconst (v := 0) hx hb dX2_fars_87 (by decide) ?_
                refine lv_iload hx hb dX2_fars_88 (lv_at hl 0 rfl) ?_
                refine sx_iast hx hb hK.1 hS hN (hA q28 (by rw [hq30]; exact hz031)) ix_0 (by decide) dX2_fars_90 (fun H32 locs33 hN hz_ ho_ hS => ?_)
                have hE := hE.wr (Nat.le_of_eq hq30.symm) hz_ ho_
                have hC := hC.ext0 hE
                have hTt := hTt.ext0 hE
                have hSt := hSt.ext0 hE
                have hr5 := hr5.ext0 hE
                have hrow := hrow.ext0 hE
                have hr14 := hr14.ext0 hE
                have hB9 := hB9.tr hE
                have hO := hO.ext0 hE
                have hr34 : hI cI _ H32 q28 1 (s2 ((((((T i) 0) + ((T i) 1)) + ((T i) 2)) - a) - b) 0) := hN.cg s1_upd
                refine lv_goto (tgt := 108) hx hb dX2_fars_91 (by decide) ?_
                refine lv_astore_n (lv' := [(3, .ref q28), (8, .int ((((((T i) 0) + ((T i) 1)) + ((T i) 2)) - a) - b)), (7, .ref xq13), (6, .int (nI i)), (5, .int (nI nT)), (4, .ref qt), (0, .ref h), (1, .int a), (2, .int b)]) hx hb dX2_fars_108 rfl hl (by decide) rfl (fun ls hl => ?_)
                refine lv_iinc (v := nI (i + 1)) (lv' := [(6, .int (nI (i + 1))), (3, .ref q28), (8, .int ((((((T i) 0) + ((T i) 1)) + ((T i) 2)) - a) - b)), (7, .ref xq13), (5, .int (nI nT)), (4, .ref qt), (0, .ref h), (1, .int a), (2, .int b)]) hx hb dX2_fars_109 hl (k := 3) rfl (nI_1 _) (by decide) rfl (fun ls hl => ?_)
                refine lv_goto (tgt := 18) hx hb dX2_fars_112 (by decide) ?_
                have hl := lv_sub (l' := [(6, .int (nI (i + 1))), (3, .ref q28), (5, .int (nI nT)), (4, .ref qt), (0, .ref h), (1, .int a), (2, .int b)]) hl [0, 1, 4, 5, 6, 7, 8] rfl
                refine W.widen (show ((1 + s_ct T a b i) + 1) ≤ 1 + s_ct T a b (i + 1) from (by rw [s_ct_yes (show s_mt (T i) a b = true from by simp [s_mt, c_15, c_16, c_17])]; omega)) (show ((2 * s_ct T a b i) + 1) ≤ 2 * s_ct T a b (i + 1) from (by rw [s_ct_yes (show s_mt (T i) a b = true from by simp [s_mt, c_15, c_16, c_17])]; omega)) ?_
                exact ih8 (i + 1) q28 (by omega) (by omega) _ _ hB9 hS (by rw [s_fa_1 (show s_mt (T i) a b = true from by simp [s_mt, c_15, c_16, c_17]) c_18]; exact hr34) _ hl
            · refine lv_goto (tgt := 109) hx hb dX2_fars_55 (by decide) ?_
              refine lv_iinc (v := nI (i + 1)) (lv' := [(6, .int (nI (i + 1))), (7, .ref xq13), (3, .ref r), (5, .int (nI nT)), (4, .ref qt), (0, .ref h), (1, .int a), (2, .int b)]) hx hb dX2_fars_109 hl (k := 1) rfl (nI_1 _) (by decide) rfl (fun ls hl => ?_)
              refine lv_goto (tgt := 18) hx hb dX2_fars_112 (by decide) ?_
              have hl := lv_sub (l' := [(6, .int (nI (i + 1))), (3, .ref r), (5, .int (nI nT)), (4, .ref qt), (0, .ref h), (1, .int a), (2, .int b)]) hl [0, 2, 3, 4, 5, 6, 7] rfl
              refine W.widen (show (1 + s_ct T a b i) ≤ 1 + s_ct T a b (i + 1) from (by rw [s_ct_no (show s_mt (T i) a b = false from by simp [s_mt, c_15, c_16, c_17])]; exact Nat.le_refl _)) (show (2 * s_ct T a b i) ≤ 2 * s_ct T a b (i + 1) from (by rw [s_ct_no (show s_mt (T i) a b = false from by simp [s_mt, c_15, c_16, c_17])]; exact Nat.le_refl _)) ?_
              exact ih8 (i + 1) r (by omega) (by omega) _ _ hB9 hS (by rw [s_fa_no (show s_mt (T i) a b = false from by simp [s_mt, c_15, c_16, c_17])]; exact hrow) _ hl
  have hl := lv_sub (l' := [(6, .int 0), (3, .ref q1), (5, .int (nI nT)), (4, .ref qt), (0, .ref h), (1, .int a), (2, .int b)]) hl [0, 3, 1, 2, 4, 5, 6] rfl
  have hl : lv_has ls 9 [(6, .int (nI 0)), (3, .ref q1), (5, .int (nI nT)), (4, .ref qt), (0, .ref h), (1, .int a), (2, .int b)] := by
    have e9 : [(6, .int 0), (3, .ref q1), (5, .int (nI nT)), (4, .ref qt), (0, .ref h), (1, .int a), (2, .int b)] = ([(6, .int (nI 0)), (3, .ref q1), (5, .int (nI nT)), (4, .ref qt), (0, .ref h), (1, .int a), (2, .int b)] : List (Nat × Value)) := by rfl
    rw [← e9]; exact hl
  refine W.widen (show (0 + 1) ≤ 1 + s_ct T a b 0 from (Nat.le_of_eq rfl)) (show (0 + 0) ≤ 2 * s_ct T a b 0 from (Nat.zero_le _)) ?_
  exact hL18_6 _ 0 q1 (Nat.lt_succ_self _) (Nat.zero_le _) _ _ hy.rf hS (hr5.cg (fun j hj => absurd hj (Nat.not_lt_zero _))) _ hl
theorem in_X2_isUnfair_X2 : ∀ w ∈ wsX20, w ∈ wsX2_isUnfair := by decide +kernel
theorem fl_X2_isUnfair_9 : (Cond.fieldLink RX2 9 "MoorTrianglesLaw$Sim" "cairns" "[[I") ∈ wsX2_isUnfair := by decide +kernel
theorem hd_X2_isUnfair : yX2_isUnfair.cls = RX2 ∧ yX2_isUnfair.cls ≠ "java/lang/invoke/MethodHandle" ∧ yX2_isUnfair.cls ≠ "java/lang/invoke/VarHandle" ∧ (parseMethodDescriptor yX2_isUnfair.desc).map (fun d => d.parameters.length) = some 2 := by decide +kernel
set_option maxHeartbeats 4000000 in
set_option maxRecDepth 100000 in
theorem c_X2_isUnfair (l : Launch) (dC : Nat → ClassId) (dI : Nat → Nat → Nat) (cI cZ cY : ClassId) (h : Nat) (nC : Nat) (C : Nat → Nat → Int32) (nT : Nat) (T : Nat → Nat → Int32) (nS : Nat) (S : Nat → Nat → Int32) (fl : Int32) (a : Int32) (b : Int32) (hnT : nT ≤ 1000) (hF : s_okF nC nT T) (ia : vp_in a nC) (ib : vp_in b nC) (sz : Nat) : Met l yX2_isUnfair wsX2_isUnfair ({ frames := 4, cells := 1 + 2 * s_ct T a b nT, slots := 4 * s_ct T a b nT, locals := 88 }) (va_Pc [.ref h, .int a, .int b] (sPz (dC, dI) cI cZ cY (sM (dC, dI) cI cY h nC C nT T nS S fl) sz)) (sQi (bI (s_unf C nT T a b)) (fun _ => True) (aN sz)) (1 + 2 * s_ct T a b nT) (4 * s_ct T a b nT) (aN sz) := by
  refine sa_start (cc := cX2_isUnfair) (maxL := 4) (ret := (some .boolean)) (Q0 := sQi (bI (s_unf C nT T a b)) (fun _ => True)) aN aN_ok RX2 (by decide) rfl rfl (Nat.le_of_ble_eq_true rfl) ?_
  intro p e s m below meth c ⟨hx, hb, hr, hml, hown, hts, hlocks, hini⟩ hM0 hK A hAe hA hS ls hl
  have F : CallFix p m c cX2_isUnfair 4 s ([.ref h, .int a, .int b] : List Value).toArray wsX2_isUnfair RX2 := ⟨hx, hb, hml, hown, hts⟩
  have hl : lv_has ls 4 [(0, .ref h), (1, .int a), (2, .int b)] := hl
  obtain ⟨qc, qt, qs, hO, hC, hTt, hSt, hn1, hn2⟩ := hM0
  refine lv_aload_n hx hb dX2_isUnfair_0 rfl (lv_at hl 0 rfl) ?_
  refine lv_iload_n hx hb dX2_isUnfair_1 rfl (lv_at hl 1 rfl) ?_
  refine lv_iload_n hx hb dX2_isUnfair_2 rfl (lv_at hl 2 rfl) ?_
  refine sc_cVNr (As := [.int a, .int b]) (rest := []) F (c_X2_fars l dC dI cI cZ cY h nC C nT T nS S fl a b hnT s.heap.size) (cwV 2 hts gX2_isUnfair_X2_fars rfl rfl rfl hd_X2_fars ⟨Nat.le_of_ble_eq_true rfl, Nat.le_of_ble_eq_true rfl⟩) ⟨qc, qt, qs, hO, hC, hTt, hSt, hn1, hn2⟩ hK hS hA (sM.recv hK.1 ⟨qc, qt, qs, hO, hC, hTt, hSt, hn1, hn2⟩) rfl hl.1 rfl (lv_room (Nat.le_of_ble_eq_true rfl)) dX2_isUnfair_3 ⟨(by first | exact Nat.le_of_ble_eq_true rfl | omega | (dsimp only; omega)), (by first | exact Nat.le_of_ble_eq_true rfl | omega | (dsimp only; omega))⟩ (fun q4 H1 locs2 hf3 hE hS => ?_)
  have hC := hC.ext0 hE
  have hTt := hTt.ext0 hE
  have hSt := hSt.ext0 hE
  have hO := hO.ext0 hE
  refine lv_astore_n (lv' := [(3, .ref q4), (0, .ref h), (1, .int a), (2, .int b)]) hx hb dX2_isUnfair_6 rfl hl (by decide) rfl (fun ls hl => ?_)
  refine lv_aload_n hx hb dX2_isUnfair_7 rfl (lv_at hl 0 rfl) ?_
  refine sx_alenI hx hb hK.1 hf3 dX2_isUnfair_8 ?_
  refine lv_iconst (v := 2) hx hb dX2_isUnfair_9 (by decide) ?_
  refine lv_icmp_ne (tgt := 52) hx hb dX2_isUnfair_10 (by decide) (fun c_5 => ?_) (fun c_5 => ?_)
  · refine lv_iconst (v := 0) hx hb dX2_isUnfair_52 (by decide) ?_
    exact sa_zret (Pf := fun _ => True) hx hb hr hlocks (by rw [s_unf, if_neg c_5]; try rfl) trivial hS (by first | exact Nat.le_of_ble_eq_true rfl | omega | (dsimp only; omega)) (by first | exact Nat.le_of_ble_eq_true rfl | omega | (dsimp only; omega)) dX2_isUnfair_53
  · have h2 := s_fa_is2 c_5
    have hct := s_fa_ct (T := T) (a := a) (b := b) nT
    refine lv_aload_n hx hb dX2_isUnfair_13 rfl (lv_at hl 1 rfl) ?_
    refine lv_iload_n hx hb dX2_isUnfair_14 rfl (lv_at hl 2 rfl) ?_
    refine lv_iload_n hx hb dX2_isUnfair_15 rfl (lv_at hl 3 rfl) ?_
    refine lv_aload_n hx hb dX2_isUnfair_16 rfl (lv_at hl 0 rfl) ?_
    refine lv_iconst (v := 0) hx hb dX2_isUnfair_17 (by decide) ?_
    refine sx_iald hx hb hK.1 hf3 ix_0 (by omega) dX2_isUnfair_18 ?_
    refine lv_cvi (y := (s_fa T a b nT).2.1) rfl ?_
    refine sc_cSNr (As := [.int a, .int b, .int ((s_fa T a b nT).2.1)]) (rest := [.ref h]) F (c_X2_three l dC dI cI cZ cY (h + 1) a b ((s_fa T a b nT).2.1) H1.size) (cwS 3 hts gX2_isUnfair_X2_three rfl rfl rfl hd_X2_three ⟨Nat.le_of_ble_eq_true rfl, Nat.le_of_ble_eq_true rfl⟩) (Nat.succ_le_of_lt hO.lt) hK hS hA rfl hl.1 rfl (lv_room (Nat.le_of_ble_eq_true rfl)) dX2_isUnfair_19 ⟨(by first | exact Nat.le_of_ble_eq_true rfl | omega | (dsimp only; omega)), (by first | exact Nat.le_of_ble_eq_true rfl | omega | (dsimp only; omega))⟩ (fun q9 H6 locs7 hf8 hE hS => ?_)
    have hC := hC.ext0 hE
    have hTt := hTt.ext0 hE
    have hSt := hSt.ext0 hE
    have hf3 := hf3.ext0 hE
    have hO := hO.ext0 hE
    refine lv_aload_n hx hb dX2_isUnfair_22 rfl (lv_at hl 1 rfl) ?_
    refine va_get (D := (dC, dI)) (ci := 2) (v := .ref qc) (C := RX2) (T := TX2) (N := 4) hx hb hts in_X2_isUnfair_X2 hown hK.1 (va_P.one hO) 0 rfl rfl 0 (by decide) (hts (.fieldLink RX2 9 "MoorTrianglesLaw$Sim" "cairns" "[[I") fl_X2_isUnfair_9) (fun _ h9 => h9) rfl dX2_isUnfair_23 ?_
    refine lv_aload_n hx hb dX2_isUnfair_26 rfl (lv_at hl 0 rfl) ?_
    refine lv_iconst (v := 1) hx hb dX2_isUnfair_27 (by decide) ?_
    refine sx_iald hx hb hK.1 hf3 ix_1 (by omega) dX2_isUnfair_28 ?_
    refine lv_cvi (y := (s_fa T a b nT).2.2) rfl ?_
    refine sx_aald hx hb hK.1 hC (ix_in (hF a b h2).2) (in_lt (hF a b h2).2) dX2_isUnfair_29 (fun xq10 hr11 => ?_)
    refine lv_iconst (v := 0) hx hb dX2_isUnfair_30 (by decide) ?_
    refine sx_iald hx hb hK.1 hr11 ix_0 (by decide) dX2_isUnfair_31 ?_
    refine lv_aload_n hx hb dX2_isUnfair_32 rfl (lv_at hl 1 rfl) ?_
    refine va_get (D := (dC, dI)) (ci := 2) (v := .ref qc) (C := RX2) (T := TX2) (N := 4) hx hb hts in_X2_isUnfair_X2 hown hK.1 (va_P.one hO) 0 rfl rfl 0 (by decide) (hts (.fieldLink RX2 9 "MoorTrianglesLaw$Sim" "cairns" "[[I") fl_X2_isUnfair_9) (fun _ h9 => h9) rfl dX2_isUnfair_33 ?_
    refine lv_aload_n hx hb dX2_isUnfair_36 rfl (lv_at hl 0 rfl) ?_
    refine lv_iconst (v := 1) hx hb dX2_isUnfair_37 (by decide) ?_
    refine sx_iald hx hb hK.1 hf3 ix_1 (by omega) dX2_isUnfair_38 ?_
    refine lv_cvi (y := (s_fa T a b nT).2.2) rfl ?_
    refine sx_aald hx hb hK.1 hC (ix_in (hF a b h2).2) (in_lt (hF a b h2).2) dX2_isUnfair_39 (fun xq12 hr13 => ?_)
    refine lv_iconst (v := 1) hx hb dX2_isUnfair_40 (by decide) ?_
    refine sx_iald hx hb hK.1 hr13 ix_1 (by decide) dX2_isUnfair_41 ?_
    refine sr_cVi (As := [.ref q9, .int ((C ((s_fa T a b nT).2.2).toNatClampNeg) 0), .int ((C ((s_fa T a b nT).2.2).toNatClampNeg) 1)]) (rest := []) F (c_X2_isIn l dC dI cI cZ cY h nC C nT T nS S fl q9 (s_three a b ((s_fa T a b nT).2.1)) ((C ((s_fa T a b nT).2.2).toNatClampNeg) 0) ((C ((s_fa T a b nT).2.2).toNatClampNeg) 1) (fun j _ => s_three_all (P := fun z => vp_in z nC) ia ib (hF a b h2).1 j)) (cwV 3 hts gX2_isUnfair_X2_isIn rfl rfl rfl hd_X2_isIn ⟨Nat.le_of_ble_eq_true rfl, Nat.le_of_ble_eq_true rfl⟩) ⟨⟨qc, qt, qs, hO, hC, hTt, hSt, hn1, hn2⟩, hf8⟩ hK (sM.recv hK.1 ⟨qc, qt, qs, hO, hC, hTt, hSt, hn1, hn2⟩) rfl hl.1 rfl (lv_room (Nat.le_of_ble_eq_true rfl)) dX2_isUnfair_42 ⟨(by first | exact Nat.le_of_ble_eq_true rfl | omega | (dsimp only; omega)), (by first | exact Nat.le_of_ble_eq_true rfl | omega | (dsimp only; omega))⟩ ?_
    refine lv_if_eqB (tgt := 52) hx hb dX2_isUnfair_45 (by decide) (fun c_14 => ?_) (fun c_14 => ?_)
    · refine lv_iconst (v := 0) hx hb dX2_isUnfair_52 (by decide) ?_
      exact sa_zret (Pf := fun _ => True) hx hb hr hlocks (by rw [s_unf, if_pos c_5, c_14]; try rfl) trivial hS (by first | exact Nat.le_of_ble_eq_true rfl | omega | (dsimp only; omega)) (by first | exact Nat.le_of_ble_eq_true rfl | omega | (dsimp only; omega)) dX2_isUnfair_53
    · refine lv_iconst (v := 1) hx hb dX2_isUnfair_48 (by decide) ?_
      refine lv_goto (tgt := 53) hx hb dX2_isUnfair_49 (by decide) ?_
      exact sa_zret (Pf := fun _ => True) hx hb hr hlocks (by rw [s_unf, if_pos c_5, c_14]; try rfl) trivial hS (by first | exact Nat.le_of_ble_eq_true rfl | omega | (dsimp only; omega)) (by first | exact Nat.le_of_ble_eq_true rfl | omega | (dsimp only; omega)) dX2_isUnfair_53
theorem in_X2_canFlip_X2 : ∀ w ∈ wsX20, w ∈ wsX2_canFlip := by decide +kernel
theorem fl_X2_canFlip_9 : (Cond.fieldLink RX2 9 "MoorTrianglesLaw$Sim" "cairns" "[[I") ∈ wsX2_canFlip := by decide +kernel
theorem hd_X2_canFlip : yX2_canFlip.cls = RX2 ∧ yX2_canFlip.cls ≠ "java/lang/invoke/MethodHandle" ∧ yX2_canFlip.cls ≠ "java/lang/invoke/VarHandle" ∧ (parseMethodDescriptor yX2_canFlip.desc).map (fun d => d.parameters.length) = some 2 := by decide +kernel
set_option maxHeartbeats 4000000 in
set_option maxRecDepth 100000 in
theorem c_X2_canFlip (l : Launch) (dC : Nat → ClassId) (dI : Nat → Nat → Nat) (cI cZ cY : ClassId) (h : Nat) (nC : Nat) (C : Nat → Nat → Int32) (nT : Nat) (T : Nat → Nat → Int32) (nS : Nat) (S : Nat → Nat → Int32) (fl : Int32) (a : Int32) (b : Int32) (hnT : nT ≤ 1000) (hnS : nS ≤ 1000) (hF : s_okF nC nT T) (ia : vp_in a nC) (ib : vp_in b nC) (sz : Nat) : Met l yX2_canFlip wsX2_canFlip ({ frames := 2, cells := 1 + s_ct T a b nT, slots := 2 * s_ct T a b nT, locals := 49 }) (va_Pc [.ref h, .int a, .int b] (sPz (dC, dI) cI cZ cY (sM (dC, dI) cI cY h nC C nT T nS S fl) sz)) (sQi (bI (s_flp C nT T nS S a b)) (fun _ => True) (aN sz)) (1 + s_ct T a b nT) (2 * s_ct T a b nT) (aN sz) := by
  refine sa_start (cc := cX2_canFlip) (maxL := 6) (ret := (some .boolean)) (Q0 := sQi (bI (s_flp C nT T nS S a b)) (fun _ => True)) aN aN_ok RX2 (by decide) rfl rfl (Nat.le_of_ble_eq_true rfl) ?_
  intro p e s m below meth c ⟨hx, hb, hr, hml, hown, hts, hlocks, hini⟩ hM0 hK A hAe hA hS ls hl
  have F : CallFix p m c cX2_canFlip 6 s ([.ref h, .int a, .int b] : List Value).toArray wsX2_canFlip RX2 := ⟨hx, hb, hml, hown, hts⟩
  have hl : lv_has ls 6 [(0, .ref h), (1, .int a), (2, .int b)] := hl
  obtain ⟨qc, qt, qs, hO, hC, hTt, hSt, hn1, hn2⟩ := hM0
  refine lv_aload_n hx hb dX2_canFlip_0 rfl (lv_at hl 0 rfl) ?_
  refine lv_iload_n hx hb dX2_canFlip_1 rfl (lv_at hl 1 rfl) ?_
  refine lv_iload_n hx hb dX2_canFlip_2 rfl (lv_at hl 2 rfl) ?_
  refine sc_cVNr (As := [.int a, .int b]) (rest := []) F (c_X2_fars l dC dI cI cZ cY h nC C nT T nS S fl a b hnT s.heap.size) (cwV 2 hts gX2_canFlip_X2_fars rfl rfl rfl hd_X2_fars ⟨Nat.le_of_ble_eq_true rfl, Nat.le_of_ble_eq_true rfl⟩) ⟨qc, qt, qs, hO, hC, hTt, hSt, hn1, hn2⟩ hK hS hA (sM.recv hK.1 ⟨qc, qt, qs, hO, hC, hTt, hSt, hn1, hn2⟩) rfl hl.1 rfl (lv_room (Nat.le_of_ble_eq_true rfl)) dX2_canFlip_3 ⟨(by first | exact Nat.le_of_ble_eq_true rfl | omega | (dsimp only; omega)), (by first | exact Nat.le_of_ble_eq_true rfl | omega | (dsimp only; omega))⟩ (fun q4 H1 locs2 hf3 hE hS => ?_)
  have hC := hC.ext0 hE
  have hTt := hTt.ext0 hE
  have hSt := hSt.ext0 hE
  have hO := hO.ext0 hE
  refine lv_astore_n (lv' := [(3, .ref q4), (0, .ref h), (1, .int a), (2, .int b)]) hx hb dX2_canFlip_6 rfl hl (by decide) rfl (fun ls hl => ?_)
  refine lv_aload_n hx hb dX2_canFlip_7 rfl (lv_at hl 0 rfl) ?_
  refine sx_alenI hx hb hK.1 hf3 dX2_canFlip_8 ?_
  refine lv_iconst (v := 2) hx hb dX2_canFlip_9 (by decide) ?_
  refine lv_icmp_lt (tgt := 22) hx hb dX2_canFlip_10 (by decide) (fun c_5 => ?_) (fun c_5 => ?_)
  · refine lv_iconst (v := 0) hx hb dX2_canFlip_22 (by decide) ?_
    exact sa_zret (Pf := fun _ => True) hx hb hr hlocks (by rw [s_flp, if_pos c_5]; try rfl) trivial hS (by first | exact Nat.le_of_ble_eq_true rfl | omega | (dsimp only; omega)) (by first | exact Nat.le_of_ble_eq_true rfl | omega | (dsimp only; omega)) dX2_canFlip_23
  · have h2 := s_fa_nlt2 c_5
    refine lv_aload_n hx hb dX2_canFlip_13 rfl (lv_at hl 1 rfl) ?_
    refine lv_iload_n hx hb dX2_canFlip_14 rfl (lv_at hl 2 rfl) ?_
    refine lv_iload_n hx hb dX2_canFlip_15 rfl (lv_at hl 3 rfl) ?_
    refine sr_cVi (As := [.int a, .int b]) (rest := []) F (c_X2_isStaying l dC dI cI cZ cY h nC C nT T nS S fl a b hnS) (cwV 2 hts gX2_canFlip_X2_isStaying rfl rfl rfl hd_X2_isStaying ⟨Nat.le_of_ble_eq_true rfl, Nat.le_of_ble_eq_true rfl⟩) ⟨qc, qt, qs, hO, hC, hTt, hSt, hn1, hn2⟩ hK (sM.recv hK.1 ⟨qc, qt, qs, hO, hC, hTt, hSt, hn1, hn2⟩) rfl hl.1 rfl (lv_room (Nat.le_of_ble_eq_true rfl)) dX2_canFlip_16 ⟨(by first | exact Nat.le_of_ble_eq_true rfl | omega | (dsimp only; omega)), (by first | exact Nat.le_of_ble_eq_true rfl | omega | (dsimp only; omega))⟩ ?_
    refine lv_if_eqB (tgt := 24) hx hb dX2_canFlip_19 (by decide) (fun c_6 => ?_) (fun c_6 => ?_)
    · refine lv_aload_n hx hb dX2_canFlip_24 rfl (lv_at hl 1 rfl) ?_
      refine lv_aload_n hx hb dX2_canFlip_25 rfl (lv_at hl 1 rfl) ?_
      refine va_get (D := (dC, dI)) (ci := 2) (v := .ref qc) (C := RX2) (T := TX2) (N := 4) hx hb hts in_X2_canFlip_X2 hown hK.1 (va_P.one hO) 0 rfl rfl 0 (by decide) (hts (.fieldLink RX2 9 "MoorTrianglesLaw$Sim" "cairns" "[[I") fl_X2_canFlip_9) (fun _ h9 => h9) rfl dX2_canFlip_26 ?_
      refine lv_aload_n hx hb dX2_canFlip_29 rfl (lv_at hl 0 rfl) ?_
      refine lv_iconst (v := 0) hx hb dX2_canFlip_30 (by decide) ?_
      refine sx_iald hx hb hK.1 hf3 ix_0 (by omega) dX2_canFlip_31 ?_
      refine lv_cvi (y := (s_fa T a b nT).2.1) rfl ?_
      refine sx_aald hx hb hK.1 hC (ix_in (hF a b h2).1) (in_lt (hF a b h2).1) dX2_canFlip_32 (fun xq7 hr8 => ?_)
      refine lv_aload_n hx hb dX2_canFlip_33 rfl (lv_at hl 1 rfl) ?_
      refine va_get (D := (dC, dI)) (ci := 2) (v := .ref qc) (C := RX2) (T := TX2) (N := 4) hx hb hts in_X2_canFlip_X2 hown hK.1 (va_P.one hO) 0 rfl rfl 0 (by decide) (hts (.fieldLink RX2 9 "MoorTrianglesLaw$Sim" "cairns" "[[I") fl_X2_canFlip_9) (fun _ h9 => h9) rfl dX2_canFlip_34 ?_
      refine lv_aload_n hx hb dX2_canFlip_37 rfl (lv_at hl 0 rfl) ?_
      refine lv_iconst (v := 1) hx hb dX2_canFlip_38 (by decide) ?_
      refine sx_iald hx hb hK.1 hf3 ix_1 (by omega) dX2_canFlip_39 ?_
      refine lv_cvi (y := (s_fa T a b nT).2.2) rfl ?_
      refine sx_aald hx hb hK.1 hC (ix_in (hF a b h2).2) (in_lt (hF a b h2).2) dX2_canFlip_40 (fun xq9 hr10 => ?_)
      refine lv_aload_n hx hb dX2_canFlip_41 rfl (lv_at hl 1 rfl) ?_
      refine va_get (D := (dC, dI)) (ci := 2) (v := .ref qc) (C := RX2) (T := TX2) (N := 4) hx hb hts in_X2_canFlip_X2 hown hK.1 (va_P.one hO) 0 rfl rfl 0 (by decide) (hts (.fieldLink RX2 9 "MoorTrianglesLaw$Sim" "cairns" "[[I") fl_X2_canFlip_9) (fun _ h9 => h9) rfl dX2_canFlip_42 ?_
      refine lv_iload_n hx hb dX2_canFlip_45 rfl (lv_at hl 2 rfl) ?_
      refine sx_aald hx hb hK.1 hC (ix_in ia) (in_lt ia) dX2_canFlip_46 (fun xq11 hr12 => ?_)
      refine sr_cVi (As := [.ref xq7, .ref xq9, .ref xq11]) (rest := []) F (c_X2_cross l dC dI cI cZ cY h (h + 1) xq7 xq9 xq11 3 (C ((s_fa T a b nT).2.1).toNatClampNeg) (C ((s_fa T a b nT).2.2).toNatClampNeg) (C a.toNatClampNeg) (by decide)) (cwV 3 hts gX2_canFlip_X2_cross rfl rfl rfl hd_X2_cross ⟨Nat.le_of_ble_eq_true rfl, Nat.le_of_ble_eq_true rfl⟩) ⟨hr8, hr10, hr12⟩ hK (sM.recv hK.1 ⟨qc, qt, qs, hO, hC, hTt, hSt, hn1, hn2⟩) rfl hl.1 rfl (lv_room (Nat.le_of_ble_eq_true rfl)) dX2_canFlip_47 ⟨(by first | exact Nat.le_of_ble_eq_true rfl | omega | (dsimp only; omega)), (by first | exact Nat.le_of_ble_eq_true rfl | omega | (dsimp only; omega))⟩ ?_
      refine lv_istore (lv' := [(4, .int (s_cross (C ((s_fa T a b nT).2.1).toNatClampNeg) (C ((s_fa T a b nT).2.2).toNatClampNeg) (C a.toNatClampNeg))), (3, .ref q4), (0, .ref h), (1, .int a), (2, .int b)]) hx hb dX2_canFlip_50 hl (by decide) rfl (fun ls hl => ?_)
      refine lv_aload_n hx hb dX2_canFlip_52 rfl (lv_at hl 2 rfl) ?_
      refine lv_aload_n hx hb dX2_canFlip_53 rfl (lv_at hl 2 rfl) ?_
      refine va_get (D := (dC, dI)) (ci := 2) (v := .ref qc) (C := RX2) (T := TX2) (N := 4) hx hb hts in_X2_canFlip_X2 hown hK.1 (va_P.one hO) 0 rfl rfl 0 (by decide) (hts (.fieldLink RX2 9 "MoorTrianglesLaw$Sim" "cairns" "[[I") fl_X2_canFlip_9) (fun _ h9 => h9) rfl dX2_canFlip_54 ?_
      refine lv_aload_n hx hb dX2_canFlip_57 rfl (lv_at hl 1 rfl) ?_
      refine lv_iconst (v := 0) hx hb dX2_canFlip_58 (by decide) ?_
      refine sx_iald hx hb hK.1 hf3 ix_0 (by omega) dX2_canFlip_59 ?_
      refine lv_cvi (y := (s_fa T a b nT).2.1) rfl ?_
      refine sx_aald hx hb hK.1 hC (ix_in (hF a b h2).1) (in_lt (hF a b h2).1) dX2_canFlip_60 (fun xq13 hr14 => ?_)
      refine lv_aload_n hx hb dX2_canFlip_61 rfl (lv_at hl 2 rfl) ?_
      refine va_get (D := (dC, dI)) (ci := 2) (v := .ref qc) (C := RX2) (T := TX2) (N := 4) hx hb hts in_X2_canFlip_X2 hown hK.1 (va_P.one hO) 0 rfl rfl 0 (by decide) (hts (.fieldLink RX2 9 "MoorTrianglesLaw$Sim" "cairns" "[[I") fl_X2_canFlip_9) (fun _ h9 => h9) rfl dX2_canFlip_62 ?_
      refine lv_aload_n hx hb dX2_canFlip_65 rfl (lv_at hl 1 rfl) ?_
      refine lv_iconst (v := 1) hx hb dX2_canFlip_66 (by decide) ?_
      refine sx_iald hx hb hK.1 hf3 ix_1 (by omega) dX2_canFlip_67 ?_
      refine lv_cvi (y := (s_fa T a b nT).2.2) rfl ?_
      refine sx_aald hx hb hK.1 hC (ix_in (hF a b h2).2) (in_lt (hF a b h2).2) dX2_canFlip_68 (fun xq15 hr16 => ?_)
      refine lv_aload_n hx hb dX2_canFlip_69 rfl (lv_at hl 2 rfl) ?_
      refine va_get (D := (dC, dI)) (ci := 2) (v := .ref qc) (C := RX2) (T := TX2) (N := 4) hx hb hts in_X2_canFlip_X2 hown hK.1 (va_P.one hO) 0 rfl rfl 0 (by decide) (hts (.fieldLink RX2 9 "MoorTrianglesLaw$Sim" "cairns" "[[I") fl_X2_canFlip_9) (fun _ h9 => h9) rfl dX2_canFlip_70 ?_
      refine lv_iload_n hx hb dX2_canFlip_73 rfl (lv_at hl 4 rfl) ?_
      refine sx_aald hx hb hK.1 hC (ix_in ib) (in_lt ib) dX2_canFlip_74 (fun xq17 hr18 => ?_)
      refine sr_cVi (As := [.ref xq13, .ref xq15, .ref xq17]) (rest := []) F (c_X2_cross l dC dI cI cZ cY h (h + 1) xq13 xq15 xq17 3 (C ((s_fa T a b nT).2.1).toNatClampNeg) (C ((s_fa T a b nT).2.2).toNatClampNeg) (C b.toNatClampNeg) (by decide)) (cwV 3 hts gX2_canFlip_X2_cross rfl rfl rfl hd_X2_cross ⟨Nat.le_of_ble_eq_true rfl, Nat.le_of_ble_eq_true rfl⟩) ⟨hr14, hr16, hr18⟩ hK (sM.recv hK.1 ⟨qc, qt, qs, hO, hC, hTt, hSt, hn1, hn2⟩) rfl hl.1 rfl (lv_room (Nat.le_of_ble_eq_true rfl)) dX2_canFlip_75 ⟨(by first | exact Nat.le_of_ble_eq_true rfl | omega | (dsimp only; omega)), (by first | exact Nat.le_of_ble_eq_true rfl | omega | (dsimp only; omega))⟩ ?_
      refine lv_istore (lv' := [(5, .int (s_cross (C ((s_fa T a b nT).2.1).toNatClampNeg) (C ((s_fa T a b nT).2.2).toNatClampNeg) (C b.toNatClampNeg))), (4, .int (s_cross (C ((s_fa T a b nT).2.1).toNatClampNeg) (C ((s_fa T a b nT).2.2).toNatClampNeg) (C a.toNatClampNeg))), (3, .ref q4), (0, .ref h), (1, .int a), (2, .int b)]) hx hb dX2_canFlip_78 hl (by decide) rfl (fun ls hl => ?_)
      refine lv_iload hx hb dX2_canFlip_80 (lv_at hl 1 rfl) ?_
      refine lv_iload hx hb dX2_canFlip_82 (lv_at hl 0 rfl) ?_
      refine lv_imul hx hb dX2_canFlip_84 ?_
      refine lv_if_ge (tgt := 92) hx hb dX2_canFlip_85 (by decide) (fun c_19 => ?_) (fun c_19 => ?_)
      · refine lv_iconst (v := 0) hx hb dX2_canFlip_92 (by decide) ?_
        exact sa_zret (Pf := fun _ => True) hx hb hr hlocks (by rw [s_flp, if_neg c_5, if_neg (by rw [c_6]; decide), if_pos c_19]; try rfl) trivial hS (by first | exact Nat.le_of_ble_eq_true rfl | omega | (dsimp only; omega)) (by first | exact Nat.le_of_ble_eq_true rfl | omega | (dsimp only; omega)) dX2_canFlip_93
      · refine lv_iconst (v := 1) hx hb dX2_canFlip_88 (by decide) ?_
        refine lv_goto (tgt := 93) hx hb dX2_canFlip_89 (by decide) ?_
        exact sa_zret (Pf := fun _ => True) hx hb hr hlocks (by rw [s_flp, if_neg c_5, if_neg (by rw [c_6]; decide), if_neg c_19]; try rfl) trivial hS (by first | exact Nat.le_of_ble_eq_true rfl | omega | (dsimp only; omega)) (by first | exact Nat.le_of_ble_eq_true rfl | omega | (dsimp only; omega)) dX2_canFlip_93
    · refine lv_iconst (v := 0) hx hb dX2_canFlip_22 (by decide) ?_
      exact sa_zret (Pf := fun _ => True) hx hb hr hlocks (by rw [s_flp, if_neg c_5, if_pos c_6]; try rfl) trivial hS (by first | exact Nat.le_of_ble_eq_true rfl | omega | (dsimp only; omega)) (by first | exact Nat.le_of_ble_eq_true rfl | omega | (dsimp only; omega)) dX2_canFlip_23
theorem na_X2_side : (Cond.arrayClass .int) ∈ wsX2_side := by decide +kernel
theorem in_X2_side_X2 : ∀ w ∈ wsX20, w ∈ wsX2_side := by decide +kernel
theorem fl_X2_side_9 : (Cond.fieldLink RX2 9 "MoorTrianglesLaw$Sim" "cairns" "[[I") ∈ wsX2_side := by decide +kernel
theorem hd_X2_side : yX2_side.cls = RX2 ∧ yX2_side.cls ≠ "java/lang/invoke/MethodHandle" ∧ yX2_side.cls ≠ "java/lang/invoke/VarHandle" ∧ (parseMethodDescriptor yX2_side.desc).map (fun d => d.parameters.length) = some 3 := by decide +kernel
set_option maxHeartbeats 4000000 in
set_option maxRecDepth 100000 in
theorem c_X2_side (l : Launch) (dC : Nat → ClassId) (dI : Nat → Nat → Nat) (cI cZ cY : ClassId) (h : Nat) (nC : Nat) (C : Nat → Nat → Int32) (nT : Nat) (T : Nat → Nat → Int32) (nS : Nat) (S : Nat → Nat → Int32) (fl : Int32) (x1 : Nat) (f1 : Nat → Int32) (x : Int32) (y : Int32) (hok : ∀ j : Nat, j < 3 → vp_in (f1 j) nC) (sz : Nat) : Met l yX2_side wsX2_side ({ frames := 1, cells := 1, slots := 2, locals := 23 }) (va_Pc [.ref h, .ref x1, .int x, .int y] (sPz (dC, dI) cI cZ cY (fun H => sM (dC, dI) cI cY h nC C nT T nS S fl H ∧ hI cI (h + 1) H x1 3 f1) sz)) (sQi (s_side C f1 x y) (fun _ => True) (aN sz)) 1 2 (aN sz) := by
  refine sa_start (cc := cX2_side) (maxL := 9) (ret := (some .int)) (Q0 := sQi (s_side C f1 x y) (fun _ => True)) aN aN_ok RX2 (by decide) rfl rfl (Nat.le_of_ble_eq_true rfl) ?_
  intro p e s m below meth c ⟨hx, hb, hr, hml, hown, hts, hlocks, hini⟩ hM0 hK A hAe hA hS ls hl
  have F : CallFix p m c cX2_side 9 s ([.ref h, .ref x1, .int x, .int y] : List Value).toArray wsX2_side RX2 := ⟨hx, hb, hml, hown, hts⟩
  have hl : lv_has ls 9 [(0, .ref h), (1, .ref x1), (2, .int x), (3, .int y)] := hl
  obtain ⟨⟨qc, qt, qs, hO, hC, hTt, hSt, hn1, hn2⟩, hx1⟩ := hM0
  refine lv_iconst (v := 2) hx hb dX2_side_0 (by decide) ?_
  have hz04 := hS.1
  refine sx_newi (N := 2) hx hb (hts _ na_X2_side) hK.1 hS (Nat.succ_le_of_lt hO.lt) ix_2 (Nat.le_of_ble_eq_true rfl) (by first | exact Nat.le_of_ble_eq_true rfl | omega | (dsimp only; omega)) (by first | exact Nat.le_of_ble_eq_true rfl | omega | (dsimp only; omega)) dX2_side_1 (fun q1 H2 hq3 hE hN hS => ?_)
  refine lv_dup hx hb dX2_side_3 rfl ?_
  refine lv_iconst (v := 0) hx hb dX2_side_4 (by decide) ?_
  refine lv_iload_n hx hb dX2_side_5 rfl (lv_at hl 2 rfl) ?_
  refine sx_iast hx hb hK.1 hS hN (hA q1 (by rw [hq3]; exact hz04)) ix_0 (by decide) dX2_side_6 (fun H5 locs6 hN hz_ ho_ hS => ?_)
  have hE := hE.wr (Nat.le_of_eq hq3.symm) hz_ ho_
  refine lv_dup hx hb dX2_side_7 rfl ?_
  refine lv_iconst (v := 1) hx hb dX2_side_8 (by decide) ?_
  refine lv_iload_n hx hb dX2_side_9 rfl (lv_at hl 3 rfl) ?_
  refine sx_iast hx hb hK.1 hS hN (hA q1 (by rw [hq3]; exact hz04)) ix_1 (by decide) dX2_side_10 (fun H7 locs8 hN hz_ ho_ hS => ?_)
  have hE := hE.wr (Nat.le_of_eq hq3.symm) hz_ ho_
  have hC := hC.ext0 hE
  have hTt := hTt.ext0 hE
  have hSt := hSt.ext0 hE
  have hx1 := hx1.ext0 hE
  have hO := hO.ext0 hE
  have hr9 : hI cI _ H7 q1 2 (s2 x y) := hN.cg s2_upd
  refine lv_astore (lv' := [(4, .ref q1), (0, .ref h), (1, .ref x1), (2, .int x), (3, .int y)]) hx hb dX2_side_11 hl (by decide) rfl (fun ls hl => ?_)
  refine lv_iconst (v := 3) hx hb dX2_side_13 (by decide) ?_
  refine lv_istore (lv' := [(5, .int 3), (4, .ref q1), (0, .ref h), (1, .ref x1), (2, .int x), (3, .int y)]) hx hb dX2_side_14 hl (by decide) rfl (fun ls hl => ?_)
  refine lv_aload_n hx hb dX2_side_16 rfl (lv_at hl 2 rfl) ?_
  refine lv_aload_n hx hb dX2_side_17 rfl (lv_at hl 2 rfl) ?_
  refine va_get (D := (dC, dI)) (ci := 2) (v := .ref qc) (C := RX2) (T := TX2) (N := 4) hx hb hts in_X2_side_X2 hown hK.1 (va_P.one hO) 0 rfl rfl 0 (by decide) (hts (.fieldLink RX2 9 "MoorTrianglesLaw$Sim" "cairns" "[[I") fl_X2_side_9) (fun _ h9 => h9) rfl dX2_side_18 ?_
  refine lv_aload_n hx hb dX2_side_21 rfl (lv_at hl 3 rfl) ?_
  refine lv_iconst (v := 0) hx hb dX2_side_22 (by decide) ?_
  refine sx_iald hx hb hK.1 hx1 ix_0 (by decide) dX2_side_23 ?_
  refine sx_aald hx hb hK.1 hC (ix_in (hok 0 (by decide))) (in_lt (hok 0 (by decide))) dX2_side_24 (fun xq10 hr11 => ?_)
  refine lv_aload_n hx hb dX2_side_25 rfl (lv_at hl 2 rfl) ?_
  refine va_get (D := (dC, dI)) (ci := 2) (v := .ref qc) (C := RX2) (T := TX2) (N := 4) hx hb hts in_X2_side_X2 hown hK.1 (va_P.one hO) 0 rfl rfl 0 (by decide) (hts (.fieldLink RX2 9 "MoorTrianglesLaw$Sim" "cairns" "[[I") fl_X2_side_9) (fun _ h9 => h9) rfl dX2_side_26 ?_
  refine lv_aload_n hx hb dX2_side_29 rfl (lv_at hl 3 rfl) ?_
  refine lv_iconst (v := 1) hx hb dX2_side_30 (by decide) ?_
  refine sx_iald hx hb hK.1 hx1 ix_1 (by decide) dX2_side_31 ?_
  refine sx_aald hx hb hK.1 hC (ix_in (hok 1 (by decide))) (in_lt (hok 1 (by decide))) dX2_side_32 (fun xq12 hr13 => ?_)
  refine lv_aload_n hx hb dX2_side_33 rfl (lv_at hl 2 rfl) ?_
  refine va_get (D := (dC, dI)) (ci := 2) (v := .ref qc) (C := RX2) (T := TX2) (N := 4) hx hb hts in_X2_side_X2 hown hK.1 (va_P.one hO) 0 rfl rfl 0 (by decide) (hts (.fieldLink RX2 9 "MoorTrianglesLaw$Sim" "cairns" "[[I") fl_X2_side_9) (fun _ h9 => h9) rfl dX2_side_34 ?_
  refine lv_aload_n hx hb dX2_side_37 rfl (lv_at hl 3 rfl) ?_
  refine lv_iconst (v := 2) hx hb dX2_side_38 (by decide) ?_
  refine sx_iald hx hb hK.1 hx1 ix_2 (by decide) dX2_side_39 ?_
  refine sx_aald hx hb hK.1 hC (ix_in (hok 2 (by decide))) (in_lt (hok 2 (by decide))) dX2_side_40 (fun xq14 hr15 => ?_)
  refine sr_cVi (As := [.ref xq10, .ref xq12, .ref xq14]) (rest := []) F (c_X2_cross l dC dI cI cZ cY h (h + 1) xq10 xq12 xq14 3 (C (f1 0).toNatClampNeg) (C (f1 1).toNatClampNeg) (C (f1 2).toNatClampNeg) (by decide)) (cwV 3 hts gX2_side_X2_cross rfl rfl rfl hd_X2_cross ⟨Nat.le_of_ble_eq_true rfl, Nat.le_of_ble_eq_true rfl⟩) ⟨hr11, hr13, hr15⟩ hK (sM.recv hK.1 ⟨qc, qt, qs, hO, hC, hTt, hSt, hn1, hn2⟩) rfl hl.1 rfl (lv_room (Nat.le_of_ble_eq_true rfl)) dX2_side_41 ⟨(by first | exact Nat.le_of_ble_eq_true rfl | omega | (dsimp only; omega)), (by first | exact Nat.le_of_ble_eq_true rfl | omega | (dsimp only; omega))⟩ ?_
  refine lv_if_le (tgt := 51) hx hb dX2_side_44 (by decide) (fun c_16 => ?_) (fun c_16 => ?_)
  · refine lv_iconst (v := 0) hx hb dX2_side_51 (by decide) ?_
    refine lv_istore (lv' := [(6, .int 0), (5, .int 3), (4, .ref q1), (0, .ref h), (1, .ref x1), (2, .int x), (3, .int y)]) hx hb dX2_side_52 hl (by decide) rfl (fun ls hl => ?_)
    refine lv_iconst (v := 0) hx hb dX2_side_54 (by decide) ?_
    refine lv_istore (lv' := [(7, .int 0), (6, .int 0), (5, .int 3), (4, .ref q1), (0, .ref h), (1, .ref x1), (2, .int x), (3, .int y)]) hx hb dX2_side_55 hl (by decide) rfl (fun ls hl => ?_)
    have hL57 : ∀ (k_17 : Nat) (i : Nat), (3 - i) < k_17 → (i ≤ 3) → (∀ j, j < i → s_bad C f1 x y j = false) → ∀ ls : Array Slot, lv_has ls 9 [(7, .int (nI i)), (5, .int (s_on C f1 x y i)), (6, .int 0), (4, .ref q1), (0, .ref h), (1, .ref x1), (2, .int x), (3, .int y)] → W p l e ({ frames := 1, cells := 1, slots := 2, locals := 23 } : Room) s m ([.ref h, .ref x1, .int x, .int y] : List Value).toArray below meth c H7 locs8 (0 + 1) (0 + 2) (MQ below (sQi (s_side C f1 x y) (fun _ => True) A) ([.ref h, .ref x1, .int x, .int y] : List Value).toArray s 1 2 A) (F0 m 57 ls []) := by
      intro k_17
      induction k_17 with
      | zero => intro i hk; exact absurd hk (Nat.not_lt_zero _)
      | succ k_17 ih_18 =>
        intro i hk_57 hi_i hbi ls hl
        refine lv_iload hx hb dX2_side_57 (lv_at hl 0 rfl) ?_
        refine lv_iconst (v := 3) hx hb dX2_side_59 (by decide) ?_
        refine lv_icmp_ge (tgt := 128) hx hb dX2_side_60 (by decide) (fun c_19 => ?_) (fun c_19 => ?_)
        · have hge_i : 3 ≤ i := nI_le_le (by omega) (by omega) c_19
          have heq_i : i = 3 := by omega
          have hl : lv_has ls 9 [(7, .int (nI 3)), (5, .int (s_on C f1 x y 3)), (6, .int 0), (4, .ref q1), (0, .ref h), (1, .ref x1), (2, .int x), (3, .int y)] := by rw [heq_i] at hl; exact hl
          rw [heq_i] at hbi
          refine lv_iload hx hb dX2_side_128 (lv_at hl 1 rfl) ?_
          exact sa_iret (Pf := fun _ => True) hx hb hr hlocks (by rw [s_side, rg_fst_none hbi, if_neg (by decide)]) trivial hS (by first | exact Nat.le_of_ble_eq_true rfl | omega | (dsimp only; omega)) (by first | exact Nat.le_of_ble_eq_true rfl | omega | (dsimp only; omega)) dX2_side_130
        · have hlt_i : i < 3 := nI_nle_lt (by omega) (by omega) c_19
          refine lv_aload_n hx hb dX2_side_63 rfl (lv_at hl 4 rfl) ?_
          refine lv_aload_n hx hb dX2_side_64 rfl (lv_at hl 4 rfl) ?_
          refine va_get (D := (dC, dI)) (ci := 2) (v := .ref qc) (C := RX2) (T := TX2) (N := 4) hx hb hts in_X2_side_X2 hown hK.1 (va_P.one hO) 0 rfl rfl 0 (by decide) (hts (.fieldLink RX2 9 "MoorTrianglesLaw$Sim" "cairns" "[[I") fl_X2_side_9) (fun _ h9 => h9) rfl dX2_side_65 ?_
          refine lv_aload_n hx hb dX2_side_68 rfl (lv_at hl 5 rfl) ?_
          refine lv_iload hx hb dX2_side_69 (lv_at hl 0 rfl) ?_
          refine sx_iald hx hb hK.1 hx1 (ix_nI (by omega)) hlt_i dX2_side_71 ?_
          refine sx_aald hx hb hK.1 hC (ix_in (hok i hlt_i)) (in_lt (hok i hlt_i)) dX2_side_72 (fun xq20 hr21 => ?_)
          refine lv_aload_n hx hb dX2_side_73 rfl (lv_at hl 4 rfl) ?_
          refine va_get (D := (dC, dI)) (ci := 2) (v := .ref qc) (C := RX2) (T := TX2) (N := 4) hx hb hts in_X2_side_X2 hown hK.1 (va_P.one hO) 0 rfl rfl 0 (by decide) (hts (.fieldLink RX2 9 "MoorTrianglesLaw$Sim" "cairns" "[[I") fl_X2_side_9) (fun _ h9 => h9) rfl dX2_side_74 ?_
          refine lv_aload_n hx hb dX2_side_77 rfl (lv_at hl 5 rfl) ?_
          refine lv_iload hx hb dX2_side_78 (lv_at hl 0 rfl) ?_
          refine lv_iconst (v := 1) hx hb dX2_side_80 (by decide) ?_
          refine lv_iadd hx hb dX2_side_81 ?_
          refine lv_iconst (v := 3) hx hb dX2_side_82 (by decide) ?_
          refine lv_irem hx hb dX2_side_83 (by decide) ?_
          refine lv_cvi (y := nI ((i + 1) % 3)) (nI_mod3 (by omega)) ?_
          refine sx_iald hx hb hK.1 hx1 (ix_nI (by omega)) (by omega) dX2_side_84 ?_
          refine sx_aald hx hb hK.1 hC (ix_in (hok ((i + 1) % 3) (by omega))) (in_lt (hok ((i + 1) % 3) (by omega))) dX2_side_85 (fun xq22 hr23 => ?_)
          refine lv_aload hx hb dX2_side_86 (lv_at hl 3 rfl) ?_
          refine sr_cVi (As := [.ref xq20, .ref xq22, .ref q1]) (rest := []) F (c_X2_cross l dC dI cI cZ cY h (h + 1) xq20 xq22 q1 2 (C (f1 i).toNatClampNeg) (C (f1 ((i + 1) % 3)).toNatClampNeg) (s2 x y) (by decide)) (cwV 3 hts gX2_side_X2_cross rfl rfl rfl hd_X2_cross ⟨Nat.le_of_ble_eq_true rfl, Nat.le_of_ble_eq_true rfl⟩) ⟨hr21, hr23, hr9⟩ hK (sM.recv hK.1 ⟨qc, qt, qs, hO, hC, hTt, hSt, hn1, hn2⟩) rfl hl.1 rfl (lv_room (Nat.le_of_ble_eq_true rfl)) dX2_side_88 ⟨(by first | exact Nat.le_of_ble_eq_true rfl | omega | (dsimp only; omega)), (by first | exact Nat.le_of_ble_eq_true rfl | omega | (dsimp only; omega))⟩ ?_
          refine lv_istore (lv' := [(8, .int (s_cross (C (f1 i).toNatClampNeg) (C (f1 ((i + 1) % 3)).toNatClampNeg) (s2 x y))), (7, .int (nI i)), (5, .int (s_on C f1 x y i)), (6, .int 0), (4, .ref q1), (0, .ref h), (1, .ref x1), (2, .int x), (3, .int y)]) hx hb dX2_side_91 hl (by decide) rfl (fun ls hl => ?_)
          refine lv_iload hx hb dX2_side_93 (lv_at hl 3 rfl) ?_
          refine lv_if_eq (tgt := 106) hx hb dX2_side_95 (by decide) (fun c_24 => ?_) (fun c_24 => ?_)
          · refine lv_iload hx hb dX2_side_106 (lv_at hl 0 rfl) ?_
            refine lv_if_le (tgt := 113) hx hb dX2_side_108 (by decide) (fun c_25 => ?_) (fun c_25 => ?_)
            · refine lv_iload hx hb dX2_side_113 (lv_at hl 0 rfl) ?_
              refine lv_if_ne (tgt := 122) hx hb dX2_side_115 (by decide) (fun c_26 => ?_) (fun c_26 => ?_)
              · refine lv_iinc (v := nI (i + 1)) (lv' := [(7, .int (nI (i + 1))), (8, .int (s_cross (C (f1 i).toNatClampNeg) (C (f1 ((i + 1) % 3)).toNatClampNeg) (s2 x y))), (5, .int (s_on C f1 x y i)), (6, .int 0), (4, .ref q1), (0, .ref h), (1, .ref x1), (2, .int x), (3, .int y)]) hx hb dX2_side_122 hl (k := 1) rfl (nI_1 _) (by decide) rfl (fun ls hl => ?_)
                refine lv_goto (tgt := 57) hx hb dX2_side_125 (by decide) ?_
                have hl := lv_sub (l' := [(7, .int (nI (i + 1))), (5, .int (s_on C f1 x y i)), (6, .int 0), (4, .ref q1), (0, .ref h), (1, .ref x1), (2, .int x), (3, .int y)]) hl [0, 2, 3, 4, 5, 6, 7, 8] rfl
                have hl : lv_has ls 9 [(7, .int (nI (i + 1))), (5, .int (s_on C f1 x y (i + 1))), (6, .int 0), (4, .ref q1), (0, .ref h), (1, .ref x1), (2, .int x), (3, .int y)] := by
                  have e9 : [(7, .int (nI (i + 1))), (5, .int (s_on C f1 x y i)), (6, .int 0), (4, .ref q1), (0, .ref h), (1, .ref x1), (2, .int x), (3, .int y)] = ([(7, .int (nI (i + 1))), (5, .int (s_on C f1 x y (i + 1))), (6, .int 0), (4, .ref q1), (0, .ref h), (1, .ref x1), (2, .int x), (3, .int y)] : List (Nat × Value)) := by rw [s_on, if_neg (c := s_sI C f1 x y i = 0) c_26]
                  rw [← e9]; exact hl
                exact ih_18 (i + 1) (by omega) (by omega) (rg_bef hbi (show s_bad C f1 x y i = false from by rw [s_bad, if_neg (by rw [(show s_left C f1 = false from by rw [s_left, if_pos c_16])]; decide), if_pos (c := s_sI C f1 x y i ≤ 0) c_25])) _ hl
              · refine lv_iload hx hb dX2_side_118 (lv_at hl 1 rfl) ?_
                refine lv_istore (lv' := [(5, .int (nI i)), (8, .int (s_cross (C (f1 i).toNatClampNeg) (C (f1 ((i + 1) % 3)).toNatClampNeg) (s2 x y))), (7, .int (nI i)), (6, .int 0), (4, .ref q1), (0, .ref h), (1, .ref x1), (2, .int x), (3, .int y)]) hx hb dX2_side_120 hl (by decide) rfl (fun ls hl => ?_)
                refine lv_iinc (v := nI (i + 1)) (lv' := [(7, .int (nI (i + 1))), (5, .int (nI i)), (8, .int (s_cross (C (f1 i).toNatClampNeg) (C (f1 ((i + 1) % 3)).toNatClampNeg) (s2 x y))), (6, .int 0), (4, .ref q1), (0, .ref h), (1, .ref x1), (2, .int x), (3, .int y)]) hx hb dX2_side_122 hl (k := 2) rfl (nI_1 _) (by decide) rfl (fun ls hl => ?_)
                refine lv_goto (tgt := 57) hx hb dX2_side_125 (by decide) ?_
                have hl := lv_sub (l' := [(7, .int (nI (i + 1))), (5, .int (nI i)), (6, .int 0), (4, .ref q1), (0, .ref h), (1, .ref x1), (2, .int x), (3, .int y)]) hl [0, 1, 3, 4, 5, 6, 7, 8] rfl
                have hl : lv_has ls 9 [(7, .int (nI (i + 1))), (5, .int (s_on C f1 x y (i + 1))), (6, .int 0), (4, .ref q1), (0, .ref h), (1, .ref x1), (2, .int x), (3, .int y)] := by
                  have e9 : [(7, .int (nI (i + 1))), (5, .int (nI i)), (6, .int 0), (4, .ref q1), (0, .ref h), (1, .ref x1), (2, .int x), (3, .int y)] = ([(7, .int (nI (i + 1))), (5, .int (s_on C f1 x y (i + 1))), (6, .int 0), (4, .ref q1), (0, .ref h), (1, .ref x1), (2, .int x), (3, .int y)] : List (Nat × Value)) := by rw [s_on, if_pos (c := s_sI C f1 x y i = 0) c_26]
                  rw [← e9]; exact hl
                exact ih_18 (i + 1) (by omega) (by omega) (rg_bef hbi (show s_bad C f1 x y i = false from by rw [s_bad, if_neg (by rw [(show s_left C f1 = false from by rw [s_left, if_pos c_16])]; decide), if_pos (c := s_sI C f1 x y i ≤ 0) c_25])) _ hl
            · refine lv_iconst (v := (-1)) hx hb dX2_side_111 (by decide) ?_
              exact sa_iret (Pf := fun _ => True) hx hb hr hlocks (by rw [s_side, rg_fst_some (i := i) (show s_bad C f1 x y i = true from by rw [s_bad, if_neg (by rw [(show s_left C f1 = false from by rw [s_left, if_pos c_16])]; decide), if_neg (c := s_sI C f1 x y i ≤ 0) c_25]) hbi hlt_i, if_pos (show (some i).isSome = true from rfl)]) trivial hS (by first | exact Nat.le_of_ble_eq_true rfl | omega | (dsimp only; omega)) (by first | exact Nat.le_of_ble_eq_true rfl | omega | (dsimp only; omega)) dX2_side_112
          · exact absurd c_24 (by decide)
    have hl := lv_sub (l' := [(7, .int 0), (5, .int 3), (6, .int 0), (4, .ref q1), (0, .ref h), (1, .ref x1), (2, .int x), (3, .int y)]) hl [0, 2, 1, 3, 4, 5, 6, 7] rfl
    have hl : lv_has ls 9 [(7, .int (nI 0)), (5, .int (s_on C f1 x y 0)), (6, .int 0), (4, .ref q1), (0, .ref h), (1, .ref x1), (2, .int x), (3, .int y)] := by
      have e9 : [(7, .int 0), (5, .int 3), (6, .int 0), (4, .ref q1), (0, .ref h), (1, .ref x1), (2, .int x), (3, .int y)] = ([(7, .int (nI 0)), (5, .int (s_on C f1 x y 0)), (6, .int 0), (4, .ref q1), (0, .ref h), (1, .ref x1), (2, .int x), (3, .int y)] : List (Nat × Value)) := by rfl
      rw [← e9]; exact hl
    exact hL57 _ 0 (Nat.lt_succ_self _) (by omega) (fun j hj => absurd hj (Nat.not_lt_zero _)) _ hl
  · refine lv_iconst (v := 1) hx hb dX2_side_47 (by decide) ?_
    refine lv_goto (tgt := 52) hx hb dX2_side_48 (by decide) ?_
    refine lv_istore (lv' := [(6, .int 1), (5, .int 3), (4, .ref q1), (0, .ref h), (1, .ref x1), (2, .int x), (3, .int y)]) hx hb dX2_side_52 hl (by decide) rfl (fun ls hl => ?_)
    refine lv_iconst (v := 0) hx hb dX2_side_54 (by decide) ?_
    refine lv_istore (lv' := [(7, .int 0), (6, .int 1), (5, .int 3), (4, .ref q1), (0, .ref h), (1, .ref x1), (2, .int x), (3, .int y)]) hx hb dX2_side_55 hl (by decide) rfl (fun ls hl => ?_)
    have hL57 : ∀ (k_27 : Nat) (i : Nat), (3 - i) < k_27 → (i ≤ 3) → (∀ j, j < i → s_bad C f1 x y j = false) → ∀ ls : Array Slot, lv_has ls 9 [(7, .int (nI i)), (5, .int (s_on C f1 x y i)), (6, .int 1), (4, .ref q1), (0, .ref h), (1, .ref x1), (2, .int x), (3, .int y)] → W p l e ({ frames := 1, cells := 1, slots := 2, locals := 23 } : Room) s m ([.ref h, .ref x1, .int x, .int y] : List Value).toArray below meth c H7 locs8 (0 + 1) (0 + 2) (MQ below (sQi (s_side C f1 x y) (fun _ => True) A) ([.ref h, .ref x1, .int x, .int y] : List Value).toArray s 1 2 A) (F0 m 57 ls []) := by
      intro k_27
      induction k_27 with
      | zero => intro i hk; exact absurd hk (Nat.not_lt_zero _)
      | succ k_27 ih_28 =>
        intro i hk_57 hi_i hbi ls hl
        refine lv_iload hx hb dX2_side_57 (lv_at hl 0 rfl) ?_
        refine lv_iconst (v := 3) hx hb dX2_side_59 (by decide) ?_
        refine lv_icmp_ge (tgt := 128) hx hb dX2_side_60 (by decide) (fun c_29 => ?_) (fun c_29 => ?_)
        · have hge_i : 3 ≤ i := nI_le_le (by omega) (by omega) c_29
          have heq_i : i = 3 := by omega
          have hl : lv_has ls 9 [(7, .int (nI 3)), (5, .int (s_on C f1 x y 3)), (6, .int 1), (4, .ref q1), (0, .ref h), (1, .ref x1), (2, .int x), (3, .int y)] := by rw [heq_i] at hl; exact hl
          rw [heq_i] at hbi
          refine lv_iload hx hb dX2_side_128 (lv_at hl 1 rfl) ?_
          exact sa_iret (Pf := fun _ => True) hx hb hr hlocks (by rw [s_side, rg_fst_none hbi, if_neg (by decide)]) trivial hS (by first | exact Nat.le_of_ble_eq_true rfl | omega | (dsimp only; omega)) (by first | exact Nat.le_of_ble_eq_true rfl | omega | (dsimp only; omega)) dX2_side_130
        · have hlt_i : i < 3 := nI_nle_lt (by omega) (by omega) c_29
          refine lv_aload_n hx hb dX2_side_63 rfl (lv_at hl 4 rfl) ?_
          refine lv_aload_n hx hb dX2_side_64 rfl (lv_at hl 4 rfl) ?_
          refine va_get (D := (dC, dI)) (ci := 2) (v := .ref qc) (C := RX2) (T := TX2) (N := 4) hx hb hts in_X2_side_X2 hown hK.1 (va_P.one hO) 0 rfl rfl 0 (by decide) (hts (.fieldLink RX2 9 "MoorTrianglesLaw$Sim" "cairns" "[[I") fl_X2_side_9) (fun _ h9 => h9) rfl dX2_side_65 ?_
          refine lv_aload_n hx hb dX2_side_68 rfl (lv_at hl 5 rfl) ?_
          refine lv_iload hx hb dX2_side_69 (lv_at hl 0 rfl) ?_
          refine sx_iald hx hb hK.1 hx1 (ix_nI (by omega)) hlt_i dX2_side_71 ?_
          refine sx_aald hx hb hK.1 hC (ix_in (hok i hlt_i)) (in_lt (hok i hlt_i)) dX2_side_72 (fun xq30 hr31 => ?_)
          refine lv_aload_n hx hb dX2_side_73 rfl (lv_at hl 4 rfl) ?_
          refine va_get (D := (dC, dI)) (ci := 2) (v := .ref qc) (C := RX2) (T := TX2) (N := 4) hx hb hts in_X2_side_X2 hown hK.1 (va_P.one hO) 0 rfl rfl 0 (by decide) (hts (.fieldLink RX2 9 "MoorTrianglesLaw$Sim" "cairns" "[[I") fl_X2_side_9) (fun _ h9 => h9) rfl dX2_side_74 ?_
          refine lv_aload_n hx hb dX2_side_77 rfl (lv_at hl 5 rfl) ?_
          refine lv_iload hx hb dX2_side_78 (lv_at hl 0 rfl) ?_
          refine lv_iconst (v := 1) hx hb dX2_side_80 (by decide) ?_
          refine lv_iadd hx hb dX2_side_81 ?_
          refine lv_iconst (v := 3) hx hb dX2_side_82 (by decide) ?_
          refine lv_irem hx hb dX2_side_83 (by decide) ?_
          refine lv_cvi (y := nI ((i + 1) % 3)) (nI_mod3 (by omega)) ?_
          refine sx_iald hx hb hK.1 hx1 (ix_nI (by omega)) (by omega) dX2_side_84 ?_
          refine sx_aald hx hb hK.1 hC (ix_in (hok ((i + 1) % 3) (by omega))) (in_lt (hok ((i + 1) % 3) (by omega))) dX2_side_85 (fun xq32 hr33 => ?_)
          refine lv_aload hx hb dX2_side_86 (lv_at hl 3 rfl) ?_
          refine sr_cVi (As := [.ref xq30, .ref xq32, .ref q1]) (rest := []) F (c_X2_cross l dC dI cI cZ cY h (h + 1) xq30 xq32 q1 2 (C (f1 i).toNatClampNeg) (C (f1 ((i + 1) % 3)).toNatClampNeg) (s2 x y) (by decide)) (cwV 3 hts gX2_side_X2_cross rfl rfl rfl hd_X2_cross ⟨Nat.le_of_ble_eq_true rfl, Nat.le_of_ble_eq_true rfl⟩) ⟨hr31, hr33, hr9⟩ hK (sM.recv hK.1 ⟨qc, qt, qs, hO, hC, hTt, hSt, hn1, hn2⟩) rfl hl.1 rfl (lv_room (Nat.le_of_ble_eq_true rfl)) dX2_side_88 ⟨(by first | exact Nat.le_of_ble_eq_true rfl | omega | (dsimp only; omega)), (by first | exact Nat.le_of_ble_eq_true rfl | omega | (dsimp only; omega))⟩ ?_
          refine lv_istore (lv' := [(8, .int (s_cross (C (f1 i).toNatClampNeg) (C (f1 ((i + 1) % 3)).toNatClampNeg) (s2 x y))), (7, .int (nI i)), (5, .int (s_on C f1 x y i)), (6, .int 1), (4, .ref q1), (0, .ref h), (1, .ref x1), (2, .int x), (3, .int y)]) hx hb dX2_side_91 hl (by decide) rfl (fun ls hl => ?_)
          refine lv_iload hx hb dX2_side_93 (lv_at hl 3 rfl) ?_
          refine lv_if_eq (tgt := 106) hx hb dX2_side_95 (by decide) (fun c_34 => ?_) (fun c_34 => ?_)
          · exact absurd c_34 (by decide)
          · refine lv_iload hx hb dX2_side_98 (lv_at hl 0 rfl) ?_
            refine lv_if_ge (tgt := 113) hx hb dX2_side_100 (by decide) (fun c_35 => ?_) (fun c_35 => ?_)
            · refine lv_iload hx hb dX2_side_113 (lv_at hl 0 rfl) ?_
              refine lv_if_ne (tgt := 122) hx hb dX2_side_115 (by decide) (fun c_36 => ?_) (fun c_36 => ?_)
              · refine lv_iinc (v := nI (i + 1)) (lv' := [(7, .int (nI (i + 1))), (8, .int (s_cross (C (f1 i).toNatClampNeg) (C (f1 ((i + 1) % 3)).toNatClampNeg) (s2 x y))), (5, .int (s_on C f1 x y i)), (6, .int 1), (4, .ref q1), (0, .ref h), (1, .ref x1), (2, .int x), (3, .int y)]) hx hb dX2_side_122 hl (k := 1) rfl (nI_1 _) (by decide) rfl (fun ls hl => ?_)
                refine lv_goto (tgt := 57) hx hb dX2_side_125 (by decide) ?_
                have hl := lv_sub (l' := [(7, .int (nI (i + 1))), (5, .int (s_on C f1 x y i)), (6, .int 1), (4, .ref q1), (0, .ref h), (1, .ref x1), (2, .int x), (3, .int y)]) hl [0, 2, 3, 4, 5, 6, 7, 8] rfl
                have hl : lv_has ls 9 [(7, .int (nI (i + 1))), (5, .int (s_on C f1 x y (i + 1))), (6, .int 1), (4, .ref q1), (0, .ref h), (1, .ref x1), (2, .int x), (3, .int y)] := by
                  have e9 : [(7, .int (nI (i + 1))), (5, .int (s_on C f1 x y i)), (6, .int 1), (4, .ref q1), (0, .ref h), (1, .ref x1), (2, .int x), (3, .int y)] = ([(7, .int (nI (i + 1))), (5, .int (s_on C f1 x y (i + 1))), (6, .int 1), (4, .ref q1), (0, .ref h), (1, .ref x1), (2, .int x), (3, .int y)] : List (Nat × Value)) := by rw [s_on, if_neg (c := s_sI C f1 x y i = 0) c_36]
                  rw [← e9]; exact hl
                exact ih_28 (i + 1) (by omega) (by omega) (rg_bef hbi (show s_bad C f1 x y i = false from by rw [s_bad, if_pos (show s_left C f1 = true from by rw [s_left, if_neg c_16]), if_pos (c := 0 ≤ s_sI C f1 x y i) c_35])) _ hl
              · refine lv_iload hx hb dX2_side_118 (lv_at hl 1 rfl) ?_
                refine lv_istore (lv' := [(5, .int (nI i)), (8, .int (s_cross (C (f1 i).toNatClampNeg) (C (f1 ((i + 1) % 3)).toNatClampNeg) (s2 x y))), (7, .int (nI i)), (6, .int 1), (4, .ref q1), (0, .ref h), (1, .ref x1), (2, .int x), (3, .int y)]) hx hb dX2_side_120 hl (by decide) rfl (fun ls hl => ?_)
                refine lv_iinc (v := nI (i + 1)) (lv' := [(7, .int (nI (i + 1))), (5, .int (nI i)), (8, .int (s_cross (C (f1 i).toNatClampNeg) (C (f1 ((i + 1) % 3)).toNatClampNeg) (s2 x y))), (6, .int 1), (4, .ref q1), (0, .ref h), (1, .ref x1), (2, .int x), (3, .int y)]) hx hb dX2_side_122 hl (k := 2) rfl (nI_1 _) (by decide) rfl (fun ls hl => ?_)
                refine lv_goto (tgt := 57) hx hb dX2_side_125 (by decide) ?_
                have hl := lv_sub (l' := [(7, .int (nI (i + 1))), (5, .int (nI i)), (6, .int 1), (4, .ref q1), (0, .ref h), (1, .ref x1), (2, .int x), (3, .int y)]) hl [0, 1, 3, 4, 5, 6, 7, 8] rfl
                have hl : lv_has ls 9 [(7, .int (nI (i + 1))), (5, .int (s_on C f1 x y (i + 1))), (6, .int 1), (4, .ref q1), (0, .ref h), (1, .ref x1), (2, .int x), (3, .int y)] := by
                  have e9 : [(7, .int (nI (i + 1))), (5, .int (nI i)), (6, .int 1), (4, .ref q1), (0, .ref h), (1, .ref x1), (2, .int x), (3, .int y)] = ([(7, .int (nI (i + 1))), (5, .int (s_on C f1 x y (i + 1))), (6, .int 1), (4, .ref q1), (0, .ref h), (1, .ref x1), (2, .int x), (3, .int y)] : List (Nat × Value)) := by rw [s_on, if_pos (c := s_sI C f1 x y i = 0) c_36]
                  rw [← e9]; exact hl
                exact ih_28 (i + 1) (by omega) (by omega) (rg_bef hbi (show s_bad C f1 x y i = false from by rw [s_bad, if_pos (show s_left C f1 = true from by rw [s_left, if_neg c_16]), if_pos (c := 0 ≤ s_sI C f1 x y i) c_35])) _ hl
            · refine lv_goto (tgt := 111) hx hb dX2_side_103 (by decide) ?_
              refine lv_iconst (v := (-1)) hx hb dX2_side_111 (by decide) ?_
              exact sa_iret (Pf := fun _ => True) hx hb hr hlocks (by rw [s_side, rg_fst_some (i := i) (show s_bad C f1 x y i = true from by rw [s_bad, if_pos (show s_left C f1 = true from by rw [s_left, if_neg c_16]), if_neg (c := 0 ≤ s_sI C f1 x y i) c_35]) hbi hlt_i, if_pos (show (some i).isSome = true from rfl)]) trivial hS (by first | exact Nat.le_of_ble_eq_true rfl | omega | (dsimp only; omega)) (by first | exact Nat.le_of_ble_eq_true rfl | omega | (dsimp only; omega)) dX2_side_112
    have hl := lv_sub (l' := [(7, .int 0), (5, .int 3), (6, .int 1), (4, .ref q1), (0, .ref h), (1, .ref x1), (2, .int x), (3, .int y)]) hl [0, 2, 1, 3, 4, 5, 6, 7] rfl
    have hl : lv_has ls 9 [(7, .int (nI 0)), (5, .int (s_on C f1 x y 0)), (6, .int 1), (4, .ref q1), (0, .ref h), (1, .ref x1), (2, .int x), (3, .int y)] := by
      have e9 : [(7, .int 0), (5, .int 3), (6, .int 1), (4, .ref q1), (0, .ref h), (1, .ref x1), (2, .int x), (3, .int y)] = ([(7, .int (nI 0)), (5, .int (s_on C f1 x y 0)), (6, .int 1), (4, .ref q1), (0, .ref h), (1, .ref x1), (2, .int x), (3, .int y)] : List (Nat × Value)) := by rfl
      rw [← e9]; exact hl
    exact hL57 _ 0 (Nat.lt_succ_self _) (by omega) (fun j hj => absurd hj (Nat.not_lt_zero _)) _ hl
