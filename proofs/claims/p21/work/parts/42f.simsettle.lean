/-! the law's own moor: settling, by program (gens.py) -/
theorem in_X2_settle_X2 : ∀ w ∈ wsX20, w ∈ wsX2_settle := by decide +kernel
theorem fl_X2_settle_9 : (Cond.fieldLink RX2 9 "MoorTrianglesLaw$Sim" "cairns" "[[I") ∈ wsX2_settle := by decide +kernel
theorem hd_X2_settle : yX2_settle.cls = RX2 ∧ yX2_settle.cls ≠ "java/lang/invoke/MethodHandle" ∧ yX2_settle.cls ≠ "java/lang/invoke/VarHandle" ∧ (parseMethodDescriptor yX2_settle.desc).map (fun d => d.parameters.length) = some 0 := by decide +kernel
set_option maxHeartbeats 4000000 in
set_option maxRecDepth 100000 in
theorem c_X2_settle (l : Launch) (dC : Nat → ClassId) (dI : Nat → Nat → Nat) (cI cZ cY : ClassId) (h : Nat) (nC : Nat) (C : Nat → Nat → Int32) (nT : Nat) (T : Nat → Nat → Int32) (nS : Nat) (S : Nat → Nat → Int32) (fl : Int32) (K W1 V1 : Nat) (hnC : nC ≤ 1000) (hnS : nS ≤ 1000) (hKs : ∀ k, k < K → (s_fu nC C (s_sq nC C nS S (nT, T) k).1 (s_sq nC C nS S (nT, T) k).2 nS S).isSome = true) (hKn : s_fu nC C (s_sq nC C nS S (nT, T) K).1 (s_sq nC C nS S (nT, T) K).2 nS S = none) (hok : ∀ k, k ≤ K → (s_sq nC C nS S (nT, T) k).1 ≤ 998 ∧ s_okF nC (s_sq nC C nS S (nT, T) k).1 (s_sq nC C nS S (nT, T) k).2) (hW : ∀ k, k ≤ K → s_dO nC (s_sq nC C nS S (nT, T) k).1 (s_sq nC C nS S (nT, T) k).2 nC + (s_sq nC C nS S (nT, T) k).1 + 10 ≤ W1) (hV : ∀ k, k ≤ K → 2 * s_dO nC (s_sq nC C nS S (nT, T) k).1 (s_sq nC C nS S (nT, T) k).2 nC + 6 * (s_sq nC C nS S (nT, T) k).1 + 20 ≤ V1) (sz : Nat) : Met l yX2_settle wsX2_settle ({ frames := 6, cells := (K + 1) * W1, slots := (K + 1) * V1, locals := 136 }) (va_Pc [.ref h] (sPz (dC, dI) cI cZ cY (sM (dC, dI) cI cY h nC C nT T nS S fl) sz)) (sQi (nI K) (sM (dC, dI) cI cY h nC C (s_sq nC C nS S (nT, T) K).1 (s_sq nC C nS S (nT, T) K).2 nS S (fl + nI K)) ((aH h) sz)) ((K + 1) * W1) ((K + 1) * V1) ((aH h) sz) := by
  refine sa_start (cc := cX2_settle) (maxL := 4) (ret := (some .int)) (Q0 := sQi (nI K) (sM (dC, dI) cI cY h nC C (s_sq nC C nS S (nT, T) K).1 (s_sq nC C nS S (nT, T) K).2 nS S (fl + nI K))) (aH h) (aH_ok h) RX2 (by decide) rfl rfl (Nat.le_of_ble_eq_true rfl) ?_
  intro p e s m below meth c ⟨hx, hb, hr, hml, hown, hts, hlocks, hini⟩ hM0 hK A hAe hA hS ls hl
  have hAh : A h := by rw [hAe]; exact Or.inl rfl
  have F : CallFix p m c cX2_settle 4 s ([.ref h] : List Value).toArray wsX2_settle RX2 := ⟨hx, hb, hml, hown, hts⟩
  have hl : lv_has ls 4 [(0, .ref h)] := hl
  obtain ⟨qc, qt, qs, hO, hC, hTt, hSt, hn1, hn2⟩ := hM0
  refine lv_iconst (v := 0) hx hb dX2_settle_0 (by decide) ?_
  refine lv_istore_n (lv' := [(1, .int 0), (0, .ref h)]) hx hb dX2_settle_1 rfl hl (by decide) rfl (fun ls hl => ?_)
  refine lv_iconst (v := 0) hx hb dX2_settle_2 (by decide) ?_
  refine lv_istore_n (lv' := [(2, .int 0), (1, .int 0), (0, .ref h)]) hx hb dX2_settle_3 rfl hl (by decide) rfl (fun ls hl => ?_)
  have hL4_1 : ∀ (k2 : Nat) (k : Nat) (i : Nat) (qc1 : Nat) (qt1 : Nat) (qs1 : Nat), ((K - k) * 1001 + (nC - i)) < k2 → (k ≤ K) → (i ≤ nC) → (∀ a, a < i → s_pFUa nC C (s_sq nC C nS S (nT, T) k).1 (s_sq nC C nS S (nT, T) k).2 nS S a = false) → ∀ (H5 : Heap) (locs6 : List Loc), hz h s.heap H5 → va_S A s.heap H5 locs6 → sX (dC, dI) cI cY H5 h qc1 qt1 qs1 nC C (s_sq nC C nS S (nT, T) k).1 (s_sq nC C nS S (nT, T) k).2 nS S (fl + nI k) → ∀ ls : Array Slot, lv_has ls 4 [(2, .int (nI i)), (1, .int (nI k)), (0, .ref h)] → W p l e ({ frames := 6, cells := (K + 1) * W1, slots := (K + 1) * V1, locals := 136 } : Room) s m ([.ref h] : List Value).toArray below meth c H5 locs6 (k * W1 + s_dO nC (s_sq nC C nS S (nT, T) k).1 (s_sq nC C nS S (nT, T) k).2 i) (k * V1 + 2 * s_dO nC (s_sq nC C nS S (nT, T) k).1 (s_sq nC C nS S (nT, T) k).2 i) (MQ below (sQi (nI K) (sM (dC, dI) cI cY h nC C (s_sq nC C nS S (nT, T) K).1 (s_sq nC C nS S (nT, T) K).2 nS S (fl + nI K)) A) ([.ref h] : List Value).toArray s ((K + 1) * W1) ((K + 1) * V1) A) (F0 m 4 ls []) := by
    intro k2
    induction k2 with
    | zero => intro k i qc1 qt1 qs1 hk; exact absurd hk (Nat.not_lt_zero _)
    | succ k2 ih3 =>
      intro k i qc1 qt1 qs1 hk_4 hk hi_i hbi H5 locs6 hB4 hS hX9  ls hl
      obtain ⟨hO, hC, hTt, hSt, hn1, hn2⟩ := hX9
      obtain ⟨hn9, hF9⟩ := hok k hk
      have hm1 : (k + 1) * W1 = k * W1 + W1 := Nat.succ_mul k W1
      have hm2 : (k + 1) * V1 = k * V1 + V1 := Nat.succ_mul k V1
      have hw1 := hW k hk
      have hv1 := hV k hk
      have hw2 := s_wk (W := W1) hk
      have hv2 := s_wk (W := V1) hk
      have hcm := s_dO_le0 (nC := nC) (nT := (s_sq nC C nS S (nT, T) k).1) (T := (s_sq nC C nS S (nT, T) k).2) hi_i
      refine lv_iload_n hx hb dX2_settle_4 rfl (lv_at hl 0 rfl) ?_
      refine lv_aload_n hx hb dX2_settle_5 rfl (lv_at hl 2 rfl) ?_
      refine va_get (D := (dC, dI)) (ci := 2) (v := .ref qc1) (C := RX2) (T := TX2) (N := 4) hx hb hts in_X2_settle_X2 hown hK.1 (va_P.one hO) 0 rfl rfl 0 (by decide) (hts (.fieldLink RX2 9 "MoorTrianglesLaw$Sim" "cairns" "[[I") fl_X2_settle_9) (fun _ h9 => h9) rfl dX2_settle_6 ?_
      refine sx_alenT hx hb hK.1 hC dX2_settle_9 ?_
      refine lv_icmp_ge (tgt := 74) hx hb dX2_settle_10 (by decide) (fun c_7 => ?_) (fun c_7 => ?_)
      · have hge_i : nC ≤ i := nI_le_le (by omega) (by omega) c_7
        have heq_i : i = nC := by omega
        have hl : lv_has ls 4 [(2, .int (nI nC)), (1, .int (nI k)), (0, .ref h)] := by rw [heq_i] at hl; exact hl
        rw [heq_i] at hbi
        have hno := s_fu_none hbi
        have hkK : k = K := by rcases Nat.lt_or_ge k K with z | z; have := hKs k z; rw [hno] at this; cases this; omega
        refine lv_iload_n hx hb dX2_settle_74 rfl (lv_at hl 1 rfl) ?_
        exact sa_iret (Pf := sM (dC, dI) cI cY h nC C (s_sq nC C nS S (nT, T) K).1 (s_sq nC C nS S (nT, T) K).2 nS S (fl + nI K)) hx hb hr hlocks (by rw [hkK]) (by rw [← hkK]; exact ⟨qc1, qt1, qs1, hO, hC, hTt, hSt, hn1, hn2⟩) hS (by first | exact Nat.le_of_ble_eq_true rfl | omega | (dsimp only; omega)) (by first | exact Nat.le_of_ble_eq_true rfl | omega | (dsimp only; omega)) dX2_settle_75
      · have hlt_i : i < nC := nI_nle_lt (by omega) (by omega) c_7
        refine lv_iload_n hx hb dX2_settle_13 rfl (lv_at hl 0 rfl) ?_
        refine lv_iconst (v := 1) hx hb dX2_settle_14 (by decide) ?_
        refine lv_iadd hx hb dX2_settle_15 ?_
        refine lv_istore_n (lv' := [(3, .int ((nI i) + 1)), (2, .int (nI i)), (1, .int (nI k)), (0, .ref h)]) hx hb dX2_settle_16 rfl hl (by decide) rfl (fun ls hl => ?_)
        have hL17_8 : ∀ (k9 : Nat) (j : Nat), (nC - j) < k9 → (j ≤ nC) → (i < j) → (∀ b, b < j → s_pFU C (s_sq nC C nS S (nT, T) k).1 (s_sq nC C nS S (nT, T) k).2 nS S i b = false) → ∀ (H12 : Heap) (locs13 : List Loc), hy 0 H5 H12 → va_S A s.heap H12 locs13 → ∀ ls : Array Slot, lv_has ls 4 [(3, .int (nI j)), (2, .int (nI i)), (1, .int (nI k)), (0, .ref h)] → W p l e ({ frames := 6, cells := (K + 1) * W1, slots := (K + 1) * V1, locals := 136 } : Room) s m ([.ref h] : List Value).toArray below meth c H12 locs13 (k * W1 + (s_dO nC (s_sq nC C nS S (nT, T) k).1 (s_sq nC C nS S (nT, T) k).2 i + s_dI (s_sq nC C nS S (nT, T) k).1 (s_sq nC C nS S (nT, T) k).2 i j)) (k * V1 + 2 * (s_dO nC (s_sq nC C nS S (nT, T) k).1 (s_sq nC C nS S (nT, T) k).2 i + s_dI (s_sq nC C nS S (nT, T) k).1 (s_sq nC C nS S (nT, T) k).2 i j)) (MQ below (sQi (nI K) (sM (dC, dI) cI cY h nC C (s_sq nC C nS S (nT, T) K).1 (s_sq nC C nS S (nT, T) K).2 nS S (fl + nI K)) A) ([.ref h] : List Value).toArray s ((K + 1) * W1) ((K + 1) * V1) A) (F0 m 17 ls []) := by
          intro k9
          induction k9 with
          | zero => intro j hk; exact absurd hk (Nat.not_lt_zero _)
          | succ k9 ih10 =>
            intro j hk_17 hi_j hij hbj H12 locs13 hB11 hS  ls hl
            have hB4 := hB4.tr (hB11.z h)
            have hC := hC.ext0 hB11
            have hTt := hTt.ext0 hB11
            have hSt := hSt.ext0 hB11
            have hO := hO.ext0 hB11
            refine lv_iload_n hx hb dX2_settle_17 rfl (lv_at hl 0 rfl) ?_
            refine lv_aload_n hx hb dX2_settle_18 rfl (lv_at hl 3 rfl) ?_
            refine va_get (D := (dC, dI)) (ci := 2) (v := .ref qc1) (C := RX2) (T := TX2) (N := 4) hx hb hts in_X2_settle_X2 hown hK.1 (va_P.one hO) 0 rfl rfl 0 (by decide) (hts (.fieldLink RX2 9 "MoorTrianglesLaw$Sim" "cairns" "[[I") fl_X2_settle_9) (fun _ h9 => h9) rfl dX2_settle_19 ?_
            refine sx_alenT hx hb hK.1 hC dX2_settle_22 ?_
            refine lv_icmp_ge (tgt := 68) hx hb dX2_settle_23 (by decide) (fun c_14 => ?_) (fun c_14 => ?_)
            · have hge_j : nC ≤ j := nI_le_le (by omega) (by omega) c_14
              have heq_j : j = nC := by omega
              have hl : lv_has ls 4 [(3, .int (nI nC)), (2, .int (nI i)), (1, .int (nI k)), (0, .ref h)] := by rw [heq_j] at hl; exact hl
              rw [heq_j] at hbj
              refine lv_iinc (v := nI (i + 1)) (lv' := [(2, .int (nI (i + 1))), (3, .int (nI nC)), (1, .int (nI k)), (0, .ref h)]) hx hb dX2_settle_68 hl (k := 1) rfl (nI_1 _) (by decide) rfl (fun ls hl => ?_)
              refine lv_goto (tgt := 4) hx hb dX2_settle_71 (by decide) ?_
              have hl := lv_sub (l' := [(2, .int (nI (i + 1))), (1, .int (nI k)), (0, .ref h)]) hl [0, 2, 3] rfl
              have hl : lv_has ls 4 [(2, .int (nI (i + 1))), (1, .int (nI k)), (0, .ref h)] := by
                have e9 : [(2, .int (nI (i + 1))), (1, .int (nI k)), (0, .ref h)] = ([(2, .int (nI (i + 1))), (1, .int (nI k)), (0, .ref h)] : List (Nat × Value)) := by rfl
                rw [← e9]; exact hl
              refine W.widen (show (k * W1 + (s_dO nC (s_sq nC C nS S (nT, T) k).1 (s_sq nC C nS S (nT, T) k).2 i + s_dI (s_sq nC C nS S (nT, T) k).1 (s_sq nC C nS S (nT, T) k).2 i j)) ≤ k * W1 + s_dO nC (s_sq nC C nS S (nT, T) k).1 (s_sq nC C nS S (nT, T) k).2 (i + 1) from (by rw [s_dO_s, heq_j]; omega)) (show (k * V1 + 2 * (s_dO nC (s_sq nC C nS S (nT, T) k).1 (s_sq nC C nS S (nT, T) k).2 i + s_dI (s_sq nC C nS S (nT, T) k).1 (s_sq nC C nS S (nT, T) k).2 i j)) ≤ k * V1 + 2 * s_dO nC (s_sq nC C nS S (nT, T) k).1 (s_sq nC C nS S (nT, T) k).2 (i + 1) from (by rw [s_dO_s, heq_j]; omega)) ?_
              exact ih3 k (i + 1) qc1 qt1 qs1 (by omega) hk (by omega) (rg_bef hbi (s_pFUa_f hbj)) _ _ hB4 hS ⟨hO, hC, hTt, hSt, hn1, hn2⟩  _ hl
            · have hlt_j : j < nC := nI_nle_lt (by omega) (by omega) c_14
              have hcm := s_dO_lt (nT := (s_sq nC C nS S (nT, T) k).1) (T := (s_sq nC C nS S (nT, T) k).2) hlt_i hlt_j hij
              refine lv_aload_n hx hb dX2_settle_26 rfl (lv_at hl 3 rfl) ?_
              refine lv_iload_n hx hb dX2_settle_27 rfl (lv_at hl 1 rfl) ?_
              refine lv_iload_n hx hb dX2_settle_28 rfl (lv_at hl 0 rfl) ?_
              refine sr_cVi (As := [.int (nI i), .int (nI j)]) (rest := []) F (c_X2_isStaying l dC dI cI cZ cY h nC C ((s_sq nC C nS S (nT, T) k).1) ((s_sq nC C nS S (nT, T) k).2) nS S (fl + nI k) (nI i) (nI j) hnS) (cwV 2 hts gX2_settle_X2_isStaying rfl rfl rfl hd_X2_isStaying ⟨Nat.le_of_ble_eq_true rfl, Nat.le_of_ble_eq_true rfl⟩) ⟨qc1, qt1, qs1, hO, hC, hTt, hSt, hn1, hn2⟩ hK (sM.recv hK.1 ⟨qc1, qt1, qs1, hO, hC, hTt, hSt, hn1, hn2⟩) rfl hl.1 rfl (lv_room (Nat.le_of_ble_eq_true rfl)) dX2_settle_29 ⟨(by first | exact Nat.le_of_ble_eq_true rfl | omega | (dsimp only; omega)), (by first | exact Nat.le_of_ble_eq_true rfl | omega | (dsimp only; omega))⟩ ?_
              refine lv_if_neB (tgt := 62) hx hb dX2_settle_32 (by decide) (fun c_15 => ?_) (fun c_15 => ?_)
              · refine lv_iinc (v := nI (j + 1)) (lv' := [(3, .int (nI (j + 1))), (2, .int (nI i)), (1, .int (nI k)), (0, .ref h)]) hx hb dX2_settle_62 hl (k := 0) rfl (nI_1 _) (by decide) rfl (fun ls hl => ?_)
                refine lv_goto (tgt := 17) hx hb dX2_settle_65 (by decide) ?_
                have hl := lv_sub (l' := [(3, .int (nI (j + 1))), (2, .int (nI i)), (1, .int (nI k)), (0, .ref h)]) hl [0, 1, 2, 3] rfl
                have hl : lv_has ls 4 [(3, .int (nI (j + 1))), (2, .int (nI i)), (1, .int (nI k)), (0, .ref h)] := by
                  have e9 : [(3, .int (nI (j + 1))), (2, .int (nI i)), (1, .int (nI k)), (0, .ref h)] = ([(3, .int (nI (j + 1))), (2, .int (nI i)), (1, .int (nI k)), (0, .ref h)] : List (Nat × Value)) := by rfl
                  rw [← e9]; exact hl
                refine W.widen (show (k * W1 + (s_dO nC (s_sq nC C nS S (nT, T) k).1 (s_sq nC C nS S (nT, T) k).2 i + s_dI (s_sq nC C nS S (nT, T) k).1 (s_sq nC C nS S (nT, T) k).2 i j)) ≤ k * W1 + (s_dO nC (s_sq nC C nS S (nT, T) k).1 (s_sq nC C nS S (nT, T) k).2 i + s_dI (s_sq nC C nS S (nT, T) k).1 (s_sq nC C nS S (nT, T) k).2 i (j + 1)) from (by rw [s_dI_s hij]; omega)) (show (k * V1 + 2 * (s_dO nC (s_sq nC C nS S (nT, T) k).1 (s_sq nC C nS S (nT, T) k).2 i + s_dI (s_sq nC C nS S (nT, T) k).1 (s_sq nC C nS S (nT, T) k).2 i j)) ≤ k * V1 + 2 * (s_dO nC (s_sq nC C nS S (nT, T) k).1 (s_sq nC C nS S (nT, T) k).2 i + s_dI (s_sq nC C nS S (nT, T) k).1 (s_sq nC C nS S (nT, T) k).2 i (j + 1)) from (by rw [s_dI_s hij]; omega)) ?_
                exact ih10 (j + 1) (by omega) (by omega) (by omega) (rg_bef hbj (show s_pFU C (s_sq nC C nS S (nT, T) k).1 (s_sq nC C nS S (nT, T) k).2 nS S i j = false from by rw [s_pFU_hi hij, if_pos c_15])) _ _ hB11 hS  _ hl
              · refine lv_aload_n hx hb dX2_settle_35 rfl (lv_at hl 3 rfl) ?_
                refine lv_iload_n hx hb dX2_settle_36 rfl (lv_at hl 1 rfl) ?_
                refine lv_iload_n hx hb dX2_settle_37 rfl (lv_at hl 0 rfl) ?_
                refine sc_cVNi (As := [.int (nI i), .int (nI j)]) (rest := []) F (c_X2_isUnfair l dC dI cI cZ cY h nC C ((s_sq nC C nS S (nT, T) k).1) ((s_sq nC C nS S (nT, T) k).2) nS S (fl + nI k) (nI i) (nI j) (by omega) hF9 (vp_in_nI hlt_i (by omega)) (vp_in_nI hlt_j (by omega)) H12.size) (cwV 2 hts gX2_settle_X2_isUnfair rfl rfl rfl hd_X2_isUnfair ⟨Nat.le_of_ble_eq_true rfl, Nat.le_of_ble_eq_true rfl⟩) ⟨qc1, qt1, qs1, hO, hC, hTt, hSt, hn1, hn2⟩ hK hS hA (sM.recv hK.1 ⟨qc1, qt1, qs1, hO, hC, hTt, hSt, hn1, hn2⟩) rfl hl.1 rfl (lv_room (Nat.le_of_ble_eq_true rfl)) dX2_settle_38 ⟨(by first | exact Nat.le_of_ble_eq_true rfl | omega | (dsimp only; omega)), (by first | exact Nat.le_of_ble_eq_true rfl | omega | (dsimp only; omega))⟩ (fun H16 locs17 hf18 hE hS => ?_)
                have hC := hC.ext0 hE
                have hTt := hTt.ext0 hE
                have hSt := hSt.ext0 hE
                have hB11 := hB11.tr hE
                have hB4 := hB4.tr (hE.z h)
                have hO := hO.ext0 hE
                refine lv_if_neB (tgt := 47) hx hb dX2_settle_41 (by decide) (fun c_20 => ?_) (fun c_20 => ?_)
                · refine lv_aload_n hx hb dX2_settle_47 rfl (lv_at hl 3 rfl) ?_
                  refine lv_iload_n hx hb dX2_settle_48 rfl (lv_at hl 1 rfl) ?_
                  refine lv_iload_n hx hb dX2_settle_49 rfl (lv_at hl 0 rfl) ?_
                  have hfu := s_fu_some hlt_i hlt_j hbi hbj (show s_pFU C (s_sq nC C nS S (nT, T) k).1 (s_sq nC C nS S (nT, T) k).2 nS S i j = true from by rw [s_pFU_hi hij, if_neg (by rw [c_15]; decide), c_20])
                  have hkK : k < K := by rcases Nat.lt_or_ge k K with z | z; exact z; have z2 : k = K := (by omega); subst z2; rw [hKn] at hfu; cases hfu
                  have hct := s_ct_le (nT := (s_sq nC C nS S (nT, T) k).1) (T := (s_sq nC C nS S (nT, T) k).2) (a := nI i) (b := nI j)
                  refine sc_cVHi (hh := h) (As := [.int (nI i), .int (nI j)]) (rest := []) F (c_X2_flip l dC dI cI cZ cY h nC C ((s_sq nC C nS S (nT, T) k).1) ((s_sq nC C nS S (nT, T) k).2) nS S (fl + nI k) (nI i) (nI j) hn9 (s_unf_2 c_20) H16.size) (cwV 2 hts gX2_settle_X2_flip rfl rfl rfl hd_X2_flip ⟨Nat.le_of_ble_eq_true rfl, Nat.le_of_ble_eq_true rfl⟩) ⟨qc1, qt1, qs1, hO, hC, hTt, hSt, hn1, hn2⟩ hK hS hA hAh (sM.recv hK.1 ⟨qc1, qt1, qs1, hO, hC, hTt, hSt, hn1, hn2⟩) rfl hl.1 rfl (lv_room (Nat.le_of_ble_eq_true rfl)) dX2_settle_50 ⟨(by first | exact Nat.le_of_ble_eq_true rfl | omega | (dsimp only; omega)), (by first | exact Nat.le_of_ble_eq_true rfl | omega | (dsimp only; omega))⟩ (fun H21 locs22 hf23 hZ hS => ?_)
                  have hB4 := hB4.tr hZ
                  obtain ⟨qc25, qt25, qs25, hO, hC, hTt, hSt, hn1, hn2⟩ := hf23
                  refine lv_pop hx hb dX2_settle_53 rfl ?_
                  refine lv_iinc (v := nI (k + 1)) (lv' := [(1, .int (nI (k + 1))), (3, .int (nI j)), (2, .int (nI i)), (0, .ref h)]) hx hb dX2_settle_54 hl (k := 2) rfl (nI_1 _) (by decide) rfl (fun ls hl => ?_)
                  refine lv_iconst (v := (-1)) hx hb dX2_settle_57 (by decide) ?_
                  refine lv_istore_n (lv' := [(2, .int (-1)), (1, .int (nI (k + 1))), (3, .int (nI j)), (0, .ref h)]) hx hb dX2_settle_58 rfl hl (by decide) rfl (fun ls hl => ?_)
                  refine lv_goto (tgt := 68) hx hb dX2_settle_59 (by decide) ?_
                  refine lv_iinc (v := ((-1) + 1)) (lv' := [(2, .int ((-1) + 1)), (1, .int (nI (k + 1))), (3, .int (nI j)), (0, .ref h)]) hx hb dX2_settle_68 hl (k := 0) rfl (by rfl) (by decide) rfl (fun ls hl => ?_)
                  refine lv_goto (tgt := 4) hx hb dX2_settle_71 (by decide) ?_
                  have hl := lv_sub (l' := [(2, .int ((-1) + 1)), (1, .int (nI (k + 1))), (0, .ref h)]) hl [0, 1, 3] rfl
                  have hl : lv_has ls 4 [(2, .int (nI 0)), (1, .int (nI (k + 1))), (0, .ref h)] := by
                    have e9 : [(2, .int ((-1) + 1)), (1, .int (nI (k + 1))), (0, .ref h)] = ([(2, .int (nI 0)), (1, .int (nI (k + 1))), (0, .ref h)] : List (Nat × Value)) := by rfl
                    rw [← e9]; exact hl
                  refine W.widen (show (((k * W1 + (s_dO nC (s_sq nC C nS S (nT, T) k).1 (s_sq nC C nS S (nT, T) k).2 i + s_dI (s_sq nC C nS S (nT, T) k).1 (s_sq nC C nS S (nT, T) k).2 i j)) + (1 + 2 * s_ct ((s_sq nC C nS S (nT, T) k).2) (nI i) (nI j) ((s_sq nC C nS S (nT, T) k).1))) + (s_ct ((s_sq nC C nS S (nT, T) k).2) (nI i) (nI j) ((s_sq nC C nS S (nT, T) k).1) + 9)) ≤ (k + 1) * W1 + s_dO nC (s_sq nC C nS S (nT, T) (k + 1)).1 (s_sq nC C nS S (nT, T) (k + 1)).2 0 from (by omega)) (show (((k * V1 + 2 * (s_dO nC (s_sq nC C nS S (nT, T) k).1 (s_sq nC C nS S (nT, T) k).2 i + s_dI (s_sq nC C nS S (nT, T) k).1 (s_sq nC C nS S (nT, T) k).2 i j)) + (4 * s_ct ((s_sq nC C nS S (nT, T) k).2) (nI i) (nI j) ((s_sq nC C nS S (nT, T) k).1))) + (2 * s_ct ((s_sq nC C nS S (nT, T) k).2) (nI i) (nI j) ((s_sq nC C nS S (nT, T) k).1) + 4 * ((s_sq nC C nS S (nT, T) k).1) + 20)) ≤ (k + 1) * V1 + 2 * s_dO nC (s_sq nC C nS S (nT, T) (k + 1)).1 (s_sq nC C nS S (nT, T) (k + 1)).2 0 from (by omega)) ?_
                  exact ih3 (k + 1) 0 qc25 qt25 qs25 (by omega) (by omega) (Nat.zero_le _) (fun j hj => absurd hj (Nat.not_lt_zero _)) _ _ hB4 hS (by rw [s_sq_s hfu, ← nI_1, ← Int32.add_assoc]; exact ⟨hO, hC, hTt, hSt, hn1, hn2⟩)  _ hl
                · refine lv_goto (tgt := 62) hx hb dX2_settle_44 (by decide) ?_
                  refine lv_iinc (v := nI (j + 1)) (lv' := [(3, .int (nI (j + 1))), (2, .int (nI i)), (1, .int (nI k)), (0, .ref h)]) hx hb dX2_settle_62 hl (k := 0) rfl (nI_1 _) (by decide) rfl (fun ls hl => ?_)
                  refine lv_goto (tgt := 17) hx hb dX2_settle_65 (by decide) ?_
                  have hl := lv_sub (l' := [(3, .int (nI (j + 1))), (2, .int (nI i)), (1, .int (nI k)), (0, .ref h)]) hl [0, 1, 2, 3] rfl
                  have hl : lv_has ls 4 [(3, .int (nI (j + 1))), (2, .int (nI i)), (1, .int (nI k)), (0, .ref h)] := by
                    have e9 : [(3, .int (nI (j + 1))), (2, .int (nI i)), (1, .int (nI k)), (0, .ref h)] = ([(3, .int (nI (j + 1))), (2, .int (nI i)), (1, .int (nI k)), (0, .ref h)] : List (Nat × Value)) := by rfl
                    rw [← e9]; exact hl
                  refine W.widen (show ((k * W1 + (s_dO nC (s_sq nC C nS S (nT, T) k).1 (s_sq nC C nS S (nT, T) k).2 i + s_dI (s_sq nC C nS S (nT, T) k).1 (s_sq nC C nS S (nT, T) k).2 i j)) + (1 + 2 * s_ct ((s_sq nC C nS S (nT, T) k).2) (nI i) (nI j) ((s_sq nC C nS S (nT, T) k).1))) ≤ k * W1 + (s_dO nC (s_sq nC C nS S (nT, T) k).1 (s_sq nC C nS S (nT, T) k).2 i + s_dI (s_sq nC C nS S (nT, T) k).1 (s_sq nC C nS S (nT, T) k).2 i (j + 1)) from (by rw [s_dI_s hij]; omega)) (show ((k * V1 + 2 * (s_dO nC (s_sq nC C nS S (nT, T) k).1 (s_sq nC C nS S (nT, T) k).2 i + s_dI (s_sq nC C nS S (nT, T) k).1 (s_sq nC C nS S (nT, T) k).2 i j)) + (4 * s_ct ((s_sq nC C nS S (nT, T) k).2) (nI i) (nI j) ((s_sq nC C nS S (nT, T) k).1))) ≤ k * V1 + 2 * (s_dO nC (s_sq nC C nS S (nT, T) k).1 (s_sq nC C nS S (nT, T) k).2 i + s_dI (s_sq nC C nS S (nT, T) k).1 (s_sq nC C nS S (nT, T) k).2 i (j + 1)) from (by rw [s_dI_s hij]; omega)) ?_
                  exact ih10 (j + 1) (by omega) (by omega) (by omega) (rg_bef hbj (show s_pFU C (s_sq nC C nS S (nT, T) k).1 (s_sq nC C nS S (nT, T) k).2 nS S i j = false from by rw [s_pFU_hi hij, if_neg (by rw [c_15]; decide), c_20])) _ _ hB11 hS  _ hl
        have hl := lv_sub (l' := [(3, .int ((nI i) + 1)), (2, .int (nI i)), (1, .int (nI k)), (0, .ref h)]) hl [0, 1, 2, 3] rfl
        have hl : lv_has ls 4 [(3, .int (nI (i + 1))), (2, .int (nI i)), (1, .int (nI k)), (0, .ref h)] := by
          have e9 : [(3, .int ((nI i) + 1)), (2, .int (nI i)), (1, .int (nI k)), (0, .ref h)] = ([(3, .int (nI (i + 1))), (2, .int (nI i)), (1, .int (nI k)), (0, .ref h)] : List (Nat × Value)) := by rw [nI_1]
          rw [← e9]; exact hl
        refine W.widen (show (k * W1 + s_dO nC (s_sq nC C nS S (nT, T) k).1 (s_sq nC C nS S (nT, T) k).2 i) ≤ k * W1 + (s_dO nC (s_sq nC C nS S (nT, T) k).1 (s_sq nC C nS S (nT, T) k).2 i + s_dI (s_sq nC C nS S (nT, T) k).1 (s_sq nC C nS S (nT, T) k).2 i (i + 1)) from (by rw [s_dI_0 (Nat.le_refl _)]; omega)) (show (k * V1 + 2 * s_dO nC (s_sq nC C nS S (nT, T) k).1 (s_sq nC C nS S (nT, T) k).2 i) ≤ k * V1 + 2 * (s_dO nC (s_sq nC C nS S (nT, T) k).1 (s_sq nC C nS S (nT, T) k).2 i + s_dI (s_sq nC C nS S (nT, T) k).1 (s_sq nC C nS S (nT, T) k).2 i (i + 1)) from (by rw [s_dI_0 (Nat.le_refl _)]; omega)) ?_
        exact hL17_8 _ (i + 1) (Nat.lt_succ_self _) (by omega) (Nat.lt_succ_self _) (fun b hb => s_pFU_lo hb) _ _ hy.rf hS  _ hl
  have hl := lv_sub (l' := [(2, .int 0), (1, .int 0), (0, .ref h)]) hl [0, 1, 2] rfl
  have hl : lv_has ls 4 [(2, .int (nI 0)), (1, .int (nI 0)), (0, .ref h)] := by
    have e9 : [(2, .int 0), (1, .int 0), (0, .ref h)] = ([(2, .int (nI 0)), (1, .int (nI 0)), (0, .ref h)] : List (Nat × Value)) := by rfl
    rw [← e9]; exact hl
  refine W.widen (show 0 ≤ 0 * W1 + s_dO nC (s_sq nC C nS S (nT, T) 0).1 (s_sq nC C nS S (nT, T) 0).2 0 from (Nat.zero_le _)) (show 0 ≤ 0 * V1 + 2 * s_dO nC (s_sq nC C nS S (nT, T) 0).1 (s_sq nC C nS S (nT, T) 0).2 0 from (Nat.zero_le _)) ?_
  exact hL4_1 _ 0 0 qc qt qs (Nat.lt_succ_self _) (Nat.zero_le _) (Nat.zero_le _) (fun j hj => absurd hj (Nat.not_lt_zero _)) _ _ hz.rf hS (by rw [show fl + nI 0 = fl from Int32.add_zero fl]; exact ⟨hO, hC, hTt, hSt, hn1, hn2⟩)  _ hl
