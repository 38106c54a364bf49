/-! the law's own moor: methods that only read, by program (gens.py) -/
theorem hd_X2_three : yX2_three.cls = RX2 ∧ yX2_three.cls ≠ "java/lang/invoke/MethodHandle" ∧ yX2_three.cls ≠ "java/lang/invoke/VarHandle" ∧ (parseMethodDescriptor yX2_three.desc).map (fun d => d.parameters.length) = some 3 := by decide +kernel
theorem na_X2_three : (Cond.arrayClass .int) ∈ wsX2_three := by decide +kernel
set_option maxHeartbeats 4000000 in
set_option maxRecDepth 100000 in
theorem c_X2_threeK (l : Launch) (dC : Nat → ClassId) (dI : Nat → Nat → Nat) (cI cZ cY : ClassId) (B : Nat) : ∀ (k : Nat) (a b c : Int32) (sz : Nat), s_okT k a b c → Met l yX2_three wsX2_three ({ frames := k, cells := 1, slots := 3, locals := 22 * k }) (va_Pc [.int a, .int b, .int c] (sPz (dC, dI) cI cZ cY (fun H => B ≤ H.size) sz)) (sQr (fun H q => hI cI B H q 3 (s_th k a b c)) (aN sz)) 1 3 (aN sz) := by
  intro k
  induction k with
  | zero =>
    intro a b c sz hok
    refine sa_start (cc := cX2_three) (maxL := 3) (ret := (some (.array .int))) (Q0 := sQr (fun H q => hI cI B H q 3 (s_th 0 a b c))) aN aN_ok RX2 (by decide) rfl rfl (Nat.le_of_ble_eq_true rfl) ?_
    intro p e s m below meth c9 ⟨hx, hb, hr, hml, hown, hts, hlocks, hini⟩ hM0 hK A hAe hA hS ls hl
    have F : CallFix p m c9 cX2_three 3 s ([.int a, .int b, .int c] : List Value).toArray wsX2_three RX2 := ⟨hx, hb, hml, hown, hts⟩
    have hl : lv_has ls 3 [(0, .int a), (1, .int b), (2, .int c)] := hl
    refine lv_iload_n hx hb dX2_three_0 rfl (lv_at hl 0 rfl) ?_
    refine lv_iload_n hx hb dX2_three_1 rfl (lv_at hl 1 rfl) ?_
    refine lv_icmp_le (tgt := 14) hx hb dX2_three_2 (by decide) (fun c_1 => ?_) (fun c_1 => ?_)
    · refine lv_iload_n hx hb dX2_three_14 rfl (lv_at hl 1 rfl) ?_
      refine lv_iload_n hx hb dX2_three_15 rfl (lv_at hl 2 rfl) ?_
      refine lv_icmp_le (tgt := 28) hx hb dX2_three_16 (by decide) (fun c_2 => ?_) (fun c_2 => ?_)
      · refine lv_iconst (v := 3) hx hb dX2_three_28 (by decide) ?_
        have hz06 := hS.1
        refine sx_newi (N := 3) hx hb (hts _ na_X2_three) hK.1 hS (Nat.le_trans hM0 hS.1) ix_3 (Nat.le_of_ble_eq_true rfl) (by first | exact Nat.le_of_ble_eq_true rfl | omega | (dsimp only; omega)) (by first | exact Nat.le_of_ble_eq_true rfl | omega | (dsimp only; omega)) dX2_three_29 (fun q3 H4 hq5 hE hN hS => ?_)
        refine lv_dup hx hb dX2_three_31 rfl ?_
        refine lv_iconst (v := 0) hx hb dX2_three_32 (by decide) ?_
        refine lv_iload_n hx hb dX2_three_33 rfl (lv_at hl 0 rfl) ?_
        refine sx_iast hx hb hK.1 hS hN (hA q3 (by rw [hq5]; exact hz06)) ix_0 (by decide) dX2_three_34 (fun H7 locs8 hN hz_ ho_ hS => ?_)
        have hE := hE.wr (Nat.le_of_eq hq5.symm) hz_ ho_
        refine lv_dup hx hb dX2_three_35 rfl ?_
        refine lv_iconst (v := 1) hx hb dX2_three_36 (by decide) ?_
        refine lv_iload_n hx hb dX2_three_37 rfl (lv_at hl 1 rfl) ?_
        refine sx_iast hx hb hK.1 hS hN (hA q3 (by rw [hq5]; exact hz06)) ix_1 (by decide) dX2_three_38 (fun H9 locs10 hN hz_ ho_ hS => ?_)
        have hE := hE.wr (Nat.le_of_eq hq5.symm) hz_ ho_
        refine lv_dup hx hb dX2_three_39 rfl ?_
        refine lv_iconst (v := 2) hx hb dX2_three_40 (by decide) ?_
        refine lv_iload_n hx hb dX2_three_41 rfl (lv_at hl 2 rfl) ?_
        refine sx_iast hx hb hK.1 hS hN (hA q3 (by rw [hq5]; exact hz06)) ix_2 (by decide) dX2_three_42 (fun H11 locs12 hN hz_ ho_ hS => ?_)
        have hE := hE.wr (Nat.le_of_eq hq5.symm) hz_ ho_
        have hr13 : hI cI _ H11 q3 3 (s3 a b c) := hN.cg s3_upd
        exact sa_aret (Pf := fun H q => hI cI B H q 3 (s_th 0 a b c)) hx hb hr hlocks (show hI cI B _ _ 3 (s_th 0 a b c) from hr13) hS (Nat.le_of_ble_eq_true rfl) (Nat.le_of_ble_eq_true rfl) dX2_three_43
      · exact absurd hok.2 c_2
    · exact absurd hok.1 c_1
  | succ k ih =>
    intro a b c sz hok
    refine sa_start (cc := cX2_three) (maxL := 3) (ret := (some (.array .int))) (Q0 := sQr (fun H q => hI cI B H q 3 (s_th (k + 1) a b c))) aN aN_ok RX2 (by decide) rfl rfl (Nat.le_of_ble_eq_true rfl) ?_
    intro p e s m below meth c9 ⟨hx, hb, hr, hml, hown, hts, hlocks, hini⟩ hM0 hK A hAe hA hS ls hl
    have F : CallFix p m c9 cX2_three 3 s ([.int a, .int b, .int c] : List Value).toArray wsX2_three RX2 := ⟨hx, hb, hml, hown, hts⟩
    have hl : lv_has ls 3 [(0, .int a), (1, .int b), (2, .int c)] := hl
    refine lv_iload_n hx hb dX2_three_0 rfl (lv_at hl 0 rfl) ?_
    refine lv_iload_n hx hb dX2_three_1 rfl (lv_at hl 1 rfl) ?_
    refine lv_icmp_le (tgt := 14) hx hb dX2_three_2 (by decide) (fun c_1 => ?_) (fun c_1 => ?_)
    · rw [s_okT, if_pos c_1] at hok
      refine lv_iload_n hx hb dX2_three_14 rfl (lv_at hl 1 rfl) ?_
      refine lv_iload_n hx hb dX2_three_15 rfl (lv_at hl 2 rfl) ?_
      refine lv_icmp_le (tgt := 28) hx hb dX2_three_16 (by decide) (fun c_2 => ?_) (fun c_2 => ?_)
      · refine lv_iconst (v := 3) hx hb dX2_three_28 (by decide) ?_
        have hz06 := hS.1
        refine sx_newi (N := 3) hx hb (hts _ na_X2_three) hK.1 hS (Nat.le_trans hM0 hS.1) ix_3 (Nat.le_of_ble_eq_true rfl) (by first | exact Nat.le_of_ble_eq_true rfl | omega | (dsimp only; omega)) (by first | exact Nat.le_of_ble_eq_true rfl | omega | (dsimp only; omega)) dX2_three_29 (fun q3 H4 hq5 hE hN hS => ?_)
        refine lv_dup hx hb dX2_three_31 rfl ?_
        refine lv_iconst (v := 0) hx hb dX2_three_32 (by decide) ?_
        refine lv_iload_n hx hb dX2_three_33 rfl (lv_at hl 0 rfl) ?_
        refine sx_iast hx hb hK.1 hS hN (hA q3 (by rw [hq5]; exact hz06)) ix_0 (by decide) dX2_three_34 (fun H7 locs8 hN hz_ ho_ hS => ?_)
        have hE := hE.wr (Nat.le_of_eq hq5.symm) hz_ ho_
        refine lv_dup hx hb dX2_three_35 rfl ?_
        refine lv_iconst (v := 1) hx hb dX2_three_36 (by decide) ?_
        refine lv_iload_n hx hb dX2_three_37 rfl (lv_at hl 1 rfl) ?_
        refine sx_iast hx hb hK.1 hS hN (hA q3 (by rw [hq5]; exact hz06)) ix_1 (by decide) dX2_three_38 (fun H9 locs10 hN hz_ ho_ hS => ?_)
        have hE := hE.wr (Nat.le_of_eq hq5.symm) hz_ ho_
        refine lv_dup hx hb dX2_three_39 rfl ?_
        refine lv_iconst (v := 2) hx hb dX2_three_40 (by decide) ?_
        refine lv_iload_n hx hb dX2_three_41 rfl (lv_at hl 2 rfl) ?_
        refine sx_iast hx hb hK.1 hS hN (hA q3 (by rw [hq5]; exact hz06)) ix_2 (by decide) dX2_three_42 (fun H11 locs12 hN hz_ ho_ hS => ?_)
        have hE := hE.wr (Nat.le_of_eq hq5.symm) hz_ ho_
        have hr13 : hI cI _ H11 q3 3 (s3 a b c) := hN.cg s3_upd
        exact sa_aret (Pf := fun H q => hI cI B H q 3 (s_th (k + 1) a b c)) hx hb hr hlocks (show hI cI B _ _ 3 (s_th (k + 1) a b c) from by rw [s_th, if_pos c_1, if_pos c_2]; exact hr13) hS (Nat.le_of_ble_eq_true rfl) (Nat.le_of_ble_eq_true rfl) dX2_three_43
      · rw [if_neg c_2] at hok
        refine lv_iload_n hx hb dX2_three_19 rfl (lv_at hl 0 rfl) ?_
        refine lv_iload_n hx hb dX2_three_20 rfl (lv_at hl 2 rfl) ?_
        refine lv_iload_n hx hb dX2_three_21 rfl (lv_at hl 1 rfl) ?_
        refine sc_cSNr (As := [.int a, .int c, .int b]) (rest := []) F (ih a c b s.heap.size hok) (cwS 3 hts gX2_three_X2_three rfl rfl rfl hd_X2_three ⟨Nat.le_refl _, by show 8 + (3 + 11) + 22 * k ≤ 22 * (k + 1); omega⟩) (Nat.le_trans hM0 hS.1) hK hS hA rfl hl.1 rfl (lv_room (Nat.le_of_ble_eq_true rfl)) dX2_three_22 ⟨(by first | exact Nat.le_of_ble_eq_true rfl | omega | (dsimp only; omega)), (by first | exact Nat.le_of_ble_eq_true rfl | omega | (dsimp only; omega))⟩ (fun q17 H14 locs15 hf16 hE hS => ?_)
        refine lv_goto (tgt := 43) hx hb dX2_three_25 (by decide) ?_
        exact sa_aret (Pf := fun H q => hI cI B H q 3 (s_th (k + 1) a b c)) hx hb hr hlocks (show hI cI B _ _ 3 (s_th (k + 1) a b c) from by rw [s_th, if_pos c_1, if_neg c_2]; exact hf16) hS (Nat.le_of_ble_eq_true rfl) (Nat.le_of_ble_eq_true rfl) dX2_three_43
    · rw [s_okT, if_neg c_1] at hok
      refine lv_iload_n hx hb dX2_three_5 rfl (lv_at hl 1 rfl) ?_
      refine lv_iload_n hx hb dX2_three_6 rfl (lv_at hl 0 rfl) ?_
      refine lv_iload_n hx hb dX2_three_7 rfl (lv_at hl 2 rfl) ?_
      refine sc_cSNr (As := [.int b, .int a, .int c]) (rest := []) F (ih b a c s.heap.size hok) (cwS 3 hts gX2_three_X2_three rfl rfl rfl hd_X2_three ⟨Nat.le_refl _, by show 8 + (3 + 11) + 22 * k ≤ 22 * (k + 1); omega⟩) (Nat.le_trans hM0 hS.1) hK hS hA rfl hl.1 rfl (lv_room (Nat.le_of_ble_eq_true rfl)) dX2_three_8 ⟨(by first | exact Nat.le_of_ble_eq_true rfl | omega | (dsimp only; omega)), (by first | exact Nat.le_of_ble_eq_true rfl | omega | (dsimp only; omega))⟩ (fun q21 H18 locs19 hf20 hE hS => ?_)
      refine lv_goto (tgt := 43) hx hb dX2_three_11 (by decide) ?_
      exact sa_aret (Pf := fun H q => hI cI B H q 3 (s_th (k + 1) a b c)) hx hb hr hlocks (show hI cI B _ _ 3 (s_th (k + 1) a b c) from by rw [s_th, if_neg c_1]; exact hf20) hS (Nat.le_of_ble_eq_true rfl) (Nat.le_of_ble_eq_true rfl) dX2_three_43
theorem c_X2_three (l : Launch) (dC : Nat → ClassId) (dI : Nat → Nat → Nat) (cI cZ cY : ClassId) (B : Nat) (a b c : Int32) (sz : Nat) : Met l yX2_three wsX2_three ({ frames := 3, cells := 1, slots := 3, locals := 66 }) (va_Pc [.int a, .int b, .int c] (sPz (dC, dI) cI cZ cY (fun H => B ≤ H.size) sz)) (sQr (fun H q => hI cI B H q 3 (s_three a b c)) (aN sz)) 1 3 (aN sz) := c_X2_threeK l dC dI cI cZ cY B 3 a b c sz (s_ok3 a b c)
theorem hd_X2_isAhead : yX2_isAhead.cls = RX2 ∧ yX2_isAhead.cls ≠ "java/lang/invoke/MethodHandle" ∧ yX2_isAhead.cls ≠ "java/lang/invoke/VarHandle" ∧ (parseMethodDescriptor yX2_isAhead.desc).map (fun d => d.parameters.length) = some 2 := by decide +kernel
set_option maxHeartbeats 4000000 in
set_option maxRecDepth 100000 in
theorem c_X2_isAhead (l : Launch) (dC : Nat → ClassId) (dI : Nat → Nat → Nat) (cI cZ cY : ClassId) (B : Nat) (x1 x2 : Nat) (f1 f2 : Nat → Int32) : Met l yX2_isAhead wsX2_isAhead ({ frames := 0, cells := 0, slots := 0, locals := 0 }) (va_Pc [.ref x1, .ref x2] (sP (dC, dI) cI cZ cY (fun H => hI cI B H x1 3 f1 ∧ hI cI B H x2 3 f2))) (vp_Si (fun r => r = bI (s_ahead f1 f2))) 0 0 (fun _ => False) := by
  refine sr_start (cc := cX2_isAhead) (maxL := 2) (ret := (some .boolean)) RX2 (by decide) rfl rfl (Nat.le_of_ble_eq_true rfl) ?_
  intro p e s m below meth c ⟨hx, hb, hr, hml, hown, hts, hlocks⟩ hM0 hK ls hl
  have F : CallFix p m c cX2_isAhead 2 s ([.ref x1, .ref x2] : List Value).toArray wsX2_isAhead RX2 := ⟨hx, hb, hml, hown, hts⟩
  have hl : lv_has ls 2 [(0, .ref x1), (1, .ref x2)] := hl
  refine lv_aload_n hx hb dX2_isAhead_0 rfl (lv_at hl 0 rfl) ?_
  refine lv_iconst (v := 0) hx hb dX2_isAhead_1 (by decide) ?_
  refine sx_iald hx hb hK.1 hM0.1 ix_0 (by decide) dX2_isAhead_2 ?_
  refine lv_aload_n hx hb dX2_isAhead_3 rfl (lv_at hl 1 rfl) ?_
  refine lv_iconst (v := 0) hx hb dX2_isAhead_4 (by decide) ?_
  refine sx_iald hx hb hK.1 hM0.2 ix_0 (by decide) dX2_isAhead_5 ?_
  refine lv_icmp_eq (tgt := 26) hx hb dX2_isAhead_6 (by decide) (fun c_1 => ?_) (fun c_1 => ?_)
  · refine lv_aload_n hx hb dX2_isAhead_26 rfl (lv_at hl 0 rfl) ?_
    refine lv_iconst (v := 1) hx hb dX2_isAhead_27 (by decide) ?_
    refine sx_iald hx hb hK.1 hM0.1 ix_1 (by decide) dX2_isAhead_28 ?_
    refine lv_aload_n hx hb dX2_isAhead_29 rfl (lv_at hl 1 rfl) ?_
    refine lv_iconst (v := 1) hx hb dX2_isAhead_30 (by decide) ?_
    refine sx_iald hx hb hK.1 hM0.2 ix_1 (by decide) dX2_isAhead_31 ?_
    refine lv_icmp_eq (tgt := 52) hx hb dX2_isAhead_32 (by decide) (fun c_2 => ?_) (fun c_2 => ?_)
    · refine lv_aload_n hx hb dX2_isAhead_52 rfl (lv_at hl 0 rfl) ?_
      refine lv_iconst (v := 2) hx hb dX2_isAhead_53 (by decide) ?_
      refine sx_iald hx hb hK.1 hM0.1 ix_2 (by decide) dX2_isAhead_54 ?_
      refine lv_aload_n hx hb dX2_isAhead_55 rfl (lv_at hl 1 rfl) ?_
      refine lv_iconst (v := 2) hx hb dX2_isAhead_56 (by decide) ?_
      refine sx_iald hx hb hK.1 hM0.2 ix_2 (by decide) dX2_isAhead_57 ?_
      refine lv_icmp_ge (tgt := 65) hx hb dX2_isAhead_58 (by decide) (fun c_3 => ?_) (fun c_3 => ?_)
      · refine lv_iconst (v := 0) hx hb dX2_isAhead_65 (by decide) ?_
        exact rd_zret hx hb hr hlocks (by first | rfl | (simp only [s_ahead, c_1, c_2, c_3]; done) | (simp only [s_ahead, c_1, c_2, c_3]; rfl) | (simp [s_ahead, c_1, c_2, c_3, bI]; done)) dX2_isAhead_66
      · refine lv_iconst (v := 1) hx hb dX2_isAhead_61 (by decide) ?_
        refine lv_goto (tgt := 66) hx hb dX2_isAhead_62 (by decide) ?_
        exact rd_zret hx hb hr hlocks (by first | rfl | (simp only [s_ahead, c_1, c_2, c_3]; done) | (simp only [s_ahead, c_1, c_2, c_3]; rfl) | (simp [s_ahead, c_1, c_2, c_3, bI]; done)) dX2_isAhead_66
    · refine lv_aload_n hx hb dX2_isAhead_35 rfl (lv_at hl 0 rfl) ?_
      refine lv_iconst (v := 1) hx hb dX2_isAhead_36 (by decide) ?_
      refine sx_iald hx hb hK.1 hM0.1 ix_1 (by decide) dX2_isAhead_37 ?_
      refine lv_aload_n hx hb dX2_isAhead_38 rfl (lv_at hl 1 rfl) ?_
      refine lv_iconst (v := 1) hx hb dX2_isAhead_39 (by decide) ?_
      refine sx_iald hx hb hK.1 hM0.2 ix_1 (by decide) dX2_isAhead_40 ?_
      refine lv_icmp_ge (tgt := 48) hx hb dX2_isAhead_41 (by decide) (fun c_4 => ?_) (fun c_4 => ?_)
      · refine lv_iconst (v := 0) hx hb dX2_isAhead_48 (by decide) ?_
        refine lv_goto (tgt := 66) hx hb dX2_isAhead_49 (by decide) ?_
        exact rd_zret hx hb hr hlocks (by first | rfl | (simp only [s_ahead, c_1, c_2, c_4]; done) | (simp only [s_ahead, c_1, c_2, c_4]; rfl) | (simp [s_ahead, c_1, c_2, c_4, bI]; done)) dX2_isAhead_66
      · refine lv_iconst (v := 1) hx hb dX2_isAhead_44 (by decide) ?_
        refine lv_goto (tgt := 66) hx hb dX2_isAhead_45 (by decide) ?_
        exact rd_zret hx hb hr hlocks (by first | rfl | (simp only [s_ahead, c_1, c_2, c_4]; done) | (simp only [s_ahead, c_1, c_2, c_4]; rfl) | (simp [s_ahead, c_1, c_2, c_4, bI]; done)) dX2_isAhead_66
  · refine lv_aload_n hx hb dX2_isAhead_9 rfl (lv_at hl 0 rfl) ?_
    refine lv_iconst (v := 0) hx hb dX2_isAhead_10 (by decide) ?_
    refine sx_iald hx hb hK.1 hM0.1 ix_0 (by decide) dX2_isAhead_11 ?_
    refine lv_aload_n hx hb dX2_isAhead_12 rfl (lv_at hl 1 rfl) ?_
    refine lv_iconst (v := 0) hx hb dX2_isAhead_13 (by decide) ?_
    refine sx_iald hx hb hK.1 hM0.2 ix_0 (by decide) dX2_isAhead_14 ?_
    refine lv_icmp_ge (tgt := 22) hx hb dX2_isAhead_15 (by decide) (fun c_5 => ?_) (fun c_5 => ?_)
    · refine lv_iconst (v := 0) hx hb dX2_isAhead_22 (by decide) ?_
      refine lv_goto (tgt := 66) hx hb dX2_isAhead_23 (by decide) ?_
      exact rd_zret hx hb hr hlocks (by first | rfl | (simp only [s_ahead, c_1, c_5]; done) | (simp only [s_ahead, c_1, c_5]; rfl) | (simp [s_ahead, c_1, c_5, bI]; done)) dX2_isAhead_66
    · refine lv_iconst (v := 1) hx hb dX2_isAhead_18 (by decide) ?_
      refine lv_goto (tgt := 66) hx hb dX2_isAhead_19 (by decide) ?_
      exact rd_zret hx hb hr hlocks (by first | rfl | (simp only [s_ahead, c_1, c_5]; done) | (simp only [s_ahead, c_1, c_5]; rfl) | (simp [s_ahead, c_1, c_5, bI]; done)) dX2_isAhead_66
theorem hd_X2_has : yX2_has.cls = RX2 ∧ yX2_has.cls ≠ "java/lang/invoke/MethodHandle" ∧ yX2_has.cls ≠ "java/lang/invoke/VarHandle" ∧ (parseMethodDescriptor yX2_has.desc).map (fun d => d.parameters.length) = some 2 := by decide +kernel
set_option maxHeartbeats 4000000 in
set_option maxRecDepth 100000 in
theorem c_X2_has (l : Launch) (dC : Nat → ClassId) (dI : Nat → Nat → Nat) (cI cZ cY : ClassId) (B : Nat) (x1 : Nat) (f1 : Nat → Int32) (z : Int32) : Met l yX2_has wsX2_has ({ frames := 0, cells := 0, slots := 0, locals := 0 }) (va_Pc [.ref x1, .int z] (sP (dC, dI) cI cZ cY (fun H => hI cI B H x1 3 f1))) (vp_Si (fun r => r = bI (s_has f1 z))) 0 0 (fun _ => False) := by
  refine sr_start (cc := cX2_has) (maxL := 2) (ret := (some .boolean)) RX2 (by decide) rfl rfl (Nat.le_of_ble_eq_true rfl) ?_
  intro p e s m below meth c ⟨hx, hb, hr, hml, hown, hts, hlocks⟩ hM0 hK ls hl
  have F : CallFix p m c cX2_has 2 s ([.ref x1, .int z] : List Value).toArray wsX2_has RX2 := ⟨hx, hb, hml, hown, hts⟩
  have hl : lv_has ls 2 [(0, .ref x1), (1, .int z)] := hl
  refine lv_aload_n hx hb dX2_has_0 rfl (lv_at hl 0 rfl) ?_
  refine lv_iconst (v := 0) hx hb dX2_has_1 (by decide) ?_
  refine sx_iald hx hb hK.1 hM0 ix_0 (by decide) dX2_has_2 ?_
  refine lv_iload_n hx hb dX2_has_3 rfl (lv_at hl 1 rfl) ?_
  refine lv_icmp_eq (tgt := 21) hx hb dX2_has_4 (by decide) (fun c_1 => ?_) (fun c_1 => ?_)
  · refine lv_iconst (v := 1) hx hb dX2_has_21 (by decide) ?_
    refine lv_goto (tgt := 26) hx hb dX2_has_22 (by decide) ?_
    exact rd_zret hx hb hr hlocks (by first | rfl | (simp only [s_has, c_1]; done) | (simp only [s_has, c_1]; rfl) | (simp [s_has, c_1, bI]; done)) dX2_has_26
  · refine lv_aload_n hx hb dX2_has_7 rfl (lv_at hl 0 rfl) ?_
    refine lv_iconst (v := 1) hx hb dX2_has_8 (by decide) ?_
    refine sx_iald hx hb hK.1 hM0 ix_1 (by decide) dX2_has_9 ?_
    refine lv_iload_n hx hb dX2_has_10 rfl (lv_at hl 1 rfl) ?_
    refine lv_icmp_eq (tgt := 21) hx hb dX2_has_11 (by decide) (fun c_2 => ?_) (fun c_2 => ?_)
    · refine lv_iconst (v := 1) hx hb dX2_has_21 (by decide) ?_
      refine lv_goto (tgt := 26) hx hb dX2_has_22 (by decide) ?_
      exact rd_zret hx hb hr hlocks (by first | rfl | (simp only [s_has, c_1, c_2]; done) | (simp only [s_has, c_1, c_2]; rfl) | (simp [s_has, c_1, c_2, bI]; done)) dX2_has_26
    · refine lv_aload_n hx hb dX2_has_14 rfl (lv_at hl 0 rfl) ?_
      refine lv_iconst (v := 2) hx hb dX2_has_15 (by decide) ?_
      refine sx_iald hx hb hK.1 hM0 ix_2 (by decide) dX2_has_16 ?_
      refine lv_iload_n hx hb dX2_has_17 rfl (lv_at hl 1 rfl) ?_
      refine lv_icmp_ne (tgt := 25) hx hb dX2_has_18 (by decide) (fun c_3 => ?_) (fun c_3 => ?_)
      · refine lv_iconst (v := 0) hx hb dX2_has_25 (by decide) ?_
        exact rd_zret hx hb hr hlocks (by first | rfl | (simp only [s_has, c_1, c_2, c_3]; done) | (simp only [s_has, c_1, c_2, c_3]; rfl) | (simp [s_has, c_1, c_2, c_3, bI]; done)) dX2_has_26
      · refine lv_iconst (v := 1) hx hb dX2_has_21 (by decide) ?_
        refine lv_goto (tgt := 26) hx hb dX2_has_22 (by decide) ?_
        exact rd_zret hx hb hr hlocks (by first | rfl | (simp only [s_has, c_1, c_2, c_3]; done) | (simp only [s_has, c_1, c_2, c_3]; rfl) | (simp [s_has, c_1, c_2, c_3, bI]; done)) dX2_has_26
theorem hd_X2_cross : yX2_cross.cls = RX2 ∧ yX2_cross.cls ≠ "java/lang/invoke/MethodHandle" ∧ yX2_cross.cls ≠ "java/lang/invoke/VarHandle" ∧ (parseMethodDescriptor yX2_cross.desc).map (fun d => d.parameters.length) = some 3 := by decide +kernel
set_option maxHeartbeats 4000000 in
set_option maxRecDepth 100000 in
theorem c_X2_cross (l : Launch) (dC : Nat → ClassId) (dI : Nat → Nat → Nat) (cI cZ cY : ClassId) (h B : Nat) (x1 x2 x3 w : Nat) (f1 f2 f3 : Nat → Int32) (hw : 2 ≤ w) : Met l yX2_cross wsX2_cross ({ frames := 0, cells := 0, slots := 0, locals := 0 }) (va_Pc [.ref h, .ref x1, .ref x2, .ref x3] (sP (dC, dI) cI cZ cY (fun H => hI cI B H x1 3 f1 ∧ hI cI B H x2 3 f2 ∧ hI cI B H x3 w f3))) (vp_Si (fun r => r = s_cross f1 f2 f3)) 0 0 (fun _ => False) := by
  refine sr_start (cc := cX2_cross) (maxL := 4) (ret := (some .int)) RX2 (by decide) rfl rfl (Nat.le_of_ble_eq_true rfl) ?_
  intro p e s m below meth c ⟨hx, hb, hr, hml, hown, hts, hlocks⟩ hM0 hK ls hl
  have F : CallFix p m c cX2_cross 4 s ([.ref h, .ref x1, .ref x2, .ref x3] : List Value).toArray wsX2_cross RX2 := ⟨hx, hb, hml, hown, hts⟩
  have hl : lv_has ls 4 [(0, .ref h), (1, .ref x1), (2, .ref x2), (3, .ref x3)] := hl
  refine lv_aload_n hx hb dX2_cross_0 rfl (lv_at hl 2 rfl) ?_
  refine lv_iconst (v := 0) hx hb dX2_cross_1 (by decide) ?_
  refine sx_iald hx hb hK.1 hM0.2.1 ix_0 (by omega) dX2_cross_2 ?_
  refine lv_aload_n hx hb dX2_cross_3 rfl (lv_at hl 1 rfl) ?_
  refine lv_iconst (v := 0) hx hb dX2_cross_4 (by decide) ?_
  refine sx_iald hx hb hK.1 hM0.1 ix_0 (by omega) dX2_cross_5 ?_
  refine lv_isub hx hb dX2_cross_6 ?_
  refine lv_aload_n hx hb dX2_cross_7 rfl (lv_at hl 3 rfl) ?_
  refine lv_iconst (v := 1) hx hb dX2_cross_8 (by decide) ?_
  refine sx_iald hx hb hK.1 hM0.2.2 ix_1 (by omega) dX2_cross_9 ?_
  refine lv_aload_n hx hb dX2_cross_10 rfl (lv_at hl 1 rfl) ?_
  refine lv_iconst (v := 1) hx hb dX2_cross_11 (by decide) ?_
  refine sx_iald hx hb hK.1 hM0.1 ix_1 (by omega) dX2_cross_12 ?_
  refine lv_isub hx hb dX2_cross_13 ?_
  refine lv_imul hx hb dX2_cross_14 ?_
  refine lv_aload_n hx hb dX2_cross_15 rfl (lv_at hl 2 rfl) ?_
  refine lv_iconst (v := 1) hx hb dX2_cross_16 (by decide) ?_
  refine sx_iald hx hb hK.1 hM0.2.1 ix_1 (by omega) dX2_cross_17 ?_
  refine lv_aload_n hx hb dX2_cross_18 rfl (lv_at hl 1 rfl) ?_
  refine lv_iconst (v := 1) hx hb dX2_cross_19 (by decide) ?_
  refine sx_iald hx hb hK.1 hM0.1 ix_1 (by omega) dX2_cross_20 ?_
  refine lv_isub hx hb dX2_cross_21 ?_
  refine lv_aload_n hx hb dX2_cross_22 rfl (lv_at hl 3 rfl) ?_
  refine lv_iconst (v := 0) hx hb dX2_cross_23 (by decide) ?_
  refine sx_iald hx hb hK.1 hM0.2.2 ix_0 (by omega) dX2_cross_24 ?_
  refine lv_aload_n hx hb dX2_cross_25 rfl (lv_at hl 1 rfl) ?_
  refine lv_iconst (v := 0) hx hb dX2_cross_26 (by decide) ?_
  refine sx_iald hx hb hK.1 hM0.1 ix_0 (by omega) dX2_cross_27 ?_
  refine lv_isub hx hb dX2_cross_28 ?_
  refine lv_imul hx hb dX2_cross_29 ?_
  refine lv_isub hx hb dX2_cross_30 ?_
  exact rd_iret hx hb hr hlocks (by first | rfl | (simp only [s_cross]; done) | (simp only [s_cross]; rfl) | (simp [s_cross, bI]; done)) dX2_cross_31
theorem in_X2_area_X2 : ∀ w ∈ wsX20, w ∈ wsX2_area := by decide +kernel
theorem fl_X2_area_9 : (Cond.fieldLink RX2 9 "MoorTrianglesLaw$Sim" "cairns" "[[I") ∈ wsX2_area := by decide +kernel
theorem ma0_X2_area_abs : (Cond.methodLink RX2 42 Lib.Math.abs.name) ∈ wsX2_area := by decide +kernel
theorem ma1_X2_area_abs : (Cond.static Lib.Math.abs.name) ∈ wsX2_area := by decide +kernel
theorem ma2_X2_area_abs : (Cond.initialized "java/lang/Math") ∈ wsX2_area := by decide +kernel
theorem ma3_X2_area_abs : (Cond.code Lib.Math.abs.name Lib.Math.abs.code 1 (some .int)) ∈ wsX2_area := by decide +kernel
theorem hd_X2_area : yX2_area.cls = RX2 ∧ yX2_area.cls ≠ "java/lang/invoke/MethodHandle" ∧ yX2_area.cls ≠ "java/lang/invoke/VarHandle" ∧ (parseMethodDescriptor yX2_area.desc).map (fun d => d.parameters.length) = some 1 := by decide +kernel
set_option maxHeartbeats 4000000 in
set_option maxRecDepth 100000 in
theorem c_X2_area (l : Launch) (dC : Nat → ClassId) (dI : Nat → Nat → Nat) (cI cZ cY : ClassId) (h : Nat) (nC : Nat) (C : Nat → Nat → Int32) (nT : Nat) (T : Nat → Nat → Int32) (nS : Nat) (S : Nat → Nat → Int32) (fl : Int32) (x1 : Nat) (f1 : Nat → Int32) (hok : ∀ j : Nat, j < 3 → vp_in (f1 j) nC) : Met l yX2_area wsX2_area ({ frames := 1, cells := 0, slots := 0, locals := 23 }) (va_Pc [.ref h, .ref x1] (sP (dC, dI) cI cZ cY (fun H => sM (dC, dI) cI cY h nC C nT T nS S fl H ∧ hI cI (h + 1) H x1 3 f1))) (vp_Si (fun r => r = s_area C f1)) 0 0 (fun _ => False) := by
  refine sr_start (cc := cX2_area) (maxL := 2) (ret := (some .int)) RX2 (by decide) rfl rfl (Nat.le_of_ble_eq_true rfl) ?_
  intro p e s m below meth c ⟨hx, hb, hr, hml, hown, hts, hlocks⟩ hM0 hK ls hl
  have F : CallFix p m c cX2_area 2 s ([.ref h, .ref x1] : List Value).toArray wsX2_area RX2 := ⟨hx, hb, hml, hown, hts⟩
  have hl : lv_has ls 2 [(0, .ref h), (1, .ref x1)] := hl
  obtain ⟨⟨qc, qt, qs, hO, hC, hTt, hSt, hn1, hn2⟩, hx1⟩ := hM0
  refine lv_aload_n hx hb dX2_area_0 rfl (lv_at hl 0 rfl) ?_
  refine lv_aload_n hx hb dX2_area_1 rfl (lv_at hl 0 rfl) ?_
  refine va_get (D := (dC, dI)) (ci := 2) (v := .ref qc) (C := RX2) (T := TX2) (N := 4) hx hb hts in_X2_area_X2 hown hK.1 (va_P.one hO) 0 rfl rfl 0 (by decide) (hts (.fieldLink RX2 9 "MoorTrianglesLaw$Sim" "cairns" "[[I") fl_X2_area_9) (fun _ h9 => h9) rfl dX2_area_2 ?_
  refine lv_aload_n hx hb dX2_area_5 rfl (lv_at hl 1 rfl) ?_
  refine lv_iconst (v := 0) hx hb dX2_area_6 (by decide) ?_
  refine sx_iald hx hb hK.1 hx1 ix_0 (by decide) dX2_area_7 ?_
  refine sx_aald hx hb hK.1 hC (ix_in (hok 0 (by decide))) (in_lt (hok 0 (by decide))) dX2_area_8 (fun xq1 hr2 => ?_)
  refine lv_aload_n hx hb dX2_area_9 rfl (lv_at hl 0 rfl) ?_
  refine va_get (D := (dC, dI)) (ci := 2) (v := .ref qc) (C := RX2) (T := TX2) (N := 4) hx hb hts in_X2_area_X2 hown hK.1 (va_P.one hO) 0 rfl rfl 0 (by decide) (hts (.fieldLink RX2 9 "MoorTrianglesLaw$Sim" "cairns" "[[I") fl_X2_area_9) (fun _ h9 => h9) rfl dX2_area_10 ?_
  refine lv_aload_n hx hb dX2_area_13 rfl (lv_at hl 1 rfl) ?_
  refine lv_iconst (v := 1) hx hb dX2_area_14 (by decide) ?_
  refine sx_iald hx hb hK.1 hx1 ix_1 (by decide) dX2_area_15 ?_
  refine sx_aald hx hb hK.1 hC (ix_in (hok 1 (by decide))) (in_lt (hok 1 (by decide))) dX2_area_16 (fun xq3 hr4 => ?_)
  refine lv_aload_n hx hb dX2_area_17 rfl (lv_at hl 0 rfl) ?_
  refine va_get (D := (dC, dI)) (ci := 2) (v := .ref qc) (C := RX2) (T := TX2) (N := 4) hx hb hts in_X2_area_X2 hown hK.1 (va_P.one hO) 0 rfl rfl 0 (by decide) (hts (.fieldLink RX2 9 "MoorTrianglesLaw$Sim" "cairns" "[[I") fl_X2_area_9) (fun _ h9 => h9) rfl dX2_area_18 ?_
  refine lv_aload_n hx hb dX2_area_21 rfl (lv_at hl 1 rfl) ?_
  refine lv_iconst (v := 2) hx hb dX2_area_22 (by decide) ?_
  refine sx_iald hx hb hK.1 hx1 ix_2 (by decide) dX2_area_23 ?_
  refine sx_aald hx hb hK.1 hC (ix_in (hok 2 (by decide))) (in_lt (hok 2 (by decide))) dX2_area_24 (fun xq5 hr6 => ?_)
  refine sr_cVi (As := [.ref xq1, .ref xq3, .ref xq5]) (rest := []) F (c_X2_cross l dC dI cI cZ cY h (h + 1) xq1 xq3 xq5 3 (C (f1 0).toNatClampNeg) (C (f1 1).toNatClampNeg) (C (f1 2).toNatClampNeg) (by decide)) (cwV 3 hts gX2_area_X2_cross rfl rfl rfl hd_X2_cross ⟨Nat.le_of_ble_eq_true rfl, Nat.le_of_ble_eq_true rfl⟩) ⟨hr2, hr4, hr6⟩ hK (sM.recv hK.1 ⟨qc, qt, qs, hO, hC, hTt, hSt, hn1, hn2⟩) rfl hl.1 rfl (lv_room (Nat.le_of_ble_eq_true rfl)) dX2_area_25 ⟨(by first | exact Nat.le_of_ble_eq_true rfl | omega | (dsimp only; omega)), (by first | exact Nat.le_of_ble_eq_true rfl | omega | (dsimp only; omega))⟩ ?_
  refine va_mabs hx hb (hml.trans hl.1.symm) hown (hts _ ma0_X2_area_abs) (hts _ ma1_X2_area_abs) (hts _ ma2_X2_area_abs) (hts _ ma3_X2_area_abs) (Nat.le_of_ble_eq_true rfl) (Nat.le_of_ble_eq_true rfl) (Nat.zero_le _) (Nat.zero_le _) dX2_area_28 ?_
  show W _ _ _ _ _ _ _ _ _ _ _ _ _ _ _ (F0 _ _ _ (.int (abs32 (s_cross (C (f1 0).toNatClampNeg) (C (f1 1).toNatClampNeg) (C (f1 2).toNatClampNeg))) :: _))
  exact rd_iret hx hb hr hlocks (by first | rfl | (simp only [s_area]; done) | (simp only [s_area]; rfl) | (simp [s_area, bI]; done)) dX2_area_31
theorem in_X2_isStaying_X2 : ∀ w ∈ wsX20, w ∈ wsX2_isStaying := by decide +kernel
theorem fl_X2_isStaying_18 : (Cond.fieldLink RX2 18 "MoorTrianglesLaw$Sim" "stays" "[[I") ∈ wsX2_isStaying := by decide +kernel
theorem hd_X2_isStaying : yX2_isStaying.cls = RX2 ∧ yX2_isStaying.cls ≠ "java/lang/invoke/MethodHandle" ∧ yX2_isStaying.cls ≠ "java/lang/invoke/VarHandle" ∧ (parseMethodDescriptor yX2_isStaying.desc).map (fun d => d.parameters.length) = some 2 := by decide +kernel
set_option maxHeartbeats 4000000 in
set_option maxRecDepth 100000 in
theorem c_X2_isStaying (l : Launch) (dC : Nat → ClassId) (dI : Nat → Nat → Nat) (cI cZ cY : ClassId) (h : Nat) (nC : Nat) (C : Nat → Nat → Int32) (nT : Nat) (T : Nat → Nat → Int32) (nS : Nat) (S : Nat → Nat → Int32) (fl : Int32) (a : Int32) (b : Int32) (hnS : nS ≤ 1000) : Met l yX2_isStaying wsX2_isStaying ({ frames := 0, cells := 0, slots := 0, locals := 0 }) (va_Pc [.ref h, .int a, .int b] (sP (dC, dI) cI cZ cY (sM (dC, dI) cI cY h nC C nT T nS S fl))) (vp_Si (fun r => r = bI (s_stay nS S a b))) 0 0 (fun _ => False) := by
  refine sr_start (cc := cX2_isStaying) (maxL := 7) (ret := (some .boolean)) RX2 (by decide) rfl rfl (Nat.le_of_ble_eq_true rfl) ?_
  intro p e s m below meth c ⟨hx, hb, hr, hml, hown, hts, hlocks⟩ hM0 hK ls hl
  have F : CallFix p m c cX2_isStaying 7 s ([.ref h, .int a, .int b] : List Value).toArray wsX2_isStaying RX2 := ⟨hx, hb, hml, hown, hts⟩
  have hl : lv_has ls 7 [(0, .ref h), (1, .int a), (2, .int b)] := hl
  obtain ⟨qc, qt, qs, hO, hC, hTt, hSt, hn1, hn2⟩ := hM0
  refine lv_aload_n hx hb dX2_isStaying_0 rfl (lv_at hl 0 rfl) ?_
  refine va_get (D := (dC, dI)) (ci := 2) (v := .ref qs) (C := RX2) (T := TX2) (N := 4) hx hb hts in_X2_isStaying_X2 hown hK.1 (va_P.one hO) 0 rfl rfl 2 (by decide) (hts (.fieldLink RX2 18 "MoorTrianglesLaw$Sim" "stays" "[[I") fl_X2_isStaying_18) (fun _ h9 => h9) rfl dX2_isStaying_1 ?_
  refine lv_astore_n (lv' := [(3, .ref qs), (0, .ref h), (1, .int a), (2, .int b)]) hx hb dX2_isStaying_4 rfl hl (by decide) rfl (fun ls hl => ?_)
  refine lv_aload_n hx hb dX2_isStaying_5 rfl (lv_at hl 0 rfl) ?_
  refine sx_alenT hx hb hK.1 hSt dX2_isStaying_6 ?_
  refine lv_istore (lv' := [(4, .int (nI nS)), (3, .ref qs), (0, .ref h), (1, .int a), (2, .int b)]) hx hb dX2_isStaying_7 hl (by decide) rfl (fun ls hl => ?_)
  refine lv_iconst (v := 0) hx hb dX2_isStaying_9 (by decide) ?_
  refine lv_istore (lv' := [(5, .int 0), (4, .int (nI nS)), (3, .ref qs), (0, .ref h), (1, .int a), (2, .int b)]) hx hb dX2_isStaying_10 hl (by decide) rfl (fun ls hl => ?_)
  have hL12 : ∀ (k_1 : Nat) (i : Nat), (nS - i) < k_1 → (i ≤ nS) → (∀ j, j < i → s_pS S a b j = false) → ∀ ls : Array Slot, lv_has ls 7 [(5, .int (nI i)), (4, .int (nI nS)), (3, .ref qs), (0, .ref h), (1, .int a), (2, .int b)] → W p l e ({ frames := 0, cells := 0, slots := 0, locals := 0 } : Room) s m ([.ref h, .int a, .int b] : List Value).toArray below meth c s.heap [] 0 0 (MQ below (vp_Si (fun r => r = bI (s_stay nS S a b))) ([.ref h, .int a, .int b] : List Value).toArray s 0 0 (fun _ => False)) (F0 m 12 ls []) := by
    intro k_1
    induction k_1 with
    | zero => intro i hk; exact absurd hk (Nat.not_lt_zero _)
    | succ k_1 ih_2 =>
      intro i hk_12 hi_i hbi ls hl
      refine lv_iload hx hb dX2_isStaying_12 (lv_at hl 0 rfl) ?_
      refine lv_iload hx hb dX2_isStaying_14 (lv_at hl 1 rfl) ?_
      refine lv_icmp_ge (tgt := 65) hx hb dX2_isStaying_16 (by decide) (fun c_3 => ?_) (fun c_3 => ?_)
      · have hge_i : nS ≤ i := nI_le_le (by omega) (by omega) c_3
        have heq_i : i = nS := by omega
        have hl : lv_has ls 7 [(5, .int (nI nS)), (4, .int (nI nS)), (3, .ref qs), (0, .ref h), (1, .int a), (2, .int b)] := by rw [heq_i] at hl; exact hl
        rw [heq_i] at hbi
        refine lv_iconst (v := 0) hx hb dX2_isStaying_65 (by decide) ?_
        exact rd_zret hx hb hr hlocks (by rw [s_stay, rg_fst_none hbi]; rfl) dX2_isStaying_66
      · have hlt_i : i < nS := nI_nle_lt (by omega) (by omega) c_3
        refine lv_aload_n hx hb dX2_isStaying_19 rfl (lv_at hl 2 rfl) ?_
        refine lv_iload hx hb dX2_isStaying_20 (lv_at hl 0 rfl) ?_
        refine sx_aald hx hb hK.1 hSt (ix_nI (by omega)) hlt_i dX2_isStaying_22 (fun xq4 hr5 => ?_)
        refine lv_astore (lv' := [(6, .ref xq4), (5, .int (nI i)), (4, .int (nI nS)), (3, .ref qs), (0, .ref h), (1, .int a), (2, .int b)]) hx hb dX2_isStaying_23 hl (by decide) rfl (fun ls hl => ?_)
        refine lv_aload hx hb dX2_isStaying_25 (lv_at hl 0 rfl) ?_
        refine lv_iconst (v := 0) hx hb dX2_isStaying_27 (by decide) ?_
        refine sx_iald hx hb hK.1 hr5 ix_0 (by decide) dX2_isStaying_28 ?_
        refine lv_iload_n hx hb dX2_isStaying_29 rfl (lv_at hl 5 rfl) ?_
        refine lv_icmp_ne (tgt := 41) hx hb dX2_isStaying_30 (by decide) (fun c_6 => ?_) (fun c_6 => ?_)
        · refine lv_aload hx hb dX2_isStaying_41 (lv_at hl 0 rfl) ?_
          refine lv_iconst (v := 0) hx hb dX2_isStaying_43 (by decide) ?_
          refine sx_iald hx hb hK.1 hr5 ix_0 (by decide) dX2_isStaying_44 ?_
          refine lv_iload_n hx hb dX2_isStaying_45 rfl (lv_at hl 6 rfl) ?_
          refine lv_icmp_ne (tgt := 59) hx hb dX2_isStaying_46 (by decide) (fun c_7 => ?_) (fun c_7 => ?_)
          · refine lv_iinc (v := nI (i + 1)) (lv' := [(5, .int (nI (i + 1))), (6, .ref xq4), (4, .int (nI nS)), (3, .ref qs), (0, .ref h), (1, .int a), (2, .int b)]) hx hb dX2_isStaying_59 hl (k := 1) rfl (nI_1 _) (by decide) rfl (fun ls hl => ?_)
            refine lv_goto (tgt := 12) hx hb dX2_isStaying_62 (by decide) ?_
            have hl := lv_sub (l' := [(5, .int (nI (i + 1))), (4, .int (nI nS)), (3, .ref qs), (0, .ref h), (1, .int a), (2, .int b)]) hl [0, 2, 3, 4, 5, 6] rfl
            have hl : lv_has ls 7 [(5, .int (nI (i + 1))), (4, .int (nI nS)), (3, .ref qs), (0, .ref h), (1, .int a), (2, .int b)] := by
              have e9 : [(5, .int (nI (i + 1))), (4, .int (nI nS)), (3, .ref qs), (0, .ref h), (1, .int a), (2, .int b)] = ([(5, .int (nI (i + 1))), (4, .int (nI nS)), (3, .ref qs), (0, .ref h), (1, .int a), (2, .int b)] : List (Nat × Value)) := by rfl
              rw [← e9]; exact hl
            exact ih_2 (i + 1) (by omega) (by omega) (rg_bef hbi (show s_pS S a b i = false from by rw [s_pS, s_pr, if_neg c_6, if_neg c_7])) _ hl
          · refine lv_aload hx hb dX2_isStaying_49 (lv_at hl 0 rfl) ?_
            refine lv_iconst (v := 1) hx hb dX2_isStaying_51 (by decide) ?_
            refine sx_iald hx hb hK.1 hr5 ix_1 (by decide) dX2_isStaying_52 ?_
            refine lv_iload_n hx hb dX2_isStaying_53 rfl (lv_at hl 5 rfl) ?_
            refine lv_icmp_ne (tgt := 59) hx hb dX2_isStaying_54 (by decide) (fun c_8 => ?_) (fun c_8 => ?_)
            · refine lv_iinc (v := nI (i + 1)) (lv' := [(5, .int (nI (i + 1))), (6, .ref xq4), (4, .int (nI nS)), (3, .ref qs), (0, .ref h), (1, .int a), (2, .int b)]) hx hb dX2_isStaying_59 hl (k := 1) rfl (nI_1 _) (by decide) rfl (fun ls hl => ?_)
              refine lv_goto (tgt := 12) hx hb dX2_isStaying_62 (by decide) ?_
              have hl := lv_sub (l' := [(5, .int (nI (i + 1))), (4, .int (nI nS)), (3, .ref qs), (0, .ref h), (1, .int a), (2, .int b)]) hl [0, 2, 3, 4, 5, 6] rfl
              have hl : lv_has ls 7 [(5, .int (nI (i + 1))), (4, .int (nI nS)), (3, .ref qs), (0, .ref h), (1, .int a), (2, .int b)] := by
                have e9 : [(5, .int (nI (i + 1))), (4, .int (nI nS)), (3, .ref qs), (0, .ref h), (1, .int a), (2, .int b)] = ([(5, .int (nI (i + 1))), (4, .int (nI nS)), (3, .ref qs), (0, .ref h), (1, .int a), (2, .int b)] : List (Nat × Value)) := by rfl
                rw [← e9]; exact hl
              exact ih_2 (i + 1) (by omega) (by omega) (rg_bef hbi (show s_pS S a b i = false from by rw [s_pS, s_pr, if_neg c_6, if_pos c_7, if_neg c_8])) _ hl
            · refine lv_iconst (v := 1) hx hb dX2_isStaying_57 (by decide) ?_
              exact rd_zret hx hb hr hlocks (by rw [s_stay, rg_fst_some (i := i) (show s_pS S a b i = true from by rw [s_pS, s_pr, if_neg c_6, if_pos c_7, if_pos c_8]) hbi hlt_i]; rfl) dX2_isStaying_58
        · refine lv_aload hx hb dX2_isStaying_33 (lv_at hl 0 rfl) ?_
          refine lv_iconst (v := 1) hx hb dX2_isStaying_35 (by decide) ?_
          refine sx_iald hx hb hK.1 hr5 ix_1 (by decide) dX2_isStaying_36 ?_
          refine lv_iload_n hx hb dX2_isStaying_37 rfl (lv_at hl 6 rfl) ?_
          refine lv_icmp_eq (tgt := 57) hx hb dX2_isStaying_38 (by decide) (fun c_9 => ?_) (fun c_9 => ?_)
          · refine lv_iconst (v := 1) hx hb dX2_isStaying_57 (by decide) ?_
            exact rd_zret hx hb hr hlocks (by rw [s_stay, rg_fst_some (i := i) (show s_pS S a b i = true from by rw [s_pS, s_pr, if_pos c_6, if_pos c_9]) hbi hlt_i]; rfl) dX2_isStaying_58
          · refine lv_aload hx hb dX2_isStaying_41 (lv_at hl 0 rfl) ?_
            refine lv_iconst (v := 0) hx hb dX2_isStaying_43 (by decide) ?_
            refine sx_iald hx hb hK.1 hr5 ix_0 (by decide) dX2_isStaying_44 ?_
            refine lv_iload_n hx hb dX2_isStaying_45 rfl (lv_at hl 6 rfl) ?_
            refine lv_icmp_ne (tgt := 59) hx hb dX2_isStaying_46 (by decide) (fun c_10 => ?_) (fun c_10 => ?_)
            · refine lv_iinc (v := nI (i + 1)) (lv' := [(5, .int (nI (i + 1))), (6, .ref xq4), (4, .int (nI nS)), (3, .ref qs), (0, .ref h), (1, .int a), (2, .int b)]) hx hb dX2_isStaying_59 hl (k := 1) rfl (nI_1 _) (by decide) rfl (fun ls hl => ?_)
              refine lv_goto (tgt := 12) hx hb dX2_isStaying_62 (by decide) ?_
              have hl := lv_sub (l' := [(5, .int (nI (i + 1))), (4, .int (nI nS)), (3, .ref qs), (0, .ref h), (1, .int a), (2, .int b)]) hl [0, 2, 3, 4, 5, 6] rfl
              have hl : lv_has ls 7 [(5, .int (nI (i + 1))), (4, .int (nI nS)), (3, .ref qs), (0, .ref h), (1, .int a), (2, .int b)] := by
                have e9 : [(5, .int (nI (i + 1))), (4, .int (nI nS)), (3, .ref qs), (0, .ref h), (1, .int a), (2, .int b)] = ([(5, .int (nI (i + 1))), (4, .int (nI nS)), (3, .ref qs), (0, .ref h), (1, .int a), (2, .int b)] : List (Nat × Value)) := by rfl
                rw [← e9]; exact hl
              exact ih_2 (i + 1) (by omega) (by omega) (rg_bef hbi (show s_pS S a b i = false from by rw [s_pS, s_pr, if_pos c_6, if_neg c_9, if_neg c_10])) _ hl
            · refine lv_aload hx hb dX2_isStaying_49 (lv_at hl 0 rfl) ?_
              refine lv_iconst (v := 1) hx hb dX2_isStaying_51 (by decide) ?_
              refine sx_iald hx hb hK.1 hr5 ix_1 (by decide) dX2_isStaying_52 ?_
              refine lv_iload_n hx hb dX2_isStaying_53 rfl (lv_at hl 5 rfl) ?_
              refine lv_icmp_ne (tgt := 59) hx hb dX2_isStaying_54 (by decide) (fun c_11 => ?_) (fun c_11 => ?_)
              · refine lv_iinc (v := nI (i + 1)) (lv' := [(5, .int (nI (i + 1))), (6, .ref xq4), (4, .int (nI nS)), (3, .ref qs), (0, .ref h), (1, .int a), (2, .int b)]) hx hb dX2_isStaying_59 hl (k := 1) rfl (nI_1 _) (by decide) rfl (fun ls hl => ?_)
                refine lv_goto (tgt := 12) hx hb dX2_isStaying_62 (by decide) ?_
                have hl := lv_sub (l' := [(5, .int (nI (i + 1))), (4, .int (nI nS)), (3, .ref qs), (0, .ref h), (1, .int a), (2, .int b)]) hl [0, 2, 3, 4, 5, 6] rfl
                have hl : lv_has ls 7 [(5, .int (nI (i + 1))), (4, .int (nI nS)), (3, .ref qs), (0, .ref h), (1, .int a), (2, .int b)] := by
                  have e9 : [(5, .int (nI (i + 1))), (4, .int (nI nS)), (3, .ref qs), (0, .ref h), (1, .int a), (2, .int b)] = ([(5, .int (nI (i + 1))), (4, .int (nI nS)), (3, .ref qs), (0, .ref h), (1, .int a), (2, .int b)] : List (Nat × Value)) := by rfl
                  rw [← e9]; exact hl
                exact ih_2 (i + 1) (by omega) (by omega) (rg_bef hbi (show s_pS S a b i = false from by rw [s_pS, s_pr, if_pos c_6, if_neg c_9, if_pos c_10, if_neg c_11])) _ hl
              · refine lv_iconst (v := 1) hx hb dX2_isStaying_57 (by decide) ?_
                exact rd_zret hx hb hr hlocks (by rw [s_stay, rg_fst_some (i := i) (show s_pS S a b i = true from by rw [s_pS, s_pr, if_pos c_6, if_neg c_9, if_pos c_10, if_pos c_11]) hbi hlt_i]; rfl) dX2_isStaying_58
  have hl := lv_sub (l' := [(5, .int 0), (4, .int (nI nS)), (3, .ref qs), (0, .ref h), (1, .int a), (2, .int b)]) hl [0, 1, 2, 3, 4, 5] rfl
  have hl : lv_has ls 7 [(5, .int (nI 0)), (4, .int (nI nS)), (3, .ref qs), (0, .ref h), (1, .int a), (2, .int b)] := by
    have e9 : [(5, .int 0), (4, .int (nI nS)), (3, .ref qs), (0, .ref h), (1, .int a), (2, .int b)] = ([(5, .int (nI 0)), (4, .int (nI nS)), (3, .ref qs), (0, .ref h), (1, .int a), (2, .int b)] : List (Nat × Value)) := by rfl
    rw [← e9]; exact hl
  exact hL12 _ 0 (Nat.lt_succ_self _) (by omega) (fun j hj => absurd hj (Nat.not_lt_zero _)) _ hl
theorem in_X2_cairnAt_X2 : ∀ w ∈ wsX20, w ∈ wsX2_cairnAt := by decide +kernel
theorem fl_X2_cairnAt_9 : (Cond.fieldLink RX2 9 "MoorTrianglesLaw$Sim" "cairns" "[[I") ∈ wsX2_cairnAt := by decide +kernel
theorem hd_X2_cairnAt : yX2_cairnAt.cls = RX2 ∧ yX2_cairnAt.cls ≠ "java/lang/invoke/MethodHandle" ∧ yX2_cairnAt.cls ≠ "java/lang/invoke/VarHandle" ∧ (parseMethodDescriptor yX2_cairnAt.desc).map (fun d => d.parameters.length) = some 2 := by decide +kernel
set_option maxHeartbeats 4000000 in
set_option maxRecDepth 100000 in
theorem c_X2_cairnAt (l : Launch) (dC : Nat → ClassId) (dI : Nat → Nat → Nat) (cI cZ cY : ClassId) (h : Nat) (nC : Nat) (C : Nat → Nat → Int32) (nT : Nat) (T : Nat → Nat → Int32) (nS : Nat) (S : Nat → Nat → Int32) (fl : Int32) (x : Int32) (y : Int32) (hnC : nC ≤ 1000) : Met l yX2_cairnAt wsX2_cairnAt ({ frames := 0, cells := 0, slots := 0, locals := 0 }) (va_Pc [.ref h, .int x, .int y] (sP (dC, dI) cI cZ cY (sM (dC, dI) cI cY h nC C nT T nS S fl))) (vp_Si (fun r => r = s_cat nC C x y)) 0 0 (fun _ => False) := by
  refine sr_start (cc := cX2_cairnAt) (maxL := 4) (ret := (some .int)) RX2 (by decide) rfl rfl (Nat.le_of_ble_eq_true rfl) ?_
  intro p e s m below meth c ⟨hx, hb, hr, hml, hown, hts, hlocks⟩ hM0 hK ls hl
  have F : CallFix p m c cX2_cairnAt 4 s ([.ref h, .int x, .int y] : List Value).toArray wsX2_cairnAt RX2 := ⟨hx, hb, hml, hown, hts⟩
  have hl : lv_has ls 4 [(0, .ref h), (1, .int x), (2, .int y)] := hl
  obtain ⟨qc, qt, qs, hO, hC, hTt, hSt, hn1, hn2⟩ := hM0
  refine lv_iconst (v := 0) hx hb dX2_cairnAt_0 (by decide) ?_
  refine lv_istore_n (lv' := [(3, .int 0), (0, .ref h), (1, .int x), (2, .int y)]) hx hb dX2_cairnAt_1 rfl hl (by decide) rfl (fun ls hl => ?_)
  have hL2 : ∀ (k_1 : Nat) (i : Nat), (nC - i) < k_1 → (i ≤ nC) → (∀ j, j < i → s_cP C x y j = false) → ∀ ls : Array Slot, lv_has ls 4 [(3, .int (nI i)), (0, .ref h), (1, .int x), (2, .int y)] → W p l e ({ frames := 0, cells := 0, slots := 0, locals := 0 } : Room) s m ([.ref h, .int x, .int y] : List Value).toArray below meth c s.heap [] 0 0 (MQ below (vp_Si (fun r => r = s_cat nC C x y)) ([.ref h, .int x, .int y] : List Value).toArray s 0 0 (fun _ => False)) (F0 m 2 ls []) := by
    intro k_1
    induction k_1 with
    | zero => intro i hk; exact absurd hk (Nat.not_lt_zero _)
    | succ k_1 ih_2 =>
      intro i hk_2 hi_i hbi ls hl
      refine lv_iload_n hx hb dX2_cairnAt_2 rfl (lv_at hl 0 rfl) ?_
      refine lv_aload_n hx hb dX2_cairnAt_3 rfl (lv_at hl 1 rfl) ?_
      refine va_get (D := (dC, dI)) (ci := 2) (v := .ref qc) (C := RX2) (T := TX2) (N := 4) hx hb hts in_X2_cairnAt_X2 hown hK.1 (va_P.one hO) 0 rfl rfl 0 (by decide) (hts (.fieldLink RX2 9 "MoorTrianglesLaw$Sim" "cairns" "[[I") fl_X2_cairnAt_9) (fun _ h9 => h9) rfl dX2_cairnAt_4 ?_
      refine sx_alenT hx hb hK.1 hC dX2_cairnAt_7 ?_
      refine lv_icmp_ge (tgt := 43) hx hb dX2_cairnAt_8 (by decide) (fun c_3 => ?_) (fun c_3 => ?_)
      · have hge_i : nC ≤ i := nI_le_le (by omega) (by omega) c_3
        have heq_i : i = nC := by omega
        have hl : lv_has ls 4 [(3, .int (nI nC)), (0, .ref h), (1, .int x), (2, .int y)] := by rw [heq_i] at hl; exact hl
        rw [heq_i] at hbi
        refine lv_iconst (v := (-1)) hx hb dX2_cairnAt_43 (by decide) ?_
        exact rd_iret hx hb hr hlocks (by rw [s_cat, rg_fst_none hbi]; rfl) dX2_cairnAt_44
      · have hlt_i : i < nC := nI_nle_lt (by omega) (by omega) c_3
        refine lv_aload_n hx hb dX2_cairnAt_11 rfl (lv_at hl 1 rfl) ?_
        refine va_get (D := (dC, dI)) (ci := 2) (v := .ref qc) (C := RX2) (T := TX2) (N := 4) hx hb hts in_X2_cairnAt_X2 hown hK.1 (va_P.one hO) 0 rfl rfl 0 (by decide) (hts (.fieldLink RX2 9 "MoorTrianglesLaw$Sim" "cairns" "[[I") fl_X2_cairnAt_9) (fun _ h9 => h9) rfl dX2_cairnAt_12 ?_
        refine lv_iload_n hx hb dX2_cairnAt_15 rfl (lv_at hl 0 rfl) ?_
        refine sx_aald hx hb hK.1 hC (ix_nI (by omega)) hlt_i dX2_cairnAt_16 (fun xq4 hr5 => ?_)
        refine lv_iconst (v := 0) hx hb dX2_cairnAt_17 (by decide) ?_
        refine sx_iald hx hb hK.1 hr5 ix_0 (by decide) dX2_cairnAt_18 ?_
        refine lv_iload_n hx hb dX2_cairnAt_19 rfl (lv_at hl 2 rfl) ?_
        refine lv_icmp_ne (tgt := 37) hx hb dX2_cairnAt_20 (by decide) (fun c_6 => ?_) (fun c_6 => ?_)
        · refine lv_iinc (v := nI (i + 1)) (lv' := [(3, .int (nI (i + 1))), (0, .ref h), (1, .int x), (2, .int y)]) hx hb dX2_cairnAt_37 hl (k := 0) rfl (nI_1 _) (by decide) rfl (fun ls hl => ?_)
          refine lv_goto (tgt := 2) hx hb dX2_cairnAt_40 (by decide) ?_
          have hl := lv_sub (l' := [(3, .int (nI (i + 1))), (0, .ref h), (1, .int x), (2, .int y)]) hl [0, 1, 2, 3] rfl
          have hl : lv_has ls 4 [(3, .int (nI (i + 1))), (0, .ref h), (1, .int x), (2, .int y)] := by
            have e9 : [(3, .int (nI (i + 1))), (0, .ref h), (1, .int x), (2, .int y)] = ([(3, .int (nI (i + 1))), (0, .ref h), (1, .int x), (2, .int y)] : List (Nat × Value)) := by rfl
            rw [← e9]; exact hl
          exact ih_2 (i + 1) (by omega) (by omega) (rg_bef hbi (show s_cP C x y i = false from by rw [s_cP, if_neg c_6])) _ hl
        · refine lv_aload_n hx hb dX2_cairnAt_23 rfl (lv_at hl 1 rfl) ?_
          refine va_get (D := (dC, dI)) (ci := 2) (v := .ref qc) (C := RX2) (T := TX2) (N := 4) hx hb hts in_X2_cairnAt_X2 hown hK.1 (va_P.one hO) 0 rfl rfl 0 (by decide) (hts (.fieldLink RX2 9 "MoorTrianglesLaw$Sim" "cairns" "[[I") fl_X2_cairnAt_9) (fun _ h9 => h9) rfl dX2_cairnAt_24 ?_
          refine lv_iload_n hx hb dX2_cairnAt_27 rfl (lv_at hl 0 rfl) ?_
          refine sx_aald hx hb hK.1 hC (ix_nI (by omega)) hlt_i dX2_cairnAt_28 (fun xq7 hr8 => ?_)
          refine lv_iconst (v := 1) hx hb dX2_cairnAt_29 (by decide) ?_
          refine sx_iald hx hb hK.1 hr8 ix_1 (by decide) dX2_cairnAt_30 ?_
          refine lv_iload_n hx hb dX2_cairnAt_31 rfl (lv_at hl 3 rfl) ?_
          refine lv_icmp_ne (tgt := 37) hx hb dX2_cairnAt_32 (by decide) (fun c_9 => ?_) (fun c_9 => ?_)
          · refine lv_iinc (v := nI (i + 1)) (lv' := [(3, .int (nI (i + 1))), (0, .ref h), (1, .int x), (2, .int y)]) hx hb dX2_cairnAt_37 hl (k := 0) rfl (nI_1 _) (by decide) rfl (fun ls hl => ?_)
            refine lv_goto (tgt := 2) hx hb dX2_cairnAt_40 (by decide) ?_
            have hl := lv_sub (l' := [(3, .int (nI (i + 1))), (0, .ref h), (1, .int x), (2, .int y)]) hl [0, 1, 2, 3] rfl
            have hl : lv_has ls 4 [(3, .int (nI (i + 1))), (0, .ref h), (1, .int x), (2, .int y)] := by
              have e9 : [(3, .int (nI (i + 1))), (0, .ref h), (1, .int x), (2, .int y)] = ([(3, .int (nI (i + 1))), (0, .ref h), (1, .int x), (2, .int y)] : List (Nat × Value)) := by rfl
              rw [← e9]; exact hl
            exact ih_2 (i + 1) (by omega) (by omega) (rg_bef hbi (show s_cP C x y i = false from by rw [s_cP, if_pos c_6, if_neg c_9])) _ hl
          · refine lv_iload_n hx hb dX2_cairnAt_35 rfl (lv_at hl 0 rfl) ?_
            exact rd_iret hx hb hr hlocks (by rw [s_cat, rg_fst_some (i := i) (show s_cP C x y i = true from by rw [s_cP, if_pos c_6, if_pos c_9]) hbi hlt_i]; rfl) dX2_cairnAt_36
  have hl := lv_sub (l' := [(3, .int 0), (0, .ref h), (1, .int x), (2, .int y)]) hl [0, 1, 2, 3] rfl
  have hl : lv_has ls 4 [(3, .int (nI 0)), (0, .ref h), (1, .int x), (2, .int y)] := by
    have e9 : [(3, .int 0), (0, .ref h), (1, .int x), (2, .int y)] = ([(3, .int (nI 0)), (0, .ref h), (1, .int x), (2, .int y)] : List (Nat × Value)) := by rfl
    rw [← e9]; exact hl
  exact hL2 _ 0 (Nat.lt_succ_self _) (by omega) (fun j hj => absurd hj (Nat.not_lt_zero _)) _ hl
theorem in_X2_isIn_X2 : ∀ w ∈ wsX20, w ∈ wsX2_isIn := by decide +kernel
theorem fl_X2_isIn_9 : (Cond.fieldLink RX2 9 "MoorTrianglesLaw$Sim" "cairns" "[[I") ∈ wsX2_isIn := by decide +kernel
theorem lc52_X2_isIn : (Cond.constantLong RX2 52 2) ∈ wsX2_isIn := by decide +kernel
theorem hd_X2_isIn : yX2_isIn.cls = RX2 ∧ yX2_isIn.cls ≠ "java/lang/invoke/MethodHandle" ∧ yX2_isIn.cls ≠ "java/lang/invoke/VarHandle" ∧ (parseMethodDescriptor yX2_isIn.desc).map (fun d => d.parameters.length) = some 3 := by decide +kernel
set_option maxHeartbeats 4000000 in
set_option maxRecDepth 100000 in
theorem c_X2_isIn (l : Launch) (dC : Nat → ClassId) (dI : Nat → Nat → Nat) (cI cZ cY : ClassId) (h : Nat) (nC : Nat) (C : Nat → Nat → Int32) (nT : Nat) (T : Nat → Nat → Int32) (nS : Nat) (S : Nat → Nat → Int32) (fl : Int32) (x1 : Nat) (f1 : Nat → Int32) (x : Int32) (y : Int32) (hok : ∀ j : Nat, j < 3 → vp_in (f1 j) nC) : Met l yX2_isIn wsX2_isIn ({ frames := 0, cells := 0, slots := 0, locals := 0 }) (va_Pc [.ref h, .ref x1, .int x, .int y] (sP (dC, dI) cI cZ cY (fun H => sM (dC, dI) cI cY h nC C nT T nS S fl H ∧ hI cI (h + 1) H x1 3 f1))) (vp_Si (fun r => r = bI (s_in C f1 x y))) 0 0 (fun _ => False) := by
  refine sr_start (cc := cX2_isIn) (maxL := 23) (ret := (some .boolean)) RX2 (by decide) rfl rfl (Nat.le_of_ble_eq_true rfl) ?_
  intro p e s m below meth c ⟨hx, hb, hr, hml, hown, hts, hlocks⟩ hM0 hK ls hl
  have F : CallFix p m c cX2_isIn 23 s ([.ref h, .ref x1, .int x, .int y] : List Value).toArray wsX2_isIn RX2 := ⟨hx, hb, hml, hown, hts⟩
  have hl : lv_has ls 23 [(0, .ref h), (1, .ref x1), (2, .int x), (3, .int y)] := hl
  obtain ⟨⟨qc, qt, qs, hO, hC, hTt, hSt, hn1, hn2⟩, hx1⟩ := hM0
  refine lv_aload_n hx hb dX2_isIn_0 rfl (lv_at hl 0 rfl) ?_
  refine va_get (D := (dC, dI)) (ci := 2) (v := .ref qc) (C := RX2) (T := TX2) (N := 4) hx hb hts in_X2_isIn_X2 hown hK.1 (va_P.one hO) 0 rfl rfl 0 (by decide) (hts (.fieldLink RX2 9 "MoorTrianglesLaw$Sim" "cairns" "[[I") fl_X2_isIn_9) (fun _ h9 => h9) rfl dX2_isIn_1 ?_
  refine lv_aload_n hx hb dX2_isIn_4 rfl (lv_at hl 1 rfl) ?_
  refine lv_iconst (v := 0) hx hb dX2_isIn_5 (by decide) ?_
  refine sx_iald hx hb hK.1 hx1 ix_0 (by decide) dX2_isIn_6 ?_
  refine sx_aald hx hb hK.1 hC (ix_in (hok 0 (by decide))) (in_lt (hok 0 (by decide))) dX2_isIn_7 (fun xq1 hr2 => ?_)
  refine lv_astore (lv' := [(4, .ref xq1), (0, .ref h), (1, .ref x1), (2, .int x), (3, .int y)]) hx hb dX2_isIn_8 hl (by decide) rfl (fun ls hl => ?_)
  refine lv_aload_n hx hb dX2_isIn_10 rfl (lv_at hl 1 rfl) ?_
  refine va_get (D := (dC, dI)) (ci := 2) (v := .ref qc) (C := RX2) (T := TX2) (N := 4) hx hb hts in_X2_isIn_X2 hown hK.1 (va_P.one hO) 0 rfl rfl 0 (by decide) (hts (.fieldLink RX2 9 "MoorTrianglesLaw$Sim" "cairns" "[[I") fl_X2_isIn_9) (fun _ h9 => h9) rfl dX2_isIn_11 ?_
  refine lv_aload_n hx hb dX2_isIn_14 rfl (lv_at hl 2 rfl) ?_
  refine lv_iconst (v := 1) hx hb dX2_isIn_15 (by decide) ?_
  refine sx_iald hx hb hK.1 hx1 ix_1 (by decide) dX2_isIn_16 ?_
  refine sx_aald hx hb hK.1 hC (ix_in (hok 1 (by decide))) (in_lt (hok 1 (by decide))) dX2_isIn_17 (fun xq3 hr4 => ?_)
  refine lv_iconst (v := 0) hx hb dX2_isIn_18 (by decide) ?_
  refine sx_iald hx hb hK.1 hr4 ix_0 (by decide) dX2_isIn_19 ?_
  refine lv_aload hx hb dX2_isIn_20 (lv_at hl 0 rfl) ?_
  refine lv_iconst (v := 0) hx hb dX2_isIn_22 (by decide) ?_
  refine sx_iald hx hb hK.1 hr2 ix_0 (by decide) dX2_isIn_23 ?_
  refine lv_isub hx hb dX2_isIn_24 ?_
  refine lv_i2l hx hb dX2_isIn_25 rfl ?_
  refine lv_lstore (lv' := [(5, .long ((((C (f1 1).toNatClampNeg) 0) - ((C (f1 0).toNatClampNeg) 0)).toInt64)), (4, .ref xq1), (0, .ref h), (1, .ref x1), (2, .int x), (3, .int y)]) hx hb dX2_isIn_26 hl (by decide) rfl (fun ls hl => ?_)
  refine lv_aload_n hx hb dX2_isIn_28 rfl (lv_at hl 2 rfl) ?_
  refine va_get (D := (dC, dI)) (ci := 2) (v := .ref qc) (C := RX2) (T := TX2) (N := 4) hx hb hts in_X2_isIn_X2 hown hK.1 (va_P.one hO) 0 rfl rfl 0 (by decide) (hts (.fieldLink RX2 9 "MoorTrianglesLaw$Sim" "cairns" "[[I") fl_X2_isIn_9) (fun _ h9 => h9) rfl dX2_isIn_29 ?_
  refine lv_aload_n hx hb dX2_isIn_32 rfl (lv_at hl 3 rfl) ?_
  refine lv_iconst (v := 1) hx hb dX2_isIn_33 (by decide) ?_
  refine sx_iald hx hb hK.1 hx1 ix_1 (by decide) dX2_isIn_34 ?_
  refine sx_aald hx hb hK.1 hC (ix_in (hok 1 (by decide))) (in_lt (hok 1 (by decide))) dX2_isIn_35 (fun xq5 hr6 => ?_)
  refine lv_iconst (v := 1) hx hb dX2_isIn_36 (by decide) ?_
  refine sx_iald hx hb hK.1 hr6 ix_1 (by decide) dX2_isIn_37 ?_
  refine lv_aload hx hb dX2_isIn_38 (lv_at hl 1 rfl) ?_
  refine lv_iconst (v := 1) hx hb dX2_isIn_40 (by decide) ?_
  refine sx_iald hx hb hK.1 hr2 ix_1 (by decide) dX2_isIn_41 ?_
  refine lv_isub hx hb dX2_isIn_42 ?_
  refine lv_i2l hx hb dX2_isIn_43 rfl ?_
  refine lv_lstore (lv' := [(7, .long ((((C (f1 1).toNatClampNeg) 1) - ((C (f1 0).toNatClampNeg) 1)).toInt64)), (5, .long ((((C (f1 1).toNatClampNeg) 0) - ((C (f1 0).toNatClampNeg) 0)).toInt64)), (4, .ref xq1), (0, .ref h), (1, .ref x1), (2, .int x), (3, .int y)]) hx hb dX2_isIn_44 hl (by decide) rfl (fun ls hl => ?_)
  refine lv_aload_n hx hb dX2_isIn_46 rfl (lv_at hl 3 rfl) ?_
  refine va_get (D := (dC, dI)) (ci := 2) (v := .ref qc) (C := RX2) (T := TX2) (N := 4) hx hb hts in_X2_isIn_X2 hown hK.1 (va_P.one hO) 0 rfl rfl 0 (by decide) (hts (.fieldLink RX2 9 "MoorTrianglesLaw$Sim" "cairns" "[[I") fl_X2_isIn_9) (fun _ h9 => h9) rfl dX2_isIn_47 ?_
  refine lv_aload_n hx hb dX2_isIn_50 rfl (lv_at hl 4 rfl) ?_
  refine lv_iconst (v := 2) hx hb dX2_isIn_51 (by decide) ?_
  refine sx_iald hx hb hK.1 hx1 ix_2 (by decide) dX2_isIn_52 ?_
  refine sx_aald hx hb hK.1 hC (ix_in (hok 2 (by decide))) (in_lt (hok 2 (by decide))) dX2_isIn_53 (fun xq7 hr8 => ?_)
  refine lv_iconst (v := 0) hx hb dX2_isIn_54 (by decide) ?_
  refine sx_iald hx hb hK.1 hr8 ix_0 (by decide) dX2_isIn_55 ?_
  refine lv_aload hx hb dX2_isIn_56 (lv_at hl 2 rfl) ?_
  refine lv_iconst (v := 0) hx hb dX2_isIn_58 (by decide) ?_
  refine sx_iald hx hb hK.1 hr2 ix_0 (by decide) dX2_isIn_59 ?_
  refine lv_isub hx hb dX2_isIn_60 ?_
  refine lv_i2l hx hb dX2_isIn_61 rfl ?_
  refine lv_lstore (lv' := [(9, .long ((((C (f1 2).toNatClampNeg) 0) - ((C (f1 0).toNatClampNeg) 0)).toInt64)), (7, .long ((((C (f1 1).toNatClampNeg) 1) - ((C (f1 0).toNatClampNeg) 1)).toInt64)), (5, .long ((((C (f1 1).toNatClampNeg) 0) - ((C (f1 0).toNatClampNeg) 0)).toInt64)), (4, .ref xq1), (0, .ref h), (1, .ref x1), (2, .int x), (3, .int y)]) hx hb dX2_isIn_62 hl (by decide) rfl (fun ls hl => ?_)
  refine lv_aload_n hx hb dX2_isIn_64 rfl (lv_at hl 4 rfl) ?_
  refine va_get (D := (dC, dI)) (ci := 2) (v := .ref qc) (C := RX2) (T := TX2) (N := 4) hx hb hts in_X2_isIn_X2 hown hK.1 (va_P.one hO) 0 rfl rfl 0 (by decide) (hts (.fieldLink RX2 9 "MoorTrianglesLaw$Sim" "cairns" "[[I") fl_X2_isIn_9) (fun _ h9 => h9) rfl dX2_isIn_65 ?_
  refine lv_aload_n hx hb dX2_isIn_68 rfl (lv_at hl 5 rfl) ?_
  refine lv_iconst (v := 2) hx hb dX2_isIn_69 (by decide) ?_
  refine sx_iald hx hb hK.1 hx1 ix_2 (by decide) dX2_isIn_70 ?_
  refine sx_aald hx hb hK.1 hC (ix_in (hok 2 (by decide))) (in_lt (hok 2 (by decide))) dX2_isIn_71 (fun xq9 hr10 => ?_)
  refine lv_iconst (v := 1) hx hb dX2_isIn_72 (by decide) ?_
  refine sx_iald hx hb hK.1 hr10 ix_1 (by decide) dX2_isIn_73 ?_
  refine lv_aload hx hb dX2_isIn_74 (lv_at hl 3 rfl) ?_
  refine lv_iconst (v := 1) hx hb dX2_isIn_76 (by decide) ?_
  refine sx_iald hx hb hK.1 hr2 ix_1 (by decide) dX2_isIn_77 ?_
  refine lv_isub hx hb dX2_isIn_78 ?_
  refine lv_i2l hx hb dX2_isIn_79 rfl ?_
  refine lv_lstore (lv' := [(11, .long ((((C (f1 2).toNatClampNeg) 1) - ((C (f1 0).toNatClampNeg) 1)).toInt64)), (9, .long ((((C (f1 2).toNatClampNeg) 0) - ((C (f1 0).toNatClampNeg) 0)).toInt64)), (7, .long ((((C (f1 1).toNatClampNeg) 1) - ((C (f1 0).toNatClampNeg) 1)).toInt64)), (5, .long ((((C (f1 1).toNatClampNeg) 0) - ((C (f1 0).toNatClampNeg) 0)).toInt64)), (4, .ref xq1), (0, .ref h), (1, .ref x1), (2, .int x), (3, .int y)]) hx hb dX2_isIn_80 hl (by decide) rfl (fun ls hl => ?_)
  refine lv_ldc2 hx hb hown (hts _ lc52_X2_isIn) dX2_isIn_82 ?_
  refine lv_lload hx hb dX2_isIn_85 (lv_at hl 3 rfl) ?_
  refine lv_lload hx hb dX2_isIn_87 (lv_at hl 0 rfl) ?_
  refine lv_lmul hx hb dX2_isIn_89 ?_
  refine lv_lload hx hb dX2_isIn_90 (lv_at hl 2 rfl) ?_
  refine lv_lload hx hb dX2_isIn_92 (lv_at hl 1 rfl) ?_
  refine lv_lmul hx hb dX2_isIn_94 ?_
  refine lv_lsub hx hb dX2_isIn_95 ?_
  refine lv_lmul hx hb dX2_isIn_96 ?_
  refine lv_lstore (lv' := [(13, .long (2 * ((((((C (f1 1).toNatClampNeg) 0) - ((C (f1 0).toNatClampNeg) 0)).toInt64) * ((((C (f1 2).toNatClampNeg) 1) - ((C (f1 0).toNatClampNeg) 1)).toInt64)) - (((((C (f1 1).toNatClampNeg) 1) - ((C (f1 0).toNatClampNeg) 1)).toInt64) * ((((C (f1 2).toNatClampNeg) 0) - ((C (f1 0).toNatClampNeg) 0)).toInt64))))), (11, .long ((((C (f1 2).toNatClampNeg) 1) - ((C (f1 0).toNatClampNeg) 1)).toInt64)), (9, .long ((((C (f1 2).toNatClampNeg) 0) - ((C (f1 0).toNatClampNeg) 0)).toInt64)), (7, .long ((((C (f1 1).toNatClampNeg) 1) - ((C (f1 0).toNatClampNeg) 1)).toInt64)), (5, .long ((((C (f1 1).toNatClampNeg) 0) - ((C (f1 0).toNatClampNeg) 0)).toInt64)), (4, .ref xq1), (0, .ref h), (1, .ref x1), (2, .int x), (3, .int y)]) hx hb dX2_isIn_97 hl (by decide) rfl (fun ls hl => ?_)
  refine lv_lload hx hb dX2_isIn_99 (lv_at hl 1 rfl) ?_
  refine lv_lload hx hb dX2_isIn_101 (lv_at hl 4 rfl) ?_
  refine lv_lload hx hb dX2_isIn_103 (lv_at hl 4 rfl) ?_
  refine lv_lmul hx hb dX2_isIn_105 ?_
  refine lv_lload hx hb dX2_isIn_106 (lv_at hl 3 rfl) ?_
  refine lv_lload hx hb dX2_isIn_108 (lv_at hl 3 rfl) ?_
  refine lv_lmul hx hb dX2_isIn_110 ?_
  refine lv_ladd hx hb dX2_isIn_111 ?_
  refine lv_lmul hx hb dX2_isIn_112 ?_
  refine lv_lload hx hb dX2_isIn_113 (lv_at hl 3 rfl) ?_
  refine lv_lload hx hb dX2_isIn_115 (lv_at hl 2 rfl) ?_
  refine lv_lload hx hb dX2_isIn_117 (lv_at hl 2 rfl) ?_
  refine lv_lmul hx hb dX2_isIn_119 ?_
  refine lv_lload hx hb dX2_isIn_120 (lv_at hl 1 rfl) ?_
  refine lv_lload hx hb dX2_isIn_122 (lv_at hl 1 rfl) ?_
  refine lv_lmul hx hb dX2_isIn_124 ?_
  refine lv_ladd hx hb dX2_isIn_125 ?_
  refine lv_lmul hx hb dX2_isIn_126 ?_
  refine lv_lsub hx hb dX2_isIn_127 ?_
  refine lv_lstore (lv' := [(15, .long ((((((C (f1 2).toNatClampNeg) 1) - ((C (f1 0).toNatClampNeg) 1)).toInt64) * ((((((C (f1 1).toNatClampNeg) 0) - ((C (f1 0).toNatClampNeg) 0)).toInt64) * ((((C (f1 1).toNatClampNeg) 0) - ((C (f1 0).toNatClampNeg) 0)).toInt64)) + (((((C (f1 1).toNatClampNeg) 1) - ((C (f1 0).toNatClampNeg) 1)).toInt64) * ((((C (f1 1).toNatClampNeg) 1) - ((C (f1 0).toNatClampNeg) 1)).toInt64)))) - (((((C (f1 1).toNatClampNeg) 1) - ((C (f1 0).toNatClampNeg) 1)).toInt64) * ((((((C (f1 2).toNatClampNeg) 0) - ((C (f1 0).toNatClampNeg) 0)).toInt64) * ((((C (f1 2).toNatClampNeg) 0) - ((C (f1 0).toNatClampNeg) 0)).toInt64)) + (((((C (f1 2).toNatClampNeg) 1) - ((C (f1 0).toNatClampNeg) 1)).toInt64) * ((((C (f1 2).toNatClampNeg) 1) - ((C (f1 0).toNatClampNeg) 1)).toInt64)))))), (13, .long (2 * ((((((C (f1 1).toNatClampNeg) 0) - ((C (f1 0).toNatClampNeg) 0)).toInt64) * ((((C (f1 2).toNatClampNeg) 1) - ((C (f1 0).toNatClampNeg) 1)).toInt64)) - (((((C (f1 1).toNatClampNeg) 1) - ((C (f1 0).toNatClampNeg) 1)).toInt64) * ((((C (f1 2).toNatClampNeg) 0) - ((C (f1 0).toNatClampNeg) 0)).toInt64))))), (11, .long ((((C (f1 2).toNatClampNeg) 1) - ((C (f1 0).toNatClampNeg) 1)).toInt64)), (9, .long ((((C (f1 2).toNatClampNeg) 0) - ((C (f1 0).toNatClampNeg) 0)).toInt64)), (7, .long ((((C (f1 1).toNatClampNeg) 1) - ((C (f1 0).toNatClampNeg) 1)).toInt64)), (5, .long ((((C (f1 1).toNatClampNeg) 0) - ((C (f1 0).toNatClampNeg) 0)).toInt64)), (4, .ref xq1), (0, .ref h), (1, .ref x1), (2, .int x), (3, .int y)]) hx hb dX2_isIn_128 hl (by decide) rfl (fun ls hl => ?_)
  refine lv_lload hx hb dX2_isIn_130 (lv_at hl 5 rfl) ?_
  refine lv_lload hx hb dX2_isIn_132 (lv_at hl 3 rfl) ?_
  refine lv_lload hx hb dX2_isIn_134 (lv_at hl 3 rfl) ?_
  refine lv_lmul hx hb dX2_isIn_136 ?_
  refine lv_lload hx hb dX2_isIn_137 (lv_at hl 2 rfl) ?_
  refine lv_lload hx hb dX2_isIn_139 (lv_at hl 2 rfl) ?_
  refine lv_lmul hx hb dX2_isIn_141 ?_
  refine lv_ladd hx hb dX2_isIn_142 ?_
  refine lv_lmul hx hb dX2_isIn_143 ?_
  refine lv_lload hx hb dX2_isIn_144 (lv_at hl 3 rfl) ?_
  refine lv_lload hx hb dX2_isIn_146 (lv_at hl 5 rfl) ?_
  refine lv_lload hx hb dX2_isIn_148 (lv_at hl 5 rfl) ?_
  refine lv_lmul hx hb dX2_isIn_150 ?_
  refine lv_lload hx hb dX2_isIn_151 (lv_at hl 4 rfl) ?_
  refine lv_lload hx hb dX2_isIn_153 (lv_at hl 4 rfl) ?_
  refine lv_lmul hx hb dX2_isIn_155 ?_
  refine lv_ladd hx hb dX2_isIn_156 ?_
  refine lv_lmul hx hb dX2_isIn_157 ?_
  refine lv_lsub hx hb dX2_isIn_158 ?_
  refine lv_lstore (lv' := [(17, .long ((((((C (f1 1).toNatClampNeg) 0) - ((C (f1 0).toNatClampNeg) 0)).toInt64) * ((((((C (f1 2).toNatClampNeg) 0) - ((C (f1 0).toNatClampNeg) 0)).toInt64) * ((((C (f1 2).toNatClampNeg) 0) - ((C (f1 0).toNatClampNeg) 0)).toInt64)) + (((((C (f1 2).toNatClampNeg) 1) - ((C (f1 0).toNatClampNeg) 1)).toInt64) * ((((C (f1 2).toNatClampNeg) 1) - ((C (f1 0).toNatClampNeg) 1)).toInt64)))) - (((((C (f1 2).toNatClampNeg) 0) - ((C (f1 0).toNatClampNeg) 0)).toInt64) * ((((((C (f1 1).toNatClampNeg) 0) - ((C (f1 0).toNatClampNeg) 0)).toInt64) * ((((C (f1 1).toNatClampNeg) 0) - ((C (f1 0).toNatClampNeg) 0)).toInt64)) + (((((C (f1 1).toNatClampNeg) 1) - ((C (f1 0).toNatClampNeg) 1)).toInt64) * ((((C (f1 1).toNatClampNeg) 1) - ((C (f1 0).toNatClampNeg) 1)).toInt64)))))), (15, .long ((((((C (f1 2).toNatClampNeg) 1) - ((C (f1 0).toNatClampNeg) 1)).toInt64) * ((((((C (f1 1).toNatClampNeg) 0) - ((C (f1 0).toNatClampNeg) 0)).toInt64) * ((((C (f1 1).toNatClampNeg) 0) - ((C (f1 0).toNatClampNeg) 0)).toInt64)) + (((((C (f1 1).toNatClampNeg) 1) - ((C (f1 0).toNatClampNeg) 1)).toInt64) * ((((C (f1 1).toNatClampNeg) 1) - ((C (f1 0).toNatClampNeg) 1)).toInt64)))) - (((((C (f1 1).toNatClampNeg) 1) - ((C (f1 0).toNatClampNeg) 1)).toInt64) * ((((((C (f1 2).toNatClampNeg) 0) - ((C (f1 0).toNatClampNeg) 0)).toInt64) * ((((C (f1 2).toNatClampNeg) 0) - ((C (f1 0).toNatClampNeg) 0)).toInt64)) + (((((C (f1 2).toNatClampNeg) 1) - ((C (f1 0).toNatClampNeg) 1)).toInt64) * ((((C (f1 2).toNatClampNeg) 1) - ((C (f1 0).toNatClampNeg) 1)).toInt64)))))), (13, .long (2 * ((((((C (f1 1).toNatClampNeg) 0) - ((C (f1 0).toNatClampNeg) 0)).toInt64) * ((((C (f1 2).toNatClampNeg) 1) - ((C (f1 0).toNatClampNeg) 1)).toInt64)) - (((((C (f1 1).toNatClampNeg) 1) - ((C (f1 0).toNatClampNeg) 1)).toInt64) * ((((C (f1 2).toNatClampNeg) 0) - ((C (f1 0).toNatClampNeg) 0)).toInt64))))), (11, .long ((((C (f1 2).toNatClampNeg) 1) - ((C (f1 0).toNatClampNeg) 1)).toInt64)), (9, .long ((((C (f1 2).toNatClampNeg) 0) - ((C (f1 0).toNatClampNeg) 0)).toInt64)), (7, .long ((((C (f1 1).toNatClampNeg) 1) - ((C (f1 0).toNatClampNeg) 1)).toInt64)), (5, .long ((((C (f1 1).toNatClampNeg) 0) - ((C (f1 0).toNatClampNeg) 0)).toInt64)), (4, .ref xq1), (0, .ref h), (1, .ref x1), (2, .int x), (3, .int y)]) hx hb dX2_isIn_159 hl (by decide) rfl (fun ls hl => ?_)
  refine lv_lload hx hb dX2_isIn_161 (lv_at hl 1 rfl) ?_
  refine lv_lload hx hb dX2_isIn_163 (lv_at hl 2 rfl) ?_
  refine lv_iload_n hx hb dX2_isIn_165 rfl (lv_at hl 10 rfl) ?_
  refine lv_aload hx hb dX2_isIn_166 (lv_at hl 7 rfl) ?_
  refine lv_iconst (v := 0) hx hb dX2_isIn_168 (by decide) ?_
  refine sx_iald hx hb hK.1 hr2 ix_0 (by decide) dX2_isIn_169 ?_
  refine lv_isub hx hb dX2_isIn_170 ?_
  refine lv_i2l hx hb dX2_isIn_171 rfl ?_
  refine lv_lmul hx hb dX2_isIn_172 ?_
  refine lv_lsub hx hb dX2_isIn_173 ?_
  refine lv_lstore (lv' := [(19, .long (((((((C (f1 2).toNatClampNeg) 1) - ((C (f1 0).toNatClampNeg) 1)).toInt64) * ((((((C (f1 1).toNatClampNeg) 0) - ((C (f1 0).toNatClampNeg) 0)).toInt64) * ((((C (f1 1).toNatClampNeg) 0) - ((C (f1 0).toNatClampNeg) 0)).toInt64)) + (((((C (f1 1).toNatClampNeg) 1) - ((C (f1 0).toNatClampNeg) 1)).toInt64) * ((((C (f1 1).toNatClampNeg) 1) - ((C (f1 0).toNatClampNeg) 1)).toInt64)))) - (((((C (f1 1).toNatClampNeg) 1) - ((C (f1 0).toNatClampNeg) 1)).toInt64) * ((((((C (f1 2).toNatClampNeg) 0) - ((C (f1 0).toNatClampNeg) 0)).toInt64) * ((((C (f1 2).toNatClampNeg) 0) - ((C (f1 0).toNatClampNeg) 0)).toInt64)) + (((((C (f1 2).toNatClampNeg) 1) - ((C (f1 0).toNatClampNeg) 1)).toInt64) * ((((C (f1 2).toNatClampNeg) 1) - ((C (f1 0).toNatClampNeg) 1)).toInt64))))) - ((2 * ((((((C (f1 1).toNatClampNeg) 0) - ((C (f1 0).toNatClampNeg) 0)).toInt64) * ((((C (f1 2).toNatClampNeg) 1) - ((C (f1 0).toNatClampNeg) 1)).toInt64)) - (((((C (f1 1).toNatClampNeg) 1) - ((C (f1 0).toNatClampNeg) 1)).toInt64) * ((((C (f1 2).toNatClampNeg) 0) - ((C (f1 0).toNatClampNeg) 0)).toInt64)))) * ((x - ((C (f1 0).toNatClampNeg) 0)).toInt64)))), (17, .long ((((((C (f1 1).toNatClampNeg) 0) - ((C (f1 0).toNatClampNeg) 0)).toInt64) * ((((((C (f1 2).toNatClampNeg) 0) - ((C (f1 0).toNatClampNeg) 0)).toInt64) * ((((C (f1 2).toNatClampNeg) 0) - ((C (f1 0).toNatClampNeg) 0)).toInt64)) + (((((C (f1 2).toNatClampNeg) 1) - ((C (f1 0).toNatClampNeg) 1)).toInt64) * ((((C (f1 2).toNatClampNeg) 1) - ((C (f1 0).toNatClampNeg) 1)).toInt64)))) - (((((C (f1 2).toNatClampNeg) 0) - ((C (f1 0).toNatClampNeg) 0)).toInt64) * ((((((C (f1 1).toNatClampNeg) 0) - ((C (f1 0).toNatClampNeg) 0)).toInt64) * ((((C (f1 1).toNatClampNeg) 0) - ((C (f1 0).toNatClampNeg) 0)).toInt64)) + (((((C (f1 1).toNatClampNeg) 1) - ((C (f1 0).toNatClampNeg) 1)).toInt64) * ((((C (f1 1).toNatClampNeg) 1) - ((C (f1 0).toNatClampNeg) 1)).toInt64)))))), (15, .long ((((((C (f1 2).toNatClampNeg) 1) - ((C (f1 0).toNatClampNeg) 1)).toInt64) * ((((((C (f1 1).toNatClampNeg) 0) - ((C (f1 0).toNatClampNeg) 0)).toInt64) * ((((C (f1 1).toNatClampNeg) 0) - ((C (f1 0).toNatClampNeg) 0)).toInt64)) + (((((C (f1 1).toNatClampNeg) 1) - ((C (f1 0).toNatClampNeg) 1)).toInt64) * ((((C (f1 1).toNatClampNeg) 1) - ((C (f1 0).toNatClampNeg) 1)).toInt64)))) - (((((C (f1 1).toNatClampNeg) 1) - ((C (f1 0).toNatClampNeg) 1)).toInt64) * ((((((C (f1 2).toNatClampNeg) 0) - ((C (f1 0).toNatClampNeg) 0)).toInt64) * ((((C (f1 2).toNatClampNeg) 0) - ((C (f1 0).toNatClampNeg) 0)).toInt64)) + (((((C (f1 2).toNatClampNeg) 1) - ((C (f1 0).toNatClampNeg) 1)).toInt64) * ((((C (f1 2).toNatClampNeg) 1) - ((C (f1 0).toNatClampNeg) 1)).toInt64)))))), (13, .long (2 * ((((((C (f1 1).toNatClampNeg) 0) - ((C (f1 0).toNatClampNeg) 0)).toInt64) * ((((C (f1 2).toNatClampNeg) 1) - ((C (f1 0).toNatClampNeg) 1)).toInt64)) - (((((C (f1 1).toNatClampNeg) 1) - ((C (f1 0).toNatClampNeg) 1)).toInt64) * ((((C (f1 2).toNatClampNeg) 0) - ((C (f1 0).toNatClampNeg) 0)).toInt64))))), (11, .long ((((C (f1 2).toNatClampNeg) 1) - ((C (f1 0).toNatClampNeg) 1)).toInt64)), (9, .long ((((C (f1 2).toNatClampNeg) 0) - ((C (f1 0).toNatClampNeg) 0)).toInt64)), (7, .long ((((C (f1 1).toNatClampNeg) 1) - ((C (f1 0).toNatClampNeg) 1)).toInt64)), (5, .long ((((C (f1 1).toNatClampNeg) 0) - ((C (f1 0).toNatClampNeg) 0)).toInt64)), (4, .ref xq1), (0, .ref h), (1, .ref x1), (2, .int x), (3, .int y)]) hx hb dX2_isIn_174 hl (by decide) rfl (fun ls hl => ?_)
  refine lv_lload hx hb dX2_isIn_176 (lv_at hl 1 rfl) ?_
  refine lv_lload hx hb dX2_isIn_178 (lv_at hl 3 rfl) ?_
  refine lv_iload_n hx hb dX2_isIn_180 rfl (lv_at hl 12 rfl) ?_
  refine lv_aload hx hb dX2_isIn_181 (lv_at hl 8 rfl) ?_
  refine lv_iconst (v := 1) hx hb dX2_isIn_183 (by decide) ?_
  refine sx_iald hx hb hK.1 hr2 ix_1 (by decide) dX2_isIn_184 ?_
  refine lv_isub hx hb dX2_isIn_185 ?_
  refine lv_i2l hx hb dX2_isIn_186 rfl ?_
  refine lv_lmul hx hb dX2_isIn_187 ?_
  refine lv_lsub hx hb dX2_isIn_188 ?_
  refine lv_lstore (lv' := [(21, .long (((((((C (f1 1).toNatClampNeg) 0) - ((C (f1 0).toNatClampNeg) 0)).toInt64) * ((((((C (f1 2).toNatClampNeg) 0) - ((C (f1 0).toNatClampNeg) 0)).toInt64) * ((((C (f1 2).toNatClampNeg) 0) - ((C (f1 0).toNatClampNeg) 0)).toInt64)) + (((((C (f1 2).toNatClampNeg) 1) - ((C (f1 0).toNatClampNeg) 1)).toInt64) * ((((C (f1 2).toNatClampNeg) 1) - ((C (f1 0).toNatClampNeg) 1)).toInt64)))) - (((((C (f1 2).toNatClampNeg) 0) - ((C (f1 0).toNatClampNeg) 0)).toInt64) * ((((((C (f1 1).toNatClampNeg) 0) - ((C (f1 0).toNatClampNeg) 0)).toInt64) * ((((C (f1 1).toNatClampNeg) 0) - ((C (f1 0).toNatClampNeg) 0)).toInt64)) + (((((C (f1 1).toNatClampNeg) 1) - ((C (f1 0).toNatClampNeg) 1)).toInt64) * ((((C (f1 1).toNatClampNeg) 1) - ((C (f1 0).toNatClampNeg) 1)).toInt64))))) - ((2 * ((((((C (f1 1).toNatClampNeg) 0) - ((C (f1 0).toNatClampNeg) 0)).toInt64) * ((((C (f1 2).toNatClampNeg) 1) - ((C (f1 0).toNatClampNeg) 1)).toInt64)) - (((((C (f1 1).toNatClampNeg) 1) - ((C (f1 0).toNatClampNeg) 1)).toInt64) * ((((C (f1 2).toNatClampNeg) 0) - ((C (f1 0).toNatClampNeg) 0)).toInt64)))) * ((y - ((C (f1 0).toNatClampNeg) 1)).toInt64)))), (19, .long (((((((C (f1 2).toNatClampNeg) 1) - ((C (f1 0).toNatClampNeg) 1)).toInt64) * ((((((C (f1 1).toNatClampNeg) 0) - ((C (f1 0).toNatClampNeg) 0)).toInt64) * ((((C (f1 1).toNatClampNeg) 0) - ((C (f1 0).toNatClampNeg) 0)).toInt64)) + (((((C (f1 1).toNatClampNeg) 1) - ((C (f1 0).toNatClampNeg) 1)).toInt64) * ((((C (f1 1).toNatClampNeg) 1) - ((C (f1 0).toNatClampNeg) 1)).toInt64)))) - (((((C (f1 1).toNatClampNeg) 1) - ((C (f1 0).toNatClampNeg) 1)).toInt64) * ((((((C (f1 2).toNatClampNeg) 0) - ((C (f1 0).toNatClampNeg) 0)).toInt64) * ((((C (f1 2).toNatClampNeg) 0) - ((C (f1 0).toNatClampNeg) 0)).toInt64)) + (((((C (f1 2).toNatClampNeg) 1) - ((C (f1 0).toNatClampNeg) 1)).toInt64) * ((((C (f1 2).toNatClampNeg) 1) - ((C (f1 0).toNatClampNeg) 1)).toInt64))))) - ((2 * ((((((C (f1 1).toNatClampNeg) 0) - ((C (f1 0).toNatClampNeg) 0)).toInt64) * ((((C (f1 2).toNatClampNeg) 1) - ((C (f1 0).toNatClampNeg) 1)).toInt64)) - (((((C (f1 1).toNatClampNeg) 1) - ((C (f1 0).toNatClampNeg) 1)).toInt64) * ((((C (f1 2).toNatClampNeg) 0) - ((C (f1 0).toNatClampNeg) 0)).toInt64)))) * ((x - ((C (f1 0).toNatClampNeg) 0)).toInt64)))), (17, .long ((((((C (f1 1).toNatClampNeg) 0) - ((C (f1 0).toNatClampNeg) 0)).toInt64) * ((((((C (f1 2).toNatClampNeg) 0) - ((C (f1 0).toNatClampNeg) 0)).toInt64) * ((((C (f1 2).toNatClampNeg) 0) - ((C (f1 0).toNatClampNeg) 0)).toInt64)) + (((((C (f1 2).toNatClampNeg) 1) - ((C (f1 0).toNatClampNeg) 1)).toInt64) * ((((C (f1 2).toNatClampNeg) 1) - ((C (f1 0).toNatClampNeg) 1)).toInt64)))) - (((((C (f1 2).toNatClampNeg) 0) - ((C (f1 0).toNatClampNeg) 0)).toInt64) * ((((((C (f1 1).toNatClampNeg) 0) - ((C (f1 0).toNatClampNeg) 0)).toInt64) * ((((C (f1 1).toNatClampNeg) 0) - ((C (f1 0).toNatClampNeg) 0)).toInt64)) + (((((C (f1 1).toNatClampNeg) 1) - ((C (f1 0).toNatClampNeg) 1)).toInt64) * ((((C (f1 1).toNatClampNeg) 1) - ((C (f1 0).toNatClampNeg) 1)).toInt64)))))), (15, .long ((((((C (f1 2).toNatClampNeg) 1) - ((C (f1 0).toNatClampNeg) 1)).toInt64) * ((((((C (f1 1).toNatClampNeg) 0) - ((C (f1 0).toNatClampNeg) 0)).toInt64) * ((((C (f1 1).toNatClampNeg) 0) - ((C (f1 0).toNatClampNeg) 0)).toInt64)) + (((((C (f1 1).toNatClampNeg) 1) - ((C (f1 0).toNatClampNeg) 1)).toInt64) * ((((C (f1 1).toNatClampNeg) 1) - ((C (f1 0).toNatClampNeg) 1)).toInt64)))) - (((((C (f1 1).toNatClampNeg) 1) - ((C (f1 0).toNatClampNeg) 1)).toInt64) * ((((((C (f1 2).toNatClampNeg) 0) - ((C (f1 0).toNatClampNeg) 0)).toInt64) * ((((C (f1 2).toNatClampNeg) 0) - ((C (f1 0).toNatClampNeg) 0)).toInt64)) + (((((C (f1 2).toNatClampNeg) 1) - ((C (f1 0).toNatClampNeg) 1)).toInt64) * ((((C (f1 2).toNatClampNeg) 1) - ((C (f1 0).toNatClampNeg) 1)).toInt64)))))), (13, .long (2 * ((((((C (f1 1).toNatClampNeg) 0) - ((C (f1 0).toNatClampNeg) 0)).toInt64) * ((((C (f1 2).toNatClampNeg) 1) - ((C (f1 0).toNatClampNeg) 1)).toInt64)) - (((((C (f1 1).toNatClampNeg) 1) - ((C (f1 0).toNatClampNeg) 1)).toInt64) * ((((C (f1 2).toNatClampNeg) 0) - ((C (f1 0).toNatClampNeg) 0)).toInt64))))), (11, .long ((((C (f1 2).toNatClampNeg) 1) - ((C (f1 0).toNatClampNeg) 1)).toInt64)), (9, .long ((((C (f1 2).toNatClampNeg) 0) - ((C (f1 0).toNatClampNeg) 0)).toInt64)), (7, .long ((((C (f1 1).toNatClampNeg) 1) - ((C (f1 0).toNatClampNeg) 1)).toInt64)), (5, .long ((((C (f1 1).toNatClampNeg) 0) - ((C (f1 0).toNatClampNeg) 0)).toInt64)), (4, .ref xq1), (0, .ref h), (1, .ref x1), (2, .int x), (3, .int y)]) hx hb dX2_isIn_189 hl (by decide) rfl (fun ls hl => ?_)
  refine lv_lload hx hb dX2_isIn_191 (lv_at hl 1 rfl) ?_
  refine lv_lload hx hb dX2_isIn_193 (lv_at hl 1 rfl) ?_
  refine lv_lmul hx hb dX2_isIn_195 ?_
  refine lv_lload hx hb dX2_isIn_196 (lv_at hl 0 rfl) ?_
  refine lv_lload hx hb dX2_isIn_198 (lv_at hl 0 rfl) ?_
  refine lv_lmul hx hb dX2_isIn_200 ?_
  refine lv_ladd hx hb dX2_isIn_201 ?_
  refine lv_lload hx hb dX2_isIn_202 (lv_at hl 3 rfl) ?_
  refine lv_lload hx hb dX2_isIn_204 (lv_at hl 3 rfl) ?_
  refine lv_lmul hx hb dX2_isIn_206 ?_
  refine lv_lload hx hb dX2_isIn_207 (lv_at hl 2 rfl) ?_
  refine lv_lload hx hb dX2_isIn_209 (lv_at hl 2 rfl) ?_
  refine lv_lmul hx hb dX2_isIn_211 ?_
  refine lv_ladd hx hb dX2_isIn_212 ?_
  refine W.lcmp hx hb dX2_isIn_213 ?_
  refine lv_if_ge (tgt := 221) hx hb dX2_isIn_214 (by decide) (fun c_11 => ?_) (fun c_11 => ?_)
  · refine lv_iconst (v := 0) hx hb dX2_isIn_221 (by decide) ?_
    exact rd_zret hx hb hr hlocks (by unfold s_in; exact lcmp_ge c_11) dX2_isIn_222
  · refine lv_iconst (v := 1) hx hb dX2_isIn_217 (by decide) ?_
    refine lv_goto (tgt := 222) hx hb dX2_isIn_218 (by decide) ?_
    exact rd_zret hx hb hr hlocks (by unfold s_in; exact lcmp_lt c_11) dX2_isIn_222
