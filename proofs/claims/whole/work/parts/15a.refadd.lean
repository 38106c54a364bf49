theorem na_X2_split : (Cond.arrayClass .int) ∈ wsX2_split := by decide +kernel
theorem in_X2_split_X2 : ∀ w ∈ wsX20, w ∈ wsX2_split := by decide +kernel
theorem fl_X2_split_28 : (Cond.fieldLink RX2 28 "MoorTrianglesModel" "stays" "[[Z") ∈ wsX2_split := by decide +kernel
theorem fl_X2_split_7 : (Cond.fieldLink RX2 7 "MoorTrianglesModel" "cairns" "I") ∈ wsX2_split := by decide +kernel
set_option maxHeartbeats 4000000 in
set_option maxRecDepth 100000 in
theorem c_X2_split (l : Launch) (dC : Nat → ClassId) (dI : Nat → Nat → Nat) (cI cZ cY : ClassId) (h qx qy qh qt qs : Nat) (rw : Nat → Nat) (th : Int32) (n : Nat) (xs ys hs : Nat → Int32) (t : Nat) (tb : Nat → Int32) (sg : Nat → Nat → Int32) (fl : Int32) (z : Int32) (x : Int32) (y : Int32) (sz : Nat) (hn : n < 17) (hsp : r_okSp z (t, tb, sg)) : Met l yX2_split wsX2_split ({ frames := 3, cells := 1, slots := 3, locals := 102 }) (va_Pc [.ref h, .int z, .int x, .int y] (wrP (dC, dI) (gTY cI cZ cY) (wR cI cZ cY h qx qy qh qt qs rw th n xs ys hs t tb sg fl) sz)) (wrQv (dC, dI) (gTY cI cZ cY) (wR cI cZ cY h qx qy qh qt qs rw th n xs ys hs ((r_split n xs ys z x y (t, tb, sg)).1) ((r_split n xs ys z x y (t, tb, sg)).2.1) ((r_split n xs ys z x y (t, tb, sg)).2.2) fl) (va_A (wR cI cZ cY h qx qy qh qt qs rw th n xs ys hs t tb sg fl) sz)) 1 3 (va_A (wR cI cZ cY h qx qy qh qt qs rw th n xs ys hs t tb sg fl) sz) := by
  refine wr_start (cc := cX2_split) (maxL := 8) (ret := none) (Q0 := wrQv (dC, dI) (gTY cI cZ cY) (wR cI cZ cY h qx qy qh qt qs rw th n xs ys hs ((r_split n xs ys z x y (t, tb, sg)).1) ((r_split n xs ys z x y (t, tb, sg)).2.1) ((r_split n xs ys z x y (t, tb, sg)).2.2) fl)) RX2 (by decide) rfl rfl (Nat.le_of_ble_eq_true rfl) ?_
  intro p e s m below meth c ⟨hx, hb, hr, hml, hown, hts, hlocks, hin⟩ hP hK A hD hA hS ls hl
  have F : CallFix p m c cX2_split 8 s ([.ref h, .int z, .int x, .int y] : List Value).toArray wsX2_split RX2 := ⟨hx, hb, hml, hown, hts⟩
  have hl : lv_has ls 8 [(0, .ref h), (1, .int z), (2, .int x), (3, .int y)] := hl
  obtain ⟨h11, h12, hex, hcf⟩ := hsp
  obtain ⟨u, rfl⟩ : ∃ u, t = u + 1 := ⟨t - 1, by have : 1 ≤ t := h11; omega⟩
  have h12 : u + 1 + 2 ≤ 36 := h12
  have hex : ∃ j, j < u + 1 ∧ tb j = z := hex
  refine lv_iconst (v := 3) hx hb dX2_split_0 (by decide) ?_
  refine rg_newi hx hb (hts _ na_X2_split) hK 0 rfl hP hD hS hA (n := 3) (N' := 3) (by decide) (by rfl) (Nat.le_of_ble_eq_true rfl) (Nat.le_of_ble_eq_true rfl) (Nat.le_of_ble_eq_true rfl) dX2_split_1 (fun q9 H hP hD hS => ?_)
  have hP : va_P (dC, dI) vwCl (wR cI cZ cY h qx qy qh qt qs rw th n xs ys hs (u + 1) tb sg fl ++ [(q9, .inl (cI, 3, .inl (fun _ => 0)))]) H := hP
  have hD : va_D A (wR cI cZ cY h qx qy qh qt qs rw th n xs ys hs (u + 1) tb sg fl ++ [(q9, .inl (cI, 3, .inl (fun _ => 0)))]) := hD
  refine lv_dup hx hb dX2_split_3 rfl ?_
  refine lv_iconst (v := 0) hx hb dX2_split_4 (by decide) ?_
  refine lv_iload_n hx hb dX2_split_5 rfl (lv_at hl 1 rfl) ?_
  refine lv_bipush (v := 32) hx hb dX2_split_6 (by decide) ?_
  refine lv_idiv hx hb dX2_split_8 (by decide) ?_
  refine lv_bipush (v := 32) hx hb dX2_split_9 (by decide) ?_
  refine lv_idiv hx hb dX2_split_11 (by decide) ?_
  refine va_iast (D := (dC, dI)) hx hb hK hP hD hS 23 0 wR_ex rfl (vp_in_nI (n := 0) (N := 3) (by decide) (by decide)) dX2_split_12 (fun H locs hP hD hS => ?_)
  rw [wR_exset] at hP hD
  have hP : va_P (dC, dI) vwCl (wR cI cZ cY h qx qy qh qt qs rw th n xs ys hs (u + 1) tb sg fl ++ [(q9, .inl (cI, 3, .inl (upd (fun _ => 0) (0 : Int32).toNatClampNeg ((z / 32) / 32))))]) H := hP
  have hD : va_D A (wR cI cZ cY h qx qy qh qt qs rw th n xs ys hs (u + 1) tb sg fl ++ [(q9, .inl (cI, 3, .inl (upd (fun _ => 0) (0 : Int32).toNatClampNeg ((z / 32) / 32))))]) := hD
  refine lv_dup hx hb dX2_split_13 rfl ?_
  refine lv_iconst (v := 1) hx hb dX2_split_14 (by decide) ?_
  refine lv_iload_n hx hb dX2_split_15 rfl (lv_at hl 1 rfl) ?_
  refine lv_bipush (v := 32) hx hb dX2_split_16 (by decide) ?_
  refine lv_idiv hx hb dX2_split_18 (by decide) ?_
  refine lv_bipush (v := 32) hx hb dX2_split_19 (by decide) ?_
  refine lv_irem hx hb dX2_split_21 (by decide) ?_
  refine va_iast (D := (dC, dI)) hx hb hK hP hD hS 23 0 wR_ex rfl (vp_in_nI (n := 1) (N := 3) (by decide) (by decide)) dX2_split_22 (fun H locs hP hD hS => ?_)
  rw [wR_exset] at hP hD
  have hP : va_P (dC, dI) vwCl (wR cI cZ cY h qx qy qh qt qs rw th n xs ys hs (u + 1) tb sg fl ++ [(q9, .inl (cI, 3, .inl (upd (upd (fun _ => 0) (0 : Int32).toNatClampNeg ((z / 32) / 32)) (1 : Int32).toNatClampNeg ((z / 32) - (z / 32) / 32 * 32))))]) H := hP
  have hD : va_D A (wR cI cZ cY h qx qy qh qt qs rw th n xs ys hs (u + 1) tb sg fl ++ [(q9, .inl (cI, 3, .inl (upd (upd (fun _ => 0) (0 : Int32).toNatClampNeg ((z / 32) / 32)) (1 : Int32).toNatClampNeg ((z / 32) - (z / 32) / 32 * 32))))]) := hD
  refine lv_dup hx hb dX2_split_23 rfl ?_
  refine lv_iconst (v := 2) hx hb dX2_split_24 (by decide) ?_
  refine lv_iload_n hx hb dX2_split_25 rfl (lv_at hl 1 rfl) ?_
  refine lv_bipush (v := 32) hx hb dX2_split_26 (by decide) ?_
  refine lv_irem hx hb dX2_split_28 (by decide) ?_
  refine va_iast (D := (dC, dI)) hx hb hK hP hD hS 23 0 wR_ex rfl (vp_in_nI (n := 2) (N := 3) (by decide) (by decide)) dX2_split_29 (fun H locs hP hD hS => ?_)
  rw [wR_exset] at hP hD
  have hP : va_P (dC, dI) vwCl (wR cI cZ cY h qx qy qh qt qs rw th n xs ys hs (u + 1) tb sg fl ++ [(q9, .inl (cI, 3, .inl (upd (upd (upd (fun _ => 0) (0 : Int32).toNatClampNeg ((z / 32) / 32)) (1 : Int32).toNatClampNeg ((z / 32) - (z / 32) / 32 * 32)) (2 : Int32).toNatClampNeg (z - z / 32 * 32))))]) H := hP
  have hD : va_D A (wR cI cZ cY h qx qy qh qt qs rw th n xs ys hs (u + 1) tb sg fl ++ [(q9, .inl (cI, 3, .inl (upd (upd (upd (fun _ => 0) (0 : Int32).toNatClampNeg ((z / 32) / 32)) (1 : Int32).toNatClampNeg ((z / 32) - (z / 32) / 32 * 32)) (2 : Int32).toNatClampNeg (z - z / 32 * 32))))]) := hD
  have hP : va_P (dC, dI) vwCl (wR cI cZ cY h qx qy qh qt qs rw th n xs ys hs (u + 1) tb sg fl ++ [(q9, .inl (cI, 3, .inl (r_cf z)))]) H := hP
  have hD : va_D A (wR cI cZ cY h qx qy qh qt qs rw th n xs ys hs (u + 1) tb sg fl ++ [(q9, .inl (cI, 3, .inl (r_cf z)))]) := hD
  refine lv_astore (lv' := [(4, .ref q9), (0, .ref h), (1, .int z), (2, .int x), (3, .int y)]) hx hb dX2_split_30 hl (by decide) rfl (fun ls hl => ?_)
  refine lv_aload_n hx hb dX2_split_32 rfl (lv_at hl 1 rfl) ?_
  refine lv_iload_n hx hb dX2_split_33 rfl (lv_at hl 2 rfl) ?_
  refine wx_cVvE (As := [.int z]) (rest := []) F (c_X2_takeOut l dC dI cI cZ cY h qx qy qh qt qs rw th n xs ys hs (u + 1) tb sg fl z H.size u (r_pos (u + 1) tb z) (by omega) (Nat.lt_succ_iff.mp (r_pos_spec hex).1) (r_pos_spec hex).2.1 (r_pos_spec hex).2.2) (cwV 1 hts gX2_split_X2_takeOut rfl rfl rfl hd_X2_takeOut ⟨Nat.le_of_ble_eq_true rfl, Nat.le_of_ble_eq_true rfl⟩) hP hK hD hS hA (va_recv hK hP (ci := 2) (q0 := 0) rfl rfl) rfl hl.1 rfl (lv_room (Nat.le_of_ble_eq_true rfl)) dX2_split_34 ⟨Nat.le_of_ble_eq_true rfl, Nat.le_of_ble_eq_true rfl⟩ (fun H locs hP hD hS => ?_)
  have hP : va_P (dC, dI) vwCl (wR cI cZ cY h qx qy qh qt qs rw th n xs ys hs u (r_take u (r_pos (u + 1) tb z) tb) sg fl ++ [(q9, .inl (cI, 3, .inl (r_cf z)))]) H := hP
  have hD : va_D A (wR cI cZ cY h qx qy qh qt qs rw th n xs ys hs u (r_take u (r_pos (u + 1) tb z) tb) sg fl ++ [(q9, .inl (cI, 3, .inl (r_cf z)))]) := hD
  refine lv_iconst (v := 0) hx hb dX2_split_37 (by decide) ?_
  refine lv_istore (lv' := [(5, .int 0), (4, .ref q9), (0, .ref h), (1, .int z), (2, .int x), (3, .int y)]) hx hb dX2_split_38 hl (by decide) rfl (fun ls hl => ?_)
  have hL40 : ∀ (k_1 : Nat) (k : Nat), (3 - k) < k_1 → (k ≤ 3) → ∀ ls : Array Slot, lv_has ls 8 [(5, .int (nI k)), (4, .ref q9), (0, .ref h), (1, .int z), (2, .int x), (3, .int y)] → ∀ (H : Heap) (locs : List Loc), va_P (dC, dI) vwCl (wR cI cZ cY h qx qy qh qt qs rw th n xs ys hs ((r_spK n xs ys x y (r_cf z) (u, r_take u (r_pos (u + 1) tb z) tb, sg) k).1) ((r_spK n xs ys x y (r_cf z) (u, r_take u (r_pos (u + 1) tb z) tb, sg) k).2.1) ((r_spK n xs ys x y (r_cf z) (u, r_take u (r_pos (u + 1) tb z) tb, sg) k).2.2) fl ++ [(q9, .inl (cI, 3, .inl (r_cf z)))]) H → va_D A (wR cI cZ cY h qx qy qh qt qs rw th n xs ys hs ((r_spK n xs ys x y (r_cf z) (u, r_take u (r_pos (u + 1) tb z) tb, sg) k).1) ((r_spK n xs ys x y (r_cf z) (u, r_take u (r_pos (u + 1) tb z) tb, sg) k).2.1) ((r_spK n xs ys x y (r_cf z) (u, r_take u (r_pos (u + 1) tb z) tb, sg) k).2.2) fl ++ [(q9, .inl (cI, 3, .inl (r_cf z)))]) → va_S A s.heap H locs → W p l e ({ frames := 3, cells := 1, slots := 3, locals := 102 } : Room) s m ([.ref h, .int z, .int x, .int y] : List Value).toArray below meth c H locs (0 + 1) (0 + 3) (MQ below (wrQv (dC, dI) (gTY cI cZ cY) (wR cI cZ cY h qx qy qh qt qs rw th n xs ys hs ((r_split n xs ys z x y ((u + 1), tb, sg)).1) ((r_split n xs ys z x y ((u + 1), tb, sg)).2.1) ((r_split n xs ys z x y ((u + 1), tb, sg)).2.2) fl) A) ([.ref h, .int z, .int x, .int y] : List Value).toArray s 1 3 A) (F0 m 40 ls []) := by
    intro k_1
    induction k_1 with
    | zero => intro k hk; exact absurd hk (Nat.not_lt_zero _)
    | succ k_1 ih_2 =>
      intro k hk_40 hi_k ls hl H locs hP hD hS
      refine lv_iload hx hb dX2_split_40 (lv_at hl 0 rfl) ?_
      refine lv_iconst (v := 3) hx hb dX2_split_42 (by decide) ?_
      refine lv_icmp_ge (tgt := 133) hx hb dX2_split_43 (by decide) (fun c_3 => ?_) (fun c_3 => ?_)
      · have hge_k : 3 ≤ k := nI_le_le (by omega) (by omega) c_3
        have heq_k : k = 3 := by omega
        have hl : lv_has ls 8 [(5, .int (nI 3)), (4, .ref q9), (0, .ref h), (1, .int z), (2, .int x), (3, .int y)] := by rw [heq_k] at hl; exact hl
        have hP : va_P (dC, dI) vwCl (wR cI cZ cY h qx qy qh qt qs rw th n xs ys hs ((r_spK n xs ys x y (r_cf z) (u, r_take u (r_pos (u + 1) tb z) tb, sg) 3).1) ((r_spK n xs ys x y (r_cf z) (u, r_take u (r_pos (u + 1) tb z) tb, sg) 3).2.1) ((r_spK n xs ys x y (r_cf z) (u, r_take u (r_pos (u + 1) tb z) tb, sg) 3).2.2) fl ++ [(q9, .inl (cI, 3, .inl (r_cf z)))]) H := by rw [heq_k] at hP; exact hP
        have hD : va_D A (wR cI cZ cY h qx qy qh qt qs rw th n xs ys hs ((r_spK n xs ys x y (r_cf z) (u, r_take u (r_pos (u + 1) tb z) tb, sg) 3).1) ((r_spK n xs ys x y (r_cf z) (u, r_take u (r_pos (u + 1) tb z) tb, sg) 3).2.1) ((r_spK n xs ys x y (r_cf z) (u, r_take u (r_pos (u + 1) tb z) tb, sg) 3).2.2) fl ++ [(q9, .inl (cI, 3, .inl (r_cf z)))]) := by rw [heq_k] at hD; exact hD
        have hP : va_P (dC, dI) vwCl (wR cI cZ cY h qx qy qh qt qs rw th n xs ys hs ((r_spK n xs ys x y (r_cf z) (u, r_take u (r_pos (u + 1) tb z) tb, sg) 3).1) ((r_spK n xs ys x y (r_cf z) (u, r_take u (r_pos (u + 1) tb z) tb, sg) 3).2.1) ((r_spK n xs ys x y (r_cf z) (u, r_take u (r_pos (u + 1) tb z) tb, sg) 3).2.2) fl) H := hP.left
        have hD : va_D A (wR cI cZ cY h qx qy qh qt qs rw th n xs ys hs ((r_spK n xs ys x y (r_cf z) (u, r_take u (r_pos (u + 1) tb z) tb, sg) 3).1) ((r_spK n xs ys x y (r_cf z) (u, r_take u (r_pos (u + 1) tb z) tb, sg) 3).2.1) ((r_spK n xs ys x y (r_cf z) (u, r_take u (r_pos (u + 1) tb z) tb, sg) 3).2.2) fl) := hD.left
        have e_t : ((r_split n xs ys z x y ((u + 1), tb, sg)).1 : Nat) = (r_spK n xs ys x y (r_cf z) (u, r_take u (r_pos (u + 1) tb z) tb, sg) 3).1 := by rfl
        have e_tb : ((r_split n xs ys z x y ((u + 1), tb, sg)).2.1 : Nat → Int32) = (r_spK n xs ys x y (r_cf z) (u, r_take u (r_pos (u + 1) tb z) tb, sg) 3).2.1 := by rfl
        have e_sg : ((r_split n xs ys z x y ((u + 1), tb, sg)).2.2 : Nat → Nat → Int32) = (r_spK n xs ys x y (r_cf z) (u, r_take u (r_pos (u + 1) tb z) tb, sg) 3).2.2 := by rfl
        have hP : va_P (dC, dI) vwCl (wR cI cZ cY h qx qy qh qt qs rw th n xs ys hs ((r_split n xs ys z x y ((u + 1), tb, sg)).1) ((r_split n xs ys z x y ((u + 1), tb, sg)).2.1) ((r_split n xs ys z x y ((u + 1), tb, sg)).2.2) fl) H := by rw [e_t, e_tb, e_sg]; exact hP
        have hD : va_D A (wR cI cZ cY h qx qy qh qt qs rw th n xs ys hs ((r_split n xs ys z x y ((u + 1), tb, sg)).1) ((r_split n xs ys z x y ((u + 1), tb, sg)).2.1) ((r_split n xs ys z x y ((u + 1), tb, sg)).2.2) fl) := by rw [e_t, e_tb, e_sg]; exact hD
        exact wr_vret hx hb hr hlocks hP hK hD hS dX2_split_133
      · have hlt_k : k < 3 := nI_nle_lt (by omega) (by omega) c_3
        refine lv_aload hx hb dX2_split_46 (lv_at hl 1 rfl) ?_
        refine lv_iload hx hb dX2_split_48 (lv_at hl 0 rfl) ?_
        refine va_iald (D := (dC, dI)) hx hb hK hP 23 0 wR_ex rfl (vp_in_nI (by omega) (by decide)) dX2_split_50 ?_
        refine lv_cvi (congrArg (r_cf z) (nI_clamp (by omega))) ?_
        refine lv_istore (lv' := [(6, .int (r_cf z k)), (5, .int (nI k)), (4, .ref q9), (0, .ref h), (1, .int z), (2, .int x), (3, .int y)]) hx hb dX2_split_51 hl (by decide) rfl (fun ls hl => ?_)
        refine lv_aload hx hb dX2_split_53 (lv_at hl 2 rfl) ?_
        refine lv_iload hx hb dX2_split_55 (lv_at hl 1 rfl) ?_
        refine lv_iconst (v := 1) hx hb dX2_split_57 (by decide) ?_
        refine lv_iadd hx hb dX2_split_58 ?_
        refine lv_iconst (v := 3) hx hb dX2_split_59 (by decide) ?_
        refine lv_irem hx hb dX2_split_60 (by decide) ?_
        refine lv_cvi (nI_mod3 (by omega)) ?_
        refine va_iald (D := (dC, dI)) hx hb hK hP 23 0 wR_ex rfl (vp_in_nI (by omega) (by decide)) dX2_split_61 ?_
        refine lv_cvi (congrArg (r_cf z) (nI_clamp (by omega))) ?_
        refine lv_istore (lv' := [(7, .int (r_cf z ((k + 1) % 3))), (6, .int (r_cf z k)), (5, .int (nI k)), (4, .ref q9), (0, .ref h), (1, .int z), (2, .int x), (3, .int y)]) hx hb dX2_split_62 hl (by decide) rfl (fun ls hl => ?_)
        refine lv_aload_n hx hb dX2_split_64 rfl (lv_at hl 4 rfl) ?_
        refine lv_iload hx hb dX2_split_65 (lv_at hl 1 rfl) ?_
        refine lv_iload hx hb dX2_split_67 (lv_at hl 0 rfl) ?_
        refine lv_iload_n hx hb dX2_split_69 rfl (lv_at hl 6 rfl) ?_
        refine lv_iload_n hx hb dX2_split_70 rfl (lv_at hl 7 rfl) ?_
        refine rd_cVi (As := [.int (r_cf z k), .int (r_cf z ((k + 1) % 3)), .int x, .int y]) (rest := []) F (c_X2_area l dC dI cI cZ cY h qx qy qh qt qs rw th n xs ys hs ((r_spK n xs ys x y (r_cf z) (u, r_take u (r_pos (u + 1) tb z) tb, sg) k).1) ((r_spK n xs ys x y (r_cf z) (u, r_take u (r_pos (u + 1) tb z) tb, sg) k).2.1) ((r_spK n xs ys x y (r_cf z) (u, r_take u (r_pos (u + 1) tb z) tb, sg) k).2.2) fl (r_cf z k) (r_cf z ((k + 1) % 3)) x y (hcf k hlt_k) (hcf _ (by omega))) (cwV 4 hts gX2_split_X2_area rfl rfl rfl hd_X2_area ⟨Nat.le_of_ble_eq_true rfl, Nat.le_of_ble_eq_true rfl⟩) hP.left hK (va_recv hK hP (ci := 2) (q0 := 0) rfl rfl) rfl hl.1 rfl (lv_room (Nat.le_of_ble_eq_true rfl)) dX2_split_71 ⟨Nat.le_of_ble_eq_true rfl, Nat.le_of_ble_eq_true rfl⟩ ?_
        refine lv_if_eq (tgt := 92) hx hb dX2_split_74 (by decide) (fun c_4 => ?_) (fun c_4 => ?_)
        · refine lv_aload_n hx hb dX2_split_92 rfl (lv_at hl 4 rfl) ?_
          refine va_get (D := (dC, dI)) (ci := 2) (v := .ref qs) (C := RX2) (T := TX2) (N := 9) hx hb hts in_X2_split_X2 hown hK hP 0 rfl rfl 7 (by decide) (hts (.fieldLink RX2 28 "MoorTrianglesModel" "stays" "[[Z") fl_X2_split_28) (fun _ h9 => h9) rfl dX2_split_93 ?_
          refine lv_iload hx hb dX2_split_96 (lv_at hl 1 rfl) ?_
          refine rg_aald (D := (dC, dI)) hx hb hK hP 5 2 rfl rfl (hcf k hlt_k) dX2_split_98 ?_
          refine lv_iload hx hb dX2_split_99 (lv_at hl 0 rfl) ?_
          refine va_zald (D := (dC, dI)) hx hb hK hP (6 + (r_cf z k).toNatClampNeg) 1 (wR_rowE (in_lt (hcf k hlt_k))) rfl (hcf _ (by omega)) dX2_split_101 ?_
          refine lv_if_eq (tgt := 127) hx hb dX2_split_102 (by decide) (fun c_5 => ?_) (fun c_5 => ?_)
          · refine lv_iinc (v := nI (k + 1)) (lv' := [(5, .int (nI (k + 1))), (7, .int (r_cf z ((k + 1) % 3))), (6, .int (r_cf z k)), (4, .ref q9), (0, .ref h), (1, .int z), (2, .int x), (3, .int y)]) hx hb dX2_split_127 hl (k := 2) rfl (nI_1 _) (by decide) rfl (fun ls hl => ?_)
            refine lv_goto (tgt := 40) hx hb dX2_split_130 (by decide) ?_
            have hl := lv_sub (l' := [(5, .int (nI (k + 1))), (4, .ref q9), (0, .ref h), (1, .int z), (2, .int x), (3, .int y)]) hl [0, 3, 4, 5, 6, 7] rfl
            have hl : lv_has ls 8 [(5, .int (nI (k + 1))), (4, .ref q9), (0, .ref h), (1, .int z), (2, .int x), (3, .int y)] := by
              have e9 : [(5, .int (nI (k + 1))), (4, .ref q9), (0, .ref h), (1, .int z), (2, .int x), (3, .int y)] = ([(5, .int (nI (k + 1))), (4, .ref q9), (0, .ref h), (1, .int z), (2, .int x), (3, .int y)] : List (Nat × Value)) := by rfl
              rw [← e9]; exact hl
            have e_t : ((r_spK n xs ys x y (r_cf z) (u, r_take u (r_pos (u + 1) tb z) tb, sg) (k + 1)).1 : Nat) = (r_spK n xs ys x y (r_cf z) (u, r_take u (r_pos (u + 1) tb z) tb, sg) k).1 := by show (r_spS n xs ys x y (r_cf z k) (r_cf z ((k + 1) % 3)) (r_spK n xs ys x y (r_cf z) (u, r_take u (r_pos (u + 1) tb z) tb, sg) k)).1 = _; rw [r_spS, if_pos c_4, if_pos c_5]; try rfl
            have e_tb : ((r_spK n xs ys x y (r_cf z) (u, r_take u (r_pos (u + 1) tb z) tb, sg) (k + 1)).2.1 : Nat → Int32) = (r_spK n xs ys x y (r_cf z) (u, r_take u (r_pos (u + 1) tb z) tb, sg) k).2.1 := by show (r_spS n xs ys x y (r_cf z k) (r_cf z ((k + 1) % 3)) (r_spK n xs ys x y (r_cf z) (u, r_take u (r_pos (u + 1) tb z) tb, sg) k)).2.1 = _; rw [r_spS, if_pos c_4, if_pos c_5]; try rfl
            have e_sg : ((r_spK n xs ys x y (r_cf z) (u, r_take u (r_pos (u + 1) tb z) tb, sg) (k + 1)).2.2 : Nat → Nat → Int32) = (r_spK n xs ys x y (r_cf z) (u, r_take u (r_pos (u + 1) tb z) tb, sg) k).2.2 := by show (r_spS n xs ys x y (r_cf z k) (r_cf z ((k + 1) % 3)) (r_spK n xs ys x y (r_cf z) (u, r_take u (r_pos (u + 1) tb z) tb, sg) k)).2.2 = _; rw [r_spS, if_pos c_4, if_pos c_5]; try rfl
            have hP : va_P (dC, dI) vwCl (wR cI cZ cY h qx qy qh qt qs rw th n xs ys hs ((r_spK n xs ys x y (r_cf z) (u, r_take u (r_pos (u + 1) tb z) tb, sg) (k + 1)).1) ((r_spK n xs ys x y (r_cf z) (u, r_take u (r_pos (u + 1) tb z) tb, sg) (k + 1)).2.1) ((r_spK n xs ys x y (r_cf z) (u, r_take u (r_pos (u + 1) tb z) tb, sg) (k + 1)).2.2) fl ++ [(q9, .inl (cI, 3, .inl (r_cf z)))]) H := by rw [e_t, e_tb, e_sg]; exact hP
            have hD : va_D A (wR cI cZ cY h qx qy qh qt qs rw th n xs ys hs ((r_spK n xs ys x y (r_cf z) (u, r_take u (r_pos (u + 1) tb z) tb, sg) (k + 1)).1) ((r_spK n xs ys x y (r_cf z) (u, r_take u (r_pos (u + 1) tb z) tb, sg) (k + 1)).2.1) ((r_spK n xs ys x y (r_cf z) (u, r_take u (r_pos (u + 1) tb z) tb, sg) (k + 1)).2.2) fl ++ [(q9, .inl (cI, 3, .inl (r_cf z)))]) := by rw [e_t, e_tb, e_sg]; exact hD
            exact ih_2 (k + 1) (by omega) (by omega) _ hl _ _ hP hD hS
          · refine lv_aload_n hx hb dX2_split_105 rfl (lv_at hl 4 rfl) ?_
            refine lv_iload hx hb dX2_split_106 (lv_at hl 1 rfl) ?_
            refine lv_aload_n hx hb dX2_split_108 rfl (lv_at hl 4 rfl) ?_
            refine va_get (D := (dC, dI)) (ci := 2) (v := .int (nI n)) (C := RX2) (T := TX2) (N := 9) hx hb hts in_X2_split_X2 hown hK hP 0 rfl rfl 1 (by decide) (hts (.fieldLink RX2 7 "MoorTrianglesModel" "cairns" "I") fl_X2_split_7) (fun _ h9 => h9) rfl dX2_split_109 ?_
            refine lv_iconst (v := 1) hx hb dX2_split_112 (by decide) ?_
            refine wx_cVvE (As := [.int (r_cf z k), .int (nI n), .int 1]) (rest := []) F (c_X2_let l dC dI cI cZ cY h qx qy qh qt qs rw th n xs ys hs ((r_spK n xs ys x y (r_cf z) (u, r_take u (r_pos (u + 1) tb z) tb, sg) k).1) ((r_spK n xs ys x y (r_cf z) (u, r_take u (r_pos (u + 1) tb z) tb, sg) k).2.1) ((r_spK n xs ys x y (r_cf z) (u, r_take u (r_pos (u + 1) tb z) tb, sg) k).2.2) fl (r_cf z k) (nI n) 1 H.size (hcf k hlt_k) (vp_in_nI (by omega) (by decide)) (by rfl)) (cwV 3 hts gX2_split_X2_let rfl rfl rfl hd_X2_let ⟨Nat.le_of_ble_eq_true rfl, Nat.le_of_ble_eq_true rfl⟩) hP hK hD hS hA (va_recv hK hP (ci := 2) (q0 := 0) rfl rfl) rfl hl.1 rfl (lv_room (Nat.le_of_ble_eq_true rfl)) dX2_split_113 ⟨Nat.le_of_ble_eq_true rfl, Nat.le_of_ble_eq_true rfl⟩ (fun H locs hP hD hS => ?_)
            have hP : va_P (dC, dI) vwCl (wR cI cZ cY h qx qy qh qt qs rw th n xs ys hs ((r_spK n xs ys x y (r_cf z) (u, r_take u (r_pos (u + 1) tb z) tb, sg) k).1) ((r_spK n xs ys x y (r_cf z) (u, r_take u (r_pos (u + 1) tb z) tb, sg) k).2.1) (r_let ((r_spK n xs ys x y (r_cf z) (u, r_take u (r_pos (u + 1) tb z) tb, sg) k).2.2) (r_cf z k) (nI n) 1) fl ++ [(q9, .inl (cI, 3, .inl (r_cf z)))]) H := hP
            have hD : va_D A (wR cI cZ cY h qx qy qh qt qs rw th n xs ys hs ((r_spK n xs ys x y (r_cf z) (u, r_take u (r_pos (u + 1) tb z) tb, sg) k).1) ((r_spK n xs ys x y (r_cf z) (u, r_take u (r_pos (u + 1) tb z) tb, sg) k).2.1) (r_let ((r_spK n xs ys x y (r_cf z) (u, r_take u (r_pos (u + 1) tb z) tb, sg) k).2.2) (r_cf z k) (nI n) 1) fl ++ [(q9, .inl (cI, 3, .inl (r_cf z)))]) := hD
            refine lv_aload_n hx hb dX2_split_116 rfl (lv_at hl 4 rfl) ?_
            refine lv_iload hx hb dX2_split_117 (lv_at hl 0 rfl) ?_
            refine lv_aload_n hx hb dX2_split_119 rfl (lv_at hl 4 rfl) ?_
            refine va_get (D := (dC, dI)) (ci := 2) (v := .int (nI n)) (C := RX2) (T := TX2) (N := 9) hx hb hts in_X2_split_X2 hown hK hP 0 rfl rfl 1 (by decide) (hts (.fieldLink RX2 7 "MoorTrianglesModel" "cairns" "I") fl_X2_split_7) (fun _ h9 => h9) rfl dX2_split_120 ?_
            refine lv_iconst (v := 1) hx hb dX2_split_123 (by decide) ?_
            refine wx_cVvE (As := [.int (r_cf z ((k + 1) % 3)), .int (nI n), .int 1]) (rest := []) F (c_X2_let l dC dI cI cZ cY h qx qy qh qt qs rw th n xs ys hs ((r_spK n xs ys x y (r_cf z) (u, r_take u (r_pos (u + 1) tb z) tb, sg) k).1) ((r_spK n xs ys x y (r_cf z) (u, r_take u (r_pos (u + 1) tb z) tb, sg) k).2.1) (r_let ((r_spK n xs ys x y (r_cf z) (u, r_take u (r_pos (u + 1) tb z) tb, sg) k).2.2) (r_cf z k) (nI n) 1) fl (r_cf z ((k + 1) % 3)) (nI n) 1 H.size (hcf _ (by omega)) (vp_in_nI (by omega) (by decide)) (by rfl)) (cwV 3 hts gX2_split_X2_let rfl rfl rfl hd_X2_let ⟨Nat.le_of_ble_eq_true rfl, Nat.le_of_ble_eq_true rfl⟩) hP hK hD hS hA (va_recv hK hP (ci := 2) (q0 := 0) rfl rfl) rfl hl.1 rfl (lv_room (Nat.le_of_ble_eq_true rfl)) dX2_split_124 ⟨Nat.le_of_ble_eq_true rfl, Nat.le_of_ble_eq_true rfl⟩ (fun H locs hP hD hS => ?_)
            have hP : va_P (dC, dI) vwCl (wR cI cZ cY h qx qy qh qt qs rw th n xs ys hs ((r_spK n xs ys x y (r_cf z) (u, r_take u (r_pos (u + 1) tb z) tb, sg) k).1) ((r_spK n xs ys x y (r_cf z) (u, r_take u (r_pos (u + 1) tb z) tb, sg) k).2.1) (r_let (r_let ((r_spK n xs ys x y (r_cf z) (u, r_take u (r_pos (u + 1) tb z) tb, sg) k).2.2) (r_cf z k) (nI n) 1) (r_cf z ((k + 1) % 3)) (nI n) 1) fl ++ [(q9, .inl (cI, 3, .inl (r_cf z)))]) H := hP
            have hD : va_D A (wR cI cZ cY h qx qy qh qt qs rw th n xs ys hs ((r_spK n xs ys x y (r_cf z) (u, r_take u (r_pos (u + 1) tb z) tb, sg) k).1) ((r_spK n xs ys x y (r_cf z) (u, r_take u (r_pos (u + 1) tb z) tb, sg) k).2.1) (r_let (r_let ((r_spK n xs ys x y (r_cf z) (u, r_take u (r_pos (u + 1) tb z) tb, sg) k).2.2) (r_cf z k) (nI n) 1) (r_cf z ((k + 1) % 3)) (nI n) 1) fl ++ [(q9, .inl (cI, 3, .inl (r_cf z)))]) := hD
            refine lv_iinc (v := nI (k + 1)) (lv' := [(5, .int (nI (k + 1))), (7, .int (r_cf z ((k + 1) % 3))), (6, .int (r_cf z k)), (4, .ref q9), (0, .ref h), (1, .int z), (2, .int x), (3, .int y)]) hx hb dX2_split_127 hl (k := 2) rfl (nI_1 _) (by decide) rfl (fun ls hl => ?_)
            refine lv_goto (tgt := 40) hx hb dX2_split_130 (by decide) ?_
            have hl := lv_sub (l' := [(5, .int (nI (k + 1))), (4, .ref q9), (0, .ref h), (1, .int z), (2, .int x), (3, .int y)]) hl [0, 3, 4, 5, 6, 7] rfl
            have hl : lv_has ls 8 [(5, .int (nI (k + 1))), (4, .ref q9), (0, .ref h), (1, .int z), (2, .int x), (3, .int y)] := by
              have e9 : [(5, .int (nI (k + 1))), (4, .ref q9), (0, .ref h), (1, .int z), (2, .int x), (3, .int y)] = ([(5, .int (nI (k + 1))), (4, .ref q9), (0, .ref h), (1, .int z), (2, .int x), (3, .int y)] : List (Nat × Value)) := by rfl
              rw [← e9]; exact hl
            have e_t : ((r_spK n xs ys x y (r_cf z) (u, r_take u (r_pos (u + 1) tb z) tb, sg) (k + 1)).1 : Nat) = ((r_spK n xs ys x y (r_cf z) (u, r_take u (r_pos (u + 1) tb z) tb, sg) k).1) := by show (r_spS n xs ys x y (r_cf z k) (r_cf z ((k + 1) % 3)) (r_spK n xs ys x y (r_cf z) (u, r_take u (r_pos (u + 1) tb z) tb, sg) k)).1 = _; rw [r_spS, if_pos c_4, if_neg c_5]; try rfl
            have e_tb : ((r_spK n xs ys x y (r_cf z) (u, r_take u (r_pos (u + 1) tb z) tb, sg) (k + 1)).2.1 : Nat → Int32) = ((r_spK n xs ys x y (r_cf z) (u, r_take u (r_pos (u + 1) tb z) tb, sg) k).2.1) := by show (r_spS n xs ys x y (r_cf z k) (r_cf z ((k + 1) % 3)) (r_spK n xs ys x y (r_cf z) (u, r_take u (r_pos (u + 1) tb z) tb, sg) k)).2.1 = _; rw [r_spS, if_pos c_4, if_neg c_5]; try rfl
            have e_sg : ((r_spK n xs ys x y (r_cf z) (u, r_take u (r_pos (u + 1) tb z) tb, sg) (k + 1)).2.2 : Nat → Nat → Int32) = r_let (r_let ((r_spK n xs ys x y (r_cf z) (u, r_take u (r_pos (u + 1) tb z) tb, sg) k).2.2) (r_cf z k) (nI n) 1) (r_cf z ((k + 1) % 3)) (nI n) 1 := by show (r_spS n xs ys x y (r_cf z k) (r_cf z ((k + 1) % 3)) (r_spK n xs ys x y (r_cf z) (u, r_take u (r_pos (u + 1) tb z) tb, sg) k)).2.2 = _; rw [r_spS, if_pos c_4, if_neg c_5]; try rfl
            have hP : va_P (dC, dI) vwCl (wR cI cZ cY h qx qy qh qt qs rw th n xs ys hs ((r_spK n xs ys x y (r_cf z) (u, r_take u (r_pos (u + 1) tb z) tb, sg) (k + 1)).1) ((r_spK n xs ys x y (r_cf z) (u, r_take u (r_pos (u + 1) tb z) tb, sg) (k + 1)).2.1) ((r_spK n xs ys x y (r_cf z) (u, r_take u (r_pos (u + 1) tb z) tb, sg) (k + 1)).2.2) fl ++ [(q9, .inl (cI, 3, .inl (r_cf z)))]) H := by rw [e_t, e_tb, e_sg]; exact hP
            have hD : va_D A (wR cI cZ cY h qx qy qh qt qs rw th n xs ys hs ((r_spK n xs ys x y (r_cf z) (u, r_take u (r_pos (u + 1) tb z) tb, sg) (k + 1)).1) ((r_spK n xs ys x y (r_cf z) (u, r_take u (r_pos (u + 1) tb z) tb, sg) (k + 1)).2.1) ((r_spK n xs ys x y (r_cf z) (u, r_take u (r_pos (u + 1) tb z) tb, sg) (k + 1)).2.2) fl ++ [(q9, .inl (cI, 3, .inl (r_cf z)))]) := by rw [e_t, e_tb, e_sg]; exact hD
            exact ih_2 (k + 1) (by omega) (by omega) _ hl _ _ hP hD hS
        · refine lv_aload_n hx hb dX2_split_77 rfl (lv_at hl 4 rfl) ?_
          refine lv_iload hx hb dX2_split_78 (lv_at hl 1 rfl) ?_
          refine lv_iload hx hb dX2_split_80 (lv_at hl 0 rfl) ?_
          refine lv_aload_n hx hb dX2_split_82 rfl (lv_at hl 4 rfl) ?_
          refine va_get (D := (dC, dI)) (ci := 2) (v := .int (nI n)) (C := RX2) (T := TX2) (N := 9) hx hb hts in_X2_split_X2 hown hK hP 0 rfl rfl 1 (by decide) (hts (.fieldLink RX2 7 "MoorTrianglesModel" "cairns" "I") fl_X2_split_7) (fun _ h9 => h9) rfl dX2_split_83 ?_
          refine wx_cVvE (As := [.int (r_cf z k), .int (r_cf z ((k + 1) % 3)), .int (nI n)]) (rest := []) F (c_X2_put l dC dI cI cZ cY h qx qy qh qt qs rw th n xs ys hs ((r_spK n xs ys x y (r_cf z) (u, r_take u (r_pos (u + 1) tb z) tb, sg) k).1) ((r_spK n xs ys x y (r_cf z) (u, r_take u (r_pos (u + 1) tb z) tb, sg) k).2.1) ((r_spK n xs ys x y (r_cf z) (u, r_take u (r_pos (u + 1) tb z) tb, sg) k).2.2) fl (r_cf z k) (r_cf z ((k + 1) % 3)) (nI n) H.size (Nat.lt_of_le_of_lt (r_spK_le k) (by show u + k < 36; omega))) (cwV 3 hts gX2_split_X2_put rfl rfl rfl hd_X2_put ⟨Nat.le_of_ble_eq_true rfl, Nat.le_of_ble_eq_true rfl⟩) hP hK hD hS hA (va_recv hK hP (ci := 2) (q0 := 0) rfl rfl) rfl hl.1 rfl (lv_room (Nat.le_of_ble_eq_true rfl)) dX2_split_86 ⟨Nat.le_of_ble_eq_true rfl, Nat.le_of_ble_eq_true rfl⟩ (fun H locs hP hD hS => ?_)
          have hP : va_P (dC, dI) vwCl (wR cI cZ cY h qx qy qh qt qs rw th n xs ys hs (((r_spK n xs ys x y (r_cf z) (u, r_take u (r_pos (u + 1) tb z) tb, sg) k).1) + 1) (r_put ((r_spK n xs ys x y (r_cf z) (u, r_take u (r_pos (u + 1) tb z) tb, sg) k).1) ((r_spK n xs ys x y (r_cf z) (u, r_take u (r_pos (u + 1) tb z) tb, sg) k).2.1) (r_cf z k) (r_cf z ((k + 1) % 3)) (nI n)) ((r_spK n xs ys x y (r_cf z) (u, r_take u (r_pos (u + 1) tb z) tb, sg) k).2.2) fl ++ [(q9, .inl (cI, 3, .inl (r_cf z)))]) H := hP
          have hD : va_D A (wR cI cZ cY h qx qy qh qt qs rw th n xs ys hs (((r_spK n xs ys x y (r_cf z) (u, r_take u (r_pos (u + 1) tb z) tb, sg) k).1) + 1) (r_put ((r_spK n xs ys x y (r_cf z) (u, r_take u (r_pos (u + 1) tb z) tb, sg) k).1) ((r_spK n xs ys x y (r_cf z) (u, r_take u (r_pos (u + 1) tb z) tb, sg) k).2.1) (r_cf z k) (r_cf z ((k + 1) % 3)) (nI n)) ((r_spK n xs ys x y (r_cf z) (u, r_take u (r_pos (u + 1) tb z) tb, sg) k).2.2) fl ++ [(q9, .inl (cI, 3, .inl (r_cf z)))]) := hD
          refine lv_goto (tgt := 127) hx hb dX2_split_89 (by decide) ?_
          refine lv_iinc (v := nI (k + 1)) (lv' := [(5, .int (nI (k + 1))), (7, .int (r_cf z ((k + 1) % 3))), (6, .int (r_cf z k)), (4, .ref q9), (0, .ref h), (1, .int z), (2, .int x), (3, .int y)]) hx hb dX2_split_127 hl (k := 2) rfl (nI_1 _) (by decide) rfl (fun ls hl => ?_)
          refine lv_goto (tgt := 40) hx hb dX2_split_130 (by decide) ?_
          have hl := lv_sub (l' := [(5, .int (nI (k + 1))), (4, .ref q9), (0, .ref h), (1, .int z), (2, .int x), (3, .int y)]) hl [0, 3, 4, 5, 6, 7] rfl
          have hl : lv_has ls 8 [(5, .int (nI (k + 1))), (4, .ref q9), (0, .ref h), (1, .int z), (2, .int x), (3, .int y)] := by
            have e9 : [(5, .int (nI (k + 1))), (4, .ref q9), (0, .ref h), (1, .int z), (2, .int x), (3, .int y)] = ([(5, .int (nI (k + 1))), (4, .ref q9), (0, .ref h), (1, .int z), (2, .int x), (3, .int y)] : List (Nat × Value)) := by rfl
            rw [← e9]; exact hl
          have e_t : ((r_spK n xs ys x y (r_cf z) (u, r_take u (r_pos (u + 1) tb z) tb, sg) (k + 1)).1 : Nat) = ((r_spK n xs ys x y (r_cf z) (u, r_take u (r_pos (u + 1) tb z) tb, sg) k).1) + 1 := by show (r_spS n xs ys x y (r_cf z k) (r_cf z ((k + 1) % 3)) (r_spK n xs ys x y (r_cf z) (u, r_take u (r_pos (u + 1) tb z) tb, sg) k)).1 = _; rw [r_spS, if_neg c_4]; try rfl
          have e_tb : ((r_spK n xs ys x y (r_cf z) (u, r_take u (r_pos (u + 1) tb z) tb, sg) (k + 1)).2.1 : Nat → Int32) = r_put ((r_spK n xs ys x y (r_cf z) (u, r_take u (r_pos (u + 1) tb z) tb, sg) k).1) ((r_spK n xs ys x y (r_cf z) (u, r_take u (r_pos (u + 1) tb z) tb, sg) k).2.1) (r_cf z k) (r_cf z ((k + 1) % 3)) (nI n) := by show (r_spS n xs ys x y (r_cf z k) (r_cf z ((k + 1) % 3)) (r_spK n xs ys x y (r_cf z) (u, r_take u (r_pos (u + 1) tb z) tb, sg) k)).2.1 = _; rw [r_spS, if_neg c_4]; try rfl
          have e_sg : ((r_spK n xs ys x y (r_cf z) (u, r_take u (r_pos (u + 1) tb z) tb, sg) (k + 1)).2.2 : Nat → Nat → Int32) = ((r_spK n xs ys x y (r_cf z) (u, r_take u (r_pos (u + 1) tb z) tb, sg) k).2.2) := by show (r_spS n xs ys x y (r_cf z k) (r_cf z ((k + 1) % 3)) (r_spK n xs ys x y (r_cf z) (u, r_take u (r_pos (u + 1) tb z) tb, sg) k)).2.2 = _; rw [r_spS, if_neg c_4]; try rfl
          have hP : va_P (dC, dI) vwCl (wR cI cZ cY h qx qy qh qt qs rw th n xs ys hs ((r_spK n xs ys x y (r_cf z) (u, r_take u (r_pos (u + 1) tb z) tb, sg) (k + 1)).1) ((r_spK n xs ys x y (r_cf z) (u, r_take u (r_pos (u + 1) tb z) tb, sg) (k + 1)).2.1) ((r_spK n xs ys x y (r_cf z) (u, r_take u (r_pos (u + 1) tb z) tb, sg) (k + 1)).2.2) fl ++ [(q9, .inl (cI, 3, .inl (r_cf z)))]) H := by rw [e_t, e_tb, e_sg]; exact hP
          have hD : va_D A (wR cI cZ cY h qx qy qh qt qs rw th n xs ys hs ((r_spK n xs ys x y (r_cf z) (u, r_take u (r_pos (u + 1) tb z) tb, sg) (k + 1)).1) ((r_spK n xs ys x y (r_cf z) (u, r_take u (r_pos (u + 1) tb z) tb, sg) (k + 1)).2.1) ((r_spK n xs ys x y (r_cf z) (u, r_take u (r_pos (u + 1) tb z) tb, sg) (k + 1)).2.2) fl ++ [(q9, .inl (cI, 3, .inl (r_cf z)))]) := by rw [e_t, e_tb, e_sg]; exact hD
          exact ih_2 (k + 1) (by omega) (by omega) _ hl _ _ hP hD hS
  have hl := lv_sub (l' := [(5, .int 0), (4, .ref q9), (0, .ref h), (1, .int z), (2, .int x), (3, .int y)]) hl [0, 1, 2, 3, 4, 5] rfl
  have hl : lv_has ls 8 [(5, .int (nI 0)), (4, .ref q9), (0, .ref h), (1, .int z), (2, .int x), (3, .int y)] := by
    have e9 : [(5, .int 0), (4, .ref q9), (0, .ref h), (1, .int z), (2, .int x), (3, .int y)] = ([(5, .int (nI 0)), (4, .ref q9), (0, .ref h), (1, .int z), (2, .int x), (3, .int y)] : List (Nat × Value)) := by rfl
    rw [← e9]; exact hl
  have e_t : ((r_spK n xs ys x y (r_cf z) (u, r_take u (r_pos (u + 1) tb z) tb, sg) 0).1 : Nat) = u := by rfl
  have e_tb : ((r_spK n xs ys x y (r_cf z) (u, r_take u (r_pos (u + 1) tb z) tb, sg) 0).2.1 : Nat → Int32) = r_take u (r_pos (u + 1) tb z) tb := by rfl
  have e_sg : ((r_spK n xs ys x y (r_cf z) (u, r_take u (r_pos (u + 1) tb z) tb, sg) 0).2.2 : Nat → Nat → Int32) = sg := by rfl
  have hP : va_P (dC, dI) vwCl (wR cI cZ cY h qx qy qh qt qs rw th n xs ys hs ((r_spK n xs ys x y (r_cf z) (u, r_take u (r_pos (u + 1) tb z) tb, sg) 0).1) ((r_spK n xs ys x y (r_cf z) (u, r_take u (r_pos (u + 1) tb z) tb, sg) 0).2.1) ((r_spK n xs ys x y (r_cf z) (u, r_take u (r_pos (u + 1) tb z) tb, sg) 0).2.2) fl ++ [(q9, .inl (cI, 3, .inl (r_cf z)))]) H := by rw [e_t, e_tb, e_sg]; exact hP
  have hD : va_D A (wR cI cZ cY h qx qy qh qt qs rw th n xs ys hs ((r_spK n xs ys x y (r_cf z) (u, r_take u (r_pos (u + 1) tb z) tb, sg) 0).1) ((r_spK n xs ys x y (r_cf z) (u, r_take u (r_pos (u + 1) tb z) tb, sg) 0).2.1) ((r_spK n xs ys x y (r_cf z) (u, r_take u (r_pos (u + 1) tb z) tb, sg) 0).2.2) fl ++ [(q9, .inl (cI, 3, .inl (r_cf z)))]) := by rw [e_t, e_tb, e_sg]; exact hD
  exact hL40 _ 0 (Nat.lt_succ_self _) (by omega) _ hl _ _ hP hD hS
theorem hd_X2_add : yX2_add.cls = RX2 ∧ yX2_add.cls ≠ "java/lang/invoke/MethodHandle" ∧ yX2_add.cls ≠ "java/lang/invoke/VarHandle" ∧ (parseMethodDescriptor yX2_add.desc).map (fun d => d.parameters.length) = some 3 := by decide +kernel
