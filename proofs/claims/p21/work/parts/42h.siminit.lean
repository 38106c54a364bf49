/-! the law's own moor: its constructor, by program (gens.py) -/
theorem in_X2_init_X2 : ∀ w ∈ wsX20, w ∈ wsX2_init := by decide +kernel
theorem cl_init : (Cond.classLink RX2 7 "[I") ∈ wsX2_init := by decide +kernel
theorem na_init : (Cond.arrayClass .int) ∈ wsX2_init := by decide +kernel
theorem sO.at0 {D : va_G} {h : Nat} {fs : List Value} {H H1 : Heap} (x : va_at D vwCl (h, .inr (2, fs)) H) (e : hy 0 H H1) : va_at D vwCl (h, .inr (2, fs)) H1 := x.kept (e.2 h (Nat.zero_le _) x.lt)
set_option maxHeartbeats 4000000 in
set_option maxRecDepth 100000 in
theorem c_X2_init (l : Launch) (dC : Nat → ClassId) (dI : Nat → Nat → Nat) (cI cZ cY : ClassId) (h : Nat) (sz : Nat) : Met l yX2_init wsX2_init ({ frames := 1, cells := 9, slots := 24, locals := 32 }) (va_Pc [.ref h] (sPz (dC, dI) cI cZ cY (fun H => va_at (dC, dI) vwCl (h, .inr (2, [.null, .null, .null, .int 0])) H) sz)) (sQv (sM (dC, dI) cI cY h 4 s_C0 2 s_T0 0 (fun _ _ => 0) 0) (aH h sz)) 9 24 (aH h sz) := by
  refine sa_start (cc := cX2_init) (maxL := 1) (ret := none) (Q0 := sQv (sM (dC, dI) cI cY h 4 s_C0 2 s_T0 0 (fun _ _ => 0) 0)) (aH h) (aH_ok h) RX2 (by decide) rfl rfl (Nat.le_of_ble_eq_true rfl) ?_
  intro p e s m below meth c ⟨hx, hb, hr, hml, hown, hts, hlocks, hini⟩ hO hK A hAe hA hS ls hl
  have hAh : A h := by rw [hAe]; exact Or.inl rfl
  have hl : lv_has ls 1 [(0, .ref h)] := hl
  refine lv_aload_n hx hb dX2_init_0 rfl (lv_at hl 0 rfl) ?_
  refine W.objInit hx hb hown (hts (.methodLink RX2 1 objectInit) (by decide +kernel)) (hts (.instanceMethod objectInit) (by decide +kernel)) (hts (.code objectInit ⟨#[0xb1]⟩ 1 none) (by decide +kernel)) rfl (by rw [hml]; exact hl.1) rfl dX2_init_1 (Nat.le_of_ble_eq_true rfl) (Nat.le_of_ble_eq_true rfl) ?_
  refine W.eq (g2 := F0 m 4 ls []) rfl ?_
  refine lv_aload_n hx hb dX2_init_4 rfl (lv_at hl 0 rfl) ?_
  refine lv_iconst (v := 4) hx hb dX2_init_5 (by decide) ?_
  have hz0 := hS.1
  refine sx_anew (N := 4) hx hb hown (hts _ cl_init) hK hS (Nat.succ_le_of_lt (va_at.lt hO)) ix_4 (Nat.le_of_ble_eq_true rfl) (by first | exact Nat.le_of_ble_eq_true rfl | omega | (dsimp only; omega)) (by first | exact Nat.le_of_ble_eq_true rfl | omega | (dsimp only; omega)) dX2_init_6 (fun q1 H2 hq3 hE hg4 hS => ?_)
  have ne_h_q1 : h ≠ q1 := by have := va_at.lt hO; omega
  have A_q1 : A q1 := hA _ (by rw [hq3]; exact hz0)
  have hO := sO.at0 hO hE
  refine lv_dup hx hb dX2_init_9 rfl ?_
  refine lv_iconst (v := 0) hx hb dX2_init_10 (by decide) ?_
  refine lv_iconst (v := 3) hx hb dX2_init_11 (by decide) ?_
  have hz0 := hS.1
  refine sx_newi (N := 3) hx hb (hts _ na_init) hK.1 hS (Nat.succ_le_of_lt (va_at.lt hO)) ix_3 (Nat.le_of_ble_eq_true rfl) (by first | exact Nat.le_of_ble_eq_true rfl | omega | (dsimp only; omega)) (by first | exact Nat.le_of_ble_eq_true rfl | omega | (dsimp only; omega)) dX2_init_12 (fun q5 H6 hq7 hE hN hS => ?_)
  have ne_q5_q1 : q5 ≠ q1 := by have := hg4.lt; omega
  have A_q5 : A q5 := hA _ (by rw [hq7]; exact hz0)
  refine lv_dup hx hb dX2_init_14 rfl ?_
  refine lv_iconst (v := 0) hx hb dX2_init_15 (by decide) ?_
  refine lv_iconst (v := 0) hx hb dX2_init_16 (by decide) ?_
  refine sx_iast hx hb hK.1 hS hN A_q5 ix_0 (by decide) dX2_init_17 (fun H8 locs9 hN hz_ ho_ hS => ?_)
  have hE := hE.wr (Nat.le_of_eq hq7.symm) hz_ ho_
  refine lv_dup hx hb dX2_init_18 rfl ?_
  refine lv_iconst (v := 1) hx hb dX2_init_19 (by decide) ?_
  refine lv_iconst (v := 0) hx hb dX2_init_20 (by decide) ?_
  refine sx_iast hx hb hK.1 hS hN A_q5 ix_1 (by decide) dX2_init_21 (fun H10 locs11 hN hz_ ho_ hS => ?_)
  have hE := hE.wr (Nat.le_of_eq hq7.symm) hz_ ho_
  refine lv_dup hx hb dX2_init_22 rfl ?_
  refine lv_iconst (v := 2) hx hb dX2_init_23 (by decide) ?_
  refine lv_iconst (v := 0) hx hb dX2_init_24 (by decide) ?_
  refine sx_iast hx hb hK.1 hS hN A_q5 ix_2 (by decide) dX2_init_25 (fun H12 locs13 hN hz_ ho_ hS => ?_)
  have hE := hE.wr (Nat.le_of_eq hq7.symm) hz_ ho_
  have hg4 := hg4.ext0 hE
  have hO := sO.at0 hO hE
  have hr14 : hI cI (h + 1) H12 q5 3 (s3 0 0 0) := hN.cg s3_upd
  refine sx_aast hx hb hK hS hg4 hr14 A_q1 ix_0 (by decide) dX2_init_26 (fun H15 locs16 hg4 hz_ ho_ hS => ?_)
  have hr14 := hr14.at (ho_ _ ne_q5_q1)
  have hO := va_at.kept hO (ho_ h ne_h_q1)
  refine lv_dup hx hb dX2_init_27 rfl ?_
  refine lv_iconst (v := 1) hx hb dX2_init_28 (by decide) ?_
  refine lv_iconst (v := 3) hx hb dX2_init_29 (by decide) ?_
  have hz0 := hS.1
  refine sx_newi (N := 3) hx hb (hts _ na_init) hK.1 hS (Nat.succ_le_of_lt (va_at.lt hO)) ix_3 (Nat.le_of_ble_eq_true rfl) (by first | exact Nat.le_of_ble_eq_true rfl | omega | (dsimp only; omega)) (by first | exact Nat.le_of_ble_eq_true rfl | omega | (dsimp only; omega)) dX2_init_30 (fun q17 H18 hq19 hE hN hS => ?_)
  have ne_q17_q1 : q17 ≠ q1 := by have := hg4.lt; omega
  have A_q17 : A q17 := hA _ (by rw [hq19]; exact hz0)
  refine lv_dup hx hb dX2_init_32 rfl ?_
  refine lv_iconst (v := 0) hx hb dX2_init_33 (by decide) ?_
  refine lv_bipush (v := 30) hx hb dX2_init_34 (by decide) ?_
  refine sx_iast hx hb hK.1 hS hN A_q17 ix_0 (by decide) dX2_init_36 (fun H20 locs21 hN hz_ ho_ hS => ?_)
  have hE := hE.wr (Nat.le_of_eq hq19.symm) hz_ ho_
  refine lv_dup hx hb dX2_init_37 rfl ?_
  refine lv_iconst (v := 1) hx hb dX2_init_38 (by decide) ?_
  refine lv_iconst (v := 0) hx hb dX2_init_39 (by decide) ?_
  refine sx_iast hx hb hK.1 hS hN A_q17 ix_1 (by decide) dX2_init_40 (fun H22 locs23 hN hz_ ho_ hS => ?_)
  have hE := hE.wr (Nat.le_of_eq hq19.symm) hz_ ho_
  refine lv_dup hx hb dX2_init_41 rfl ?_
  refine lv_iconst (v := 2) hx hb dX2_init_42 (by decide) ?_
  refine lv_iconst (v := 0) hx hb dX2_init_43 (by decide) ?_
  refine sx_iast hx hb hK.1 hS hN A_q17 ix_2 (by decide) dX2_init_44 (fun H24 locs25 hN hz_ ho_ hS => ?_)
  have hE := hE.wr (Nat.le_of_eq hq19.symm) hz_ ho_
  have hr14 := hr14.ext0 hE
  have hg4 := hg4.ext0 hE
  have hO := sO.at0 hO hE
  have hr26 : hI cI (h + 1) H24 q17 3 (s3 30 0 0) := hN.cg s3_upd
  refine sx_aast hx hb hK hS hg4 hr26 A_q1 ix_1 (by decide) dX2_init_45 (fun H27 locs28 hg4 hz_ ho_ hS => ?_)
  have hr14 := hr14.at (ho_ _ ne_q5_q1)
  have hr26 := hr26.at (ho_ _ ne_q17_q1)
  have hO := va_at.kept hO (ho_ h ne_h_q1)
  refine lv_dup hx hb dX2_init_46 rfl ?_
  refine lv_iconst (v := 2) hx hb dX2_init_47 (by decide) ?_
  refine lv_iconst (v := 3) hx hb dX2_init_48 (by decide) ?_
  have hz0 := hS.1
  refine sx_newi (N := 3) hx hb (hts _ na_init) hK.1 hS (Nat.succ_le_of_lt (va_at.lt hO)) ix_3 (Nat.le_of_ble_eq_true rfl) (by first | exact Nat.le_of_ble_eq_true rfl | omega | (dsimp only; omega)) (by first | exact Nat.le_of_ble_eq_true rfl | omega | (dsimp only; omega)) dX2_init_49 (fun q29 H30 hq31 hE hN hS => ?_)
  have ne_q29_q1 : q29 ≠ q1 := by have := hg4.lt; omega
  have A_q29 : A q29 := hA _ (by rw [hq31]; exact hz0)
  refine lv_dup hx hb dX2_init_51 rfl ?_
  refine lv_iconst (v := 0) hx hb dX2_init_52 (by decide) ?_
  refine lv_bipush (v := 30) hx hb dX2_init_53 (by decide) ?_
  refine sx_iast hx hb hK.1 hS hN A_q29 ix_0 (by decide) dX2_init_55 (fun H32 locs33 hN hz_ ho_ hS => ?_)
  have hE := hE.wr (Nat.le_of_eq hq31.symm) hz_ ho_
  refine lv_dup hx hb dX2_init_56 rfl ?_
  refine lv_iconst (v := 1) hx hb dX2_init_57 (by decide) ?_
  refine lv_bipush (v := 30) hx hb dX2_init_58 (by decide) ?_
  refine sx_iast hx hb hK.1 hS hN A_q29 ix_1 (by decide) dX2_init_60 (fun H34 locs35 hN hz_ ho_ hS => ?_)
  have hE := hE.wr (Nat.le_of_eq hq31.symm) hz_ ho_
  refine lv_dup hx hb dX2_init_61 rfl ?_
  refine lv_iconst (v := 2) hx hb dX2_init_62 (by decide) ?_
  refine lv_iconst (v := 0) hx hb dX2_init_63 (by decide) ?_
  refine sx_iast hx hb hK.1 hS hN A_q29 ix_2 (by decide) dX2_init_64 (fun H36 locs37 hN hz_ ho_ hS => ?_)
  have hE := hE.wr (Nat.le_of_eq hq31.symm) hz_ ho_
  have hr14 := hr14.ext0 hE
  have hr26 := hr26.ext0 hE
  have hg4 := hg4.ext0 hE
  have hO := sO.at0 hO hE
  have hr38 : hI cI (h + 1) H36 q29 3 (s3 30 30 0) := hN.cg s3_upd
  refine sx_aast hx hb hK hS hg4 hr38 A_q1 ix_2 (by decide) dX2_init_65 (fun H39 locs40 hg4 hz_ ho_ hS => ?_)
  have hr14 := hr14.at (ho_ _ ne_q5_q1)
  have hr26 := hr26.at (ho_ _ ne_q17_q1)
  have hr38 := hr38.at (ho_ _ ne_q29_q1)
  have hO := va_at.kept hO (ho_ h ne_h_q1)
  refine lv_dup hx hb dX2_init_66 rfl ?_
  refine lv_iconst (v := 3) hx hb dX2_init_67 (by decide) ?_
  refine lv_iconst (v := 3) hx hb dX2_init_68 (by decide) ?_
  have hz0 := hS.1
  refine sx_newi (N := 3) hx hb (hts _ na_init) hK.1 hS (Nat.succ_le_of_lt (va_at.lt hO)) ix_3 (Nat.le_of_ble_eq_true rfl) (by first | exact Nat.le_of_ble_eq_true rfl | omega | (dsimp only; omega)) (by first | exact Nat.le_of_ble_eq_true rfl | omega | (dsimp only; omega)) dX2_init_69 (fun q41 H42 hq43 hE hN hS => ?_)
  have ne_q41_q1 : q41 ≠ q1 := by have := hg4.lt; omega
  have A_q41 : A q41 := hA _ (by rw [hq43]; exact hz0)
  refine lv_dup hx hb dX2_init_71 rfl ?_
  refine lv_iconst (v := 0) hx hb dX2_init_72 (by decide) ?_
  refine lv_iconst (v := 0) hx hb dX2_init_73 (by decide) ?_
  refine sx_iast hx hb hK.1 hS hN A_q41 ix_0 (by decide) dX2_init_74 (fun H44 locs45 hN hz_ ho_ hS => ?_)
  have hE := hE.wr (Nat.le_of_eq hq43.symm) hz_ ho_
  refine lv_dup hx hb dX2_init_75 rfl ?_
  refine lv_iconst (v := 1) hx hb dX2_init_76 (by decide) ?_
  refine lv_bipush (v := 30) hx hb dX2_init_77 (by decide) ?_
  refine sx_iast hx hb hK.1 hS hN A_q41 ix_1 (by decide) dX2_init_79 (fun H46 locs47 hN hz_ ho_ hS => ?_)
  have hE := hE.wr (Nat.le_of_eq hq43.symm) hz_ ho_
  refine lv_dup hx hb dX2_init_80 rfl ?_
  refine lv_iconst (v := 2) hx hb dX2_init_81 (by decide) ?_
  refine lv_iconst (v := 0) hx hb dX2_init_82 (by decide) ?_
  refine sx_iast hx hb hK.1 hS hN A_q41 ix_2 (by decide) dX2_init_83 (fun H48 locs49 hN hz_ ho_ hS => ?_)
  have hE := hE.wr (Nat.le_of_eq hq43.symm) hz_ ho_
  have hr14 := hr14.ext0 hE
  have hr26 := hr26.ext0 hE
  have hr38 := hr38.ext0 hE
  have hg4 := hg4.ext0 hE
  have hO := sO.at0 hO hE
  have hr50 : hI cI (h + 1) H48 q41 3 (s3 0 30 0) := hN.cg s3_upd
  refine sx_aast hx hb hK hS hg4 hr50 A_q1 ix_3 (by decide) dX2_init_84 (fun H51 locs52 hg4 hz_ ho_ hS => ?_)
  have hr14 := hr14.at (ho_ _ ne_q5_q1)
  have hr26 := hr26.at (ho_ _ ne_q17_q1)
  have hr38 := hr38.at (ho_ _ ne_q29_q1)
  have hr50 := hr50.at (ho_ _ ne_q41_q1)
  have hO := va_at.kept hO (ho_ h ne_h_q1)
  refine sx_put (k := 0) (v := .ref q1) (ty := .array (.array .int)) hx hb hts in_X2_init_X2 hown hK.1 hO hS hAh (hts (.fieldLink RX2 9 "MoorTrianglesLaw$Sim" "cairns" "[[I") (by decide +kernel)) (by decide) rfl rfl (by rfl) (by rfl) rfl rfl dX2_init_85 (fun H53 locs54 hO hZ hS => ?_)
  have hO : va_at (dC, dI) vwCl (h, .inr (2, [.ref q1, .null, .null, .int 0])) H53 := hO
  have hr14 := hr14.extZ hZ
  have hr26 := hr26.extZ hZ
  have hr38 := hr38.extZ hZ
  have hr50 := hr50.extZ hZ
  have hg4 := hg4.extZ hZ
  refine lv_aload_n hx hb dX2_init_88 rfl (lv_at hl 0 rfl) ?_
  refine lv_iconst (v := 2) hx hb dX2_init_89 (by decide) ?_
  have hz0 := hS.1
  refine sx_anew (N := 2) hx hb hown (hts _ cl_init) hK hS (Nat.succ_le_of_lt (va_at.lt hO)) ix_2 (Nat.le_of_ble_eq_true rfl) (by first | exact Nat.le_of_ble_eq_true rfl | omega | (dsimp only; omega)) (by first | exact Nat.le_of_ble_eq_true rfl | omega | (dsimp only; omega)) dX2_init_90 (fun q55 H56 hq57 hE hg58 hS => ?_)
  have ne_q5_q55 : q5 ≠ q55 := by have := hr14.lt; omega
  have ne_q17_q55 : q17 ≠ q55 := by have := hr26.lt; omega
  have ne_q29_q55 : q29 ≠ q55 := by have := hr38.lt; omega
  have ne_q41_q55 : q41 ≠ q55 := by have := hr50.lt; omega
  have ne_q1_q55 : q1 ≠ q55 := by have := hg4.lt; omega
  have ne_h_q55 : h ≠ q55 := by have := va_at.lt hO; omega
  have A_q55 : A q55 := hA _ (by rw [hq57]; exact hz0)
  have hr14 := hr14.ext0 hE
  have hr26 := hr26.ext0 hE
  have hr38 := hr38.ext0 hE
  have hr50 := hr50.ext0 hE
  have hg4 := hg4.ext0 hE
  have hO := sO.at0 hO hE
  refine lv_dup hx hb dX2_init_93 rfl ?_
  refine lv_iconst (v := 0) hx hb dX2_init_94 (by decide) ?_
  refine lv_iconst (v := 3) hx hb dX2_init_95 (by decide) ?_
  have hz0 := hS.1
  refine sx_newi (N := 3) hx hb (hts _ na_init) hK.1 hS (Nat.succ_le_of_lt (va_at.lt hO)) ix_3 (Nat.le_of_ble_eq_true rfl) (by first | exact Nat.le_of_ble_eq_true rfl | omega | (dsimp only; omega)) (by first | exact Nat.le_of_ble_eq_true rfl | omega | (dsimp only; omega)) dX2_init_96 (fun q59 H60 hq61 hE hN hS => ?_)
  have ne_q59_q1 : q59 ≠ q1 := by have := hg4.lt; omega
  have ne_q59_q55 : q59 ≠ q55 := by have := hg58.lt; omega
  have A_q59 : A q59 := hA _ (by rw [hq61]; exact hz0)
  refine lv_dup hx hb dX2_init_98 rfl ?_
  refine lv_iconst (v := 0) hx hb dX2_init_99 (by decide) ?_
  refine lv_iconst (v := 0) hx hb dX2_init_100 (by decide) ?_
  refine sx_iast hx hb hK.1 hS hN A_q59 ix_0 (by decide) dX2_init_101 (fun H62 locs63 hN hz_ ho_ hS => ?_)
  have hE := hE.wr (Nat.le_of_eq hq61.symm) hz_ ho_
  refine lv_dup hx hb dX2_init_102 rfl ?_
  refine lv_iconst (v := 1) hx hb dX2_init_103 (by decide) ?_
  refine lv_iconst (v := 1) hx hb dX2_init_104 (by decide) ?_
  refine sx_iast hx hb hK.1 hS hN A_q59 ix_1 (by decide) dX2_init_105 (fun H64 locs65 hN hz_ ho_ hS => ?_)
  have hE := hE.wr (Nat.le_of_eq hq61.symm) hz_ ho_
  refine lv_dup hx hb dX2_init_106 rfl ?_
  refine lv_iconst (v := 2) hx hb dX2_init_107 (by decide) ?_
  refine lv_iconst (v := 2) hx hb dX2_init_108 (by decide) ?_
  refine sx_iast hx hb hK.1 hS hN A_q59 ix_2 (by decide) dX2_init_109 (fun H66 locs67 hN hz_ ho_ hS => ?_)
  have hE := hE.wr (Nat.le_of_eq hq61.symm) hz_ ho_
  have hr14 := hr14.ext0 hE
  have hr26 := hr26.ext0 hE
  have hr38 := hr38.ext0 hE
  have hr50 := hr50.ext0 hE
  have hg4 := hg4.ext0 hE
  have hg58 := hg58.ext0 hE
  have hO := sO.at0 hO hE
  have hr68 : hI cI (h + 1) H66 q59 3 (s3 0 1 2) := hN.cg s3_upd
  refine sx_aast hx hb hK hS hg58 hr68 A_q55 ix_0 (by decide) dX2_init_110 (fun H69 locs70 hg58 hz_ ho_ hS => ?_)
  have hr14 := hr14.at (ho_ _ ne_q5_q55)
  have hr26 := hr26.at (ho_ _ ne_q17_q55)
  have hr38 := hr38.at (ho_ _ ne_q29_q55)
  have hr50 := hr50.at (ho_ _ ne_q41_q55)
  have hr68 := hr68.at (ho_ _ ne_q59_q55)
  have hg4 := hg4.at (ho_ _ ne_q1_q55)
  have hO := va_at.kept hO (ho_ h ne_h_q55)
  refine lv_dup hx hb dX2_init_111 rfl ?_
  refine lv_iconst (v := 1) hx hb dX2_init_112 (by decide) ?_
  refine lv_iconst (v := 3) hx hb dX2_init_113 (by decide) ?_
  have hz0 := hS.1
  refine sx_newi (N := 3) hx hb (hts _ na_init) hK.1 hS (Nat.succ_le_of_lt (va_at.lt hO)) ix_3 (Nat.le_of_ble_eq_true rfl) (by first | exact Nat.le_of_ble_eq_true rfl | omega | (dsimp only; omega)) (by first | exact Nat.le_of_ble_eq_true rfl | omega | (dsimp only; omega)) dX2_init_114 (fun q71 H72 hq73 hE hN hS => ?_)
  have ne_q71_q1 : q71 ≠ q1 := by have := hg4.lt; omega
  have ne_q71_q55 : q71 ≠ q55 := by have := hg58.lt; omega
  have A_q71 : A q71 := hA _ (by rw [hq73]; exact hz0)
  refine lv_dup hx hb dX2_init_116 rfl ?_
  refine lv_iconst (v := 0) hx hb dX2_init_117 (by decide) ?_
  refine lv_iconst (v := 0) hx hb dX2_init_118 (by decide) ?_
  refine sx_iast hx hb hK.1 hS hN A_q71 ix_0 (by decide) dX2_init_119 (fun H74 locs75 hN hz_ ho_ hS => ?_)
  have hE := hE.wr (Nat.le_of_eq hq73.symm) hz_ ho_
  refine lv_dup hx hb dX2_init_120 rfl ?_
  refine lv_iconst (v := 1) hx hb dX2_init_121 (by decide) ?_
  refine lv_iconst (v := 2) hx hb dX2_init_122 (by decide) ?_
  refine sx_iast hx hb hK.1 hS hN A_q71 ix_1 (by decide) dX2_init_123 (fun H76 locs77 hN hz_ ho_ hS => ?_)
  have hE := hE.wr (Nat.le_of_eq hq73.symm) hz_ ho_
  refine lv_dup hx hb dX2_init_124 rfl ?_
  refine lv_iconst (v := 2) hx hb dX2_init_125 (by decide) ?_
  refine lv_iconst (v := 3) hx hb dX2_init_126 (by decide) ?_
  refine sx_iast hx hb hK.1 hS hN A_q71 ix_2 (by decide) dX2_init_127 (fun H78 locs79 hN hz_ ho_ hS => ?_)
  have hE := hE.wr (Nat.le_of_eq hq73.symm) hz_ ho_
  have hr14 := hr14.ext0 hE
  have hr26 := hr26.ext0 hE
  have hr38 := hr38.ext0 hE
  have hr50 := hr50.ext0 hE
  have hr68 := hr68.ext0 hE
  have hg4 := hg4.ext0 hE
  have hg58 := hg58.ext0 hE
  have hO := sO.at0 hO hE
  have hr80 : hI cI (h + 1) H78 q71 3 (s3 0 2 3) := hN.cg s3_upd
  refine sx_aast hx hb hK hS hg58 hr80 A_q55 ix_1 (by decide) dX2_init_128 (fun H81 locs82 hg58 hz_ ho_ hS => ?_)
  have hr14 := hr14.at (ho_ _ ne_q5_q55)
  have hr26 := hr26.at (ho_ _ ne_q17_q55)
  have hr38 := hr38.at (ho_ _ ne_q29_q55)
  have hr50 := hr50.at (ho_ _ ne_q41_q55)
  have hr68 := hr68.at (ho_ _ ne_q59_q55)
  have hr80 := hr80.at (ho_ _ ne_q71_q55)
  have hg4 := hg4.at (ho_ _ ne_q1_q55)
  have hO := va_at.kept hO (ho_ h ne_h_q55)
  refine sx_put (k := 1) (v := .ref q55) (ty := .array (.array .int)) hx hb hts in_X2_init_X2 hown hK.1 hO hS hAh (hts (.fieldLink RX2 15 "MoorTrianglesLaw$Sim" "triangles" "[[I") (by decide +kernel)) (by decide) rfl rfl (by rfl) (by rfl) rfl rfl dX2_init_129 (fun H83 locs84 hO hZ hS => ?_)
  have hO : va_at (dC, dI) vwCl (h, .inr (2, [.ref q1, .ref q55, .null, .int 0])) H83 := hO
  have hr14 := hr14.extZ hZ
  have hr26 := hr26.extZ hZ
  have hr38 := hr38.extZ hZ
  have hr50 := hr50.extZ hZ
  have hr68 := hr68.extZ hZ
  have hr80 := hr80.extZ hZ
  have hg4 := hg4.extZ hZ
  have hg58 := hg58.extZ hZ
  refine lv_aload_n hx hb dX2_init_132 rfl (lv_at hl 0 rfl) ?_
  refine lv_iconst (v := 0) hx hb dX2_init_133 (by decide) ?_
  have hz0 := hS.1
  refine sx_anew (N := 0) hx hb hown (hts _ cl_init) hK hS (Nat.succ_le_of_lt (va_at.lt hO)) ix_0 (Nat.le_of_ble_eq_true rfl) (by first | exact Nat.le_of_ble_eq_true rfl | omega | (dsimp only; omega)) (by first | exact Nat.le_of_ble_eq_true rfl | omega | (dsimp only; omega)) dX2_init_134 (fun q85 H86 hq87 hE hg88 hS => ?_)
  have ne_q5_q85 : q5 ≠ q85 := by have := hr14.lt; omega
  have ne_q17_q85 : q17 ≠ q85 := by have := hr26.lt; omega
  have ne_q29_q85 : q29 ≠ q85 := by have := hr38.lt; omega
  have ne_q41_q85 : q41 ≠ q85 := by have := hr50.lt; omega
  have ne_q59_q85 : q59 ≠ q85 := by have := hr68.lt; omega
  have ne_q71_q85 : q71 ≠ q85 := by have := hr80.lt; omega
  have ne_q1_q85 : q1 ≠ q85 := by have := hg4.lt; omega
  have ne_q55_q85 : q55 ≠ q85 := by have := hg58.lt; omega
  have ne_h_q85 : h ≠ q85 := by have := va_at.lt hO; omega
  have A_q85 : A q85 := hA _ (by rw [hq87]; exact hz0)
  have hr14 := hr14.ext0 hE
  have hr26 := hr26.ext0 hE
  have hr38 := hr38.ext0 hE
  have hr50 := hr50.ext0 hE
  have hr68 := hr68.ext0 hE
  have hr80 := hr80.ext0 hE
  have hg4 := hg4.ext0 hE
  have hg58 := hg58.ext0 hE
  have hO := sO.at0 hO hE
  refine sx_put (k := 2) (v := .ref q85) (ty := .array (.array .int)) hx hb hts in_X2_init_X2 hown hK.1 hO hS hAh (hts (.fieldLink RX2 18 "MoorTrianglesLaw$Sim" "stays" "[[I") (by decide +kernel)) (by decide) rfl rfl (by rfl) (by rfl) rfl rfl dX2_init_137 (fun H89 locs90 hO hZ hS => ?_)
  have hO : va_at (dC, dI) vwCl (h, .inr (2, [.ref q1, .ref q55, .ref q85, .int 0])) H89 := hO
  have hr14 := hr14.extZ hZ
  have hr26 := hr26.extZ hZ
  have hr38 := hr38.extZ hZ
  have hr50 := hr50.extZ hZ
  have hr68 := hr68.extZ hZ
  have hr80 := hr80.extZ hZ
  have hg4 := hg4.extZ hZ
  have hg58 := hg58.extZ hZ
  have hg88 := hg88.extZ hZ
  refine sa_vret (Pf := _) hx hb hr hlocks ⟨q1, q55, q85, hO, s_tab4 hg4 hr14 hr26 hr38 hr50, s_tab2 hg58 hr68 hr80, s_tab0 hg88, ne_q1_q55, ne_q1_q85⟩ hS (by first | exact Nat.le_of_ble_eq_true rfl | omega | (dsimp only; omega)) (by first | exact Nat.le_of_ble_eq_true rfl | omega | (dsimp only; omega)) dX2_init_140
