/-! the reference: its constructor (gen_ri.py) -/
theorem in_X2_init_X2 : ∀ w ∈ wsX20, w ∈ wsX2_init := by decide +kernel
theorem na_X2_init : (Cond.arrayClass .int) ∈ wsX2_init := by decide +kernel
theorem nz_X2_init : (Cond.arrayClass .boolean) ∈ wsX2_init := by decide +kernel
theorem cl_X2_init : (Cond.classLink RX2 26 "[[Z") ∈ wsX2_init := by decide +kernel
theorem fl_X2_init_13 : (Cond.fieldLink RX2 13 "MoorTrianglesModel" "xs" "[I") ∈ wsX2_init := by decide +kernel
theorem fl_X2_init_17 : (Cond.fieldLink RX2 17 "MoorTrianglesModel" "ys" "[I") ∈ wsX2_init := by decide +kernel
abbrev r_U : Type := Nat × Nat × Nat × Nat × Nat × (Nat → Nat)
def i_rx : Nat → Int32 := (upd (upd (fun _ => 0) (1 : Int32).toNatClampNeg 30) (2 : Int32).toNatClampNeg 30)
def i_ry : Nat → Int32 := (upd (upd (fun _ => 0) (2 : Int32).toNatClampNeg 30) (3 : Int32).toNatClampNeg 30)
def i_rt : Nat → Int32 := r_put 1 (r_put 0 (fun _ => 0) 0 1 2) 0 2 3
abbrev r_w0 (cI cZ cY : ClassId) (h : Nat) : r_U → va_W := fun u => wR cI cZ cY h u.1 u.2.1 u.2.2.1 u.2.2.2.1 u.2.2.2.2.1 u.2.2.2.2.2 0 4 i_rx i_ry (fun _ => 0) 2 i_rt (fun _ _ => 0) 0
set_option maxHeartbeats 4000000 in
set_option maxRecDepth 100000 in
theorem c_X2_init (l : Launch) (dC : Nat → ClassId) (dI : Nat → Nat → Nat) (cI cZ cY : ClassId) (h : Nat) (sz : Nat) : Met l yX2_init wsX2_init ({ frames := 3, cells := 22, slots := 393, locals := 63 }) (va_Pc [.ref h] (fun U => wrP (dC, dI) (gTY cI cZ cY) [(h, .inr (2, [.int 0, .int 0, .null, .null, .null, .int 0, .null, .null, .int 0]))] sz U ∧ kC U)) ((fun A => va_Qv (fun _ : r_U => True) (fun u t => wrB (dC, dI) (gTY cI cZ cY) A (r_w0 cI cZ cY h u) t) A) (va_A [(h, .inr (2, [.int 0, .int 0, .null, .null, .null, .int 0, .null, .null, .int 0]))] sz)) 22 393 (va_A [(h, .inr (2, [.int 0, .int 0, .null, .null, .null, .int 0, .null, .null, .int 0]))] sz) := by
  refine wk_start (cc := cX2_init) (maxL := 1) (ret := none) (Q0 := (fun A => va_Qv (fun _ : r_U => True) (fun u t => wrB (dC, dI) (gTY cI cZ cY) A (r_w0 cI cZ cY h u) t) A)) RX2 (by decide) rfl rfl (Nat.le_of_ble_eq_true rfl) ?_
  intro p e s m below meth c ⟨hx, hb, hr, hml, hown, hts, hlocks, hin⟩ hk hP hK A hD hA hS ls hl
  have F : CallFix p m c cX2_init 1 s ([.ref h] : List Value).toArray wsX2_init RX2 := ⟨hx, hb, hml, hown, hts⟩
  have hl : lv_has ls 1 [(0, .ref h)] := hl
  refine lv_aload_n hx hb dX2_init_0 rfl (lv_at hl 0 rfl) ?_
  refine W.objInit hx hb hown (hts (.methodLink RX2 1 objectInit) (by decide +kernel)) (hts (.instanceMethod objectInit) (by decide +kernel)) (hts (.code objectInit ⟨#[0xb1]⟩ 1 none) (by decide +kernel)) rfl (by rw [hml]; exact hl.1) rfl dX2_init_1 (Nat.le_of_ble_eq_true rfl) (Nat.le_of_ble_eq_true rfl) ?_
  refine W.eq (g2 := F0 m 4 ls []) rfl ?_
  refine lv_aload_n hx hb dX2_init_4 rfl (lv_at hl 0 rfl) ?_
  refine lv_iconst (v := 4) hx hb dX2_init_5 (by decide) ?_
  refine va_put (D := (dC, dI)) (ci := 2) (v := .int 4) (ty := .int) (C := RX2) (T := TX2) (N := 9) hx hb hts in_X2_init_X2 tyX2 tyX2_ok nmX2 hown hK hP hD hS 0 rfl rfl 1 (by decide) (hts (.fieldLink RX2 7 "MoorTrianglesModel" "cairns" "I") (by decide +kernel)) (fun _ h9 => h9) rfl (by decide +kernel) rfl rfl (Nat.le_of_ble_eq_true rfl) dX2_init_6 (fun H locs hP hD hS => ?_)
  have hP : va_P (dC, dI) vwCl ([(h, .inr (2, [.int 0, .int 4, .null, .null, .null, .int 0, .null, .null, .int 0]))]) H := hP
  have hD : va_D A ([(h, .inr (2, [.int 0, .int 4, .null, .null, .null, .int 0, .null, .null, .int 0]))]) := hD
  refine lv_aload_n hx hb dX2_init_9 rfl (lv_at hl 0 rfl) ?_
  refine lv_bipush (v := 17) hx hb dX2_init_10 (by decide) ?_
  refine rg_newi hx hb (hts _ na_X2_init) hK 0 rfl hP hD hS hA (n := 17) (N' := 17) (by decide) (by rfl) (Nat.le_of_ble_eq_true rfl) (Nat.le_of_ble_eq_true rfl) (Nat.le_of_ble_eq_true rfl) dX2_init_12 (fun qx H hP hD hS => ?_)
  have hP : va_P (dC, dI) vwCl ([(h, .inr (2, [.int 0, .int 4, .null, .null, .null, .int 0, .null, .null, .int 0])), (qx, .inl (cI, 17, .inl (fun _ => 0)))]) H := hP
  have hD : va_D A ([(h, .inr (2, [.int 0, .int 4, .null, .null, .null, .int 0, .null, .null, .int 0])), (qx, .inl (cI, 17, .inl (fun _ => 0)))]) := hD
  refine va_putF (D := (dC, dI)) (ci := 2) (v := .ref qx) (ty := .array .int) (C := RX2) (T := TX2) (N := 9) hx hb hts in_X2_init_X2 tyX2 tyX2_ok nmX2 hown hK hP hD hS 0 rfl rfl 2 (by decide) (hts (.fieldLink RX2 13 "MoorTrianglesModel" "xs" "[I") (by decide +kernel)) (fun _ h9 => h9) rfl (hin rfl) rfl (by decide +kernel) rfl rfl (Nat.le_of_ble_eq_true rfl) dX2_init_14 (fun H locs hP hD hS => ?_)
  have hP : va_P (dC, dI) vwCl ([(h, .inr (2, [.int 0, .int 4, .ref qx, .null, .null, .int 0, .null, .null, .int 0])), (qx, .inl (cI, 17, .inl (fun _ => 0)))]) H := hP
  have hD : va_D A ([(h, .inr (2, [.int 0, .int 4, .ref qx, .null, .null, .int 0, .null, .null, .int 0])), (qx, .inl (cI, 17, .inl (fun _ => 0)))]) := hD
  refine lv_aload_n hx hb dX2_init_17 rfl (lv_at hl 0 rfl) ?_
  refine lv_bipush (v := 17) hx hb dX2_init_18 (by decide) ?_
  refine rg_newi hx hb (hts _ na_X2_init) hK 0 rfl hP hD hS hA (n := 17) (N' := 17) (by decide) (by rfl) (Nat.le_of_ble_eq_true rfl) (Nat.le_of_ble_eq_true rfl) (Nat.le_of_ble_eq_true rfl) dX2_init_20 (fun qy H hP hD hS => ?_)
  have hP : va_P (dC, dI) vwCl ([(h, .inr (2, [.int 0, .int 4, .ref qx, .null, .null, .int 0, .null, .null, .int 0])), (qx, .inl (cI, 17, .inl (fun _ => 0))), (qy, .inl (cI, 17, .inl (fun _ => 0)))]) H := hP
  have hD : va_D A ([(h, .inr (2, [.int 0, .int 4, .ref qx, .null, .null, .int 0, .null, .null, .int 0])), (qx, .inl (cI, 17, .inl (fun _ => 0))), (qy, .inl (cI, 17, .inl (fun _ => 0)))]) := hD
  refine va_putF (D := (dC, dI)) (ci := 2) (v := .ref qy) (ty := .array .int) (C := RX2) (T := TX2) (N := 9) hx hb hts in_X2_init_X2 tyX2 tyX2_ok nmX2 hown hK hP hD hS 0 rfl rfl 3 (by decide) (hts (.fieldLink RX2 17 "MoorTrianglesModel" "ys" "[I") (by decide +kernel)) (fun _ h9 => h9) rfl (hin rfl) rfl (by decide +kernel) rfl rfl (Nat.le_of_ble_eq_true rfl) dX2_init_22 (fun H locs hP hD hS => ?_)
  have hP : va_P (dC, dI) vwCl ([(h, .inr (2, [.int 0, .int 4, .ref qx, .ref qy, .null, .int 0, .null, .null, .int 0])), (qx, .inl (cI, 17, .inl (fun _ => 0))), (qy, .inl (cI, 17, .inl (fun _ => 0)))]) H := hP
  have hD : va_D A ([(h, .inr (2, [.int 0, .int 4, .ref qx, .ref qy, .null, .int 0, .null, .null, .int 0])), (qx, .inl (cI, 17, .inl (fun _ => 0))), (qy, .inl (cI, 17, .inl (fun _ => 0)))]) := hD
  refine lv_aload_n hx hb dX2_init_25 rfl (lv_at hl 0 rfl) ?_
  refine lv_bipush (v := 17) hx hb dX2_init_26 (by decide) ?_
  refine rg_newi hx hb (hts _ na_X2_init) hK 0 rfl hP hD hS hA (n := 17) (N' := 17) (by decide) (by rfl) (Nat.le_of_ble_eq_true rfl) (Nat.le_of_ble_eq_true rfl) (Nat.le_of_ble_eq_true rfl) dX2_init_28 (fun qh H hP hD hS => ?_)
  have hP : va_P (dC, dI) vwCl ([(h, .inr (2, [.int 0, .int 4, .ref qx, .ref qy, .null, .int 0, .null, .null, .int 0])), (qx, .inl (cI, 17, .inl (fun _ => 0))), (qy, .inl (cI, 17, .inl (fun _ => 0))), (qh, .inl (cI, 17, .inl (fun _ => 0)))]) H := hP
  have hD : va_D A ([(h, .inr (2, [.int 0, .int 4, .ref qx, .ref qy, .null, .int 0, .null, .null, .int 0])), (qx, .inl (cI, 17, .inl (fun _ => 0))), (qy, .inl (cI, 17, .inl (fun _ => 0))), (qh, .inl (cI, 17, .inl (fun _ => 0)))]) := hD
  refine va_putF (D := (dC, dI)) (ci := 2) (v := .ref qh) (ty := .array .int) (C := RX2) (T := TX2) (N := 9) hx hb hts in_X2_init_X2 tyX2 tyX2_ok nmX2 hown hK hP hD hS 0 rfl rfl 4 (by decide) (hts (.fieldLink RX2 20 "MoorTrianglesModel" "heights" "[I") (by decide +kernel)) (fun _ h9 => h9) rfl (hin rfl) rfl (by decide +kernel) rfl rfl (Nat.le_of_ble_eq_true rfl) dX2_init_30 (fun H locs hP hD hS => ?_)
  have hP : va_P (dC, dI) vwCl ([(h, .inr (2, [.int 0, .int 4, .ref qx, .ref qy, .ref qh, .int 0, .null, .null, .int 0])), (qx, .inl (cI, 17, .inl (fun _ => 0))), (qy, .inl (cI, 17, .inl (fun _ => 0))), (qh, .inl (cI, 17, .inl (fun _ => 0)))]) H := hP
  have hD : va_D A ([(h, .inr (2, [.int 0, .int 4, .ref qx, .ref qy, .ref qh, .int 0, .null, .null, .int 0])), (qx, .inl (cI, 17, .inl (fun _ => 0))), (qy, .inl (cI, 17, .inl (fun _ => 0))), (qh, .inl (cI, 17, .inl (fun _ => 0)))]) := hD
  refine lv_aload_n hx hb dX2_init_33 rfl (lv_at hl 0 rfl) ?_
  refine lv_bipush (v := 36) hx hb dX2_init_34 (by decide) ?_
  refine rg_newi hx hb (hts _ na_X2_init) hK 0 rfl hP hD hS hA (n := 36) (N' := 36) (by decide) (by rfl) (Nat.le_of_ble_eq_true rfl) (Nat.le_of_ble_eq_true rfl) (Nat.le_of_ble_eq_true rfl) dX2_init_36 (fun qt H hP hD hS => ?_)
  have hP : va_P (dC, dI) vwCl ([(h, .inr (2, [.int 0, .int 4, .ref qx, .ref qy, .ref qh, .int 0, .null, .null, .int 0])), (qx, .inl (cI, 17, .inl (fun _ => 0))), (qy, .inl (cI, 17, .inl (fun _ => 0))), (qh, .inl (cI, 17, .inl (fun _ => 0))), (qt, .inl (cI, 36, .inl (fun _ => 0)))]) H := hP
  have hD : va_D A ([(h, .inr (2, [.int 0, .int 4, .ref qx, .ref qy, .ref qh, .int 0, .null, .null, .int 0])), (qx, .inl (cI, 17, .inl (fun _ => 0))), (qy, .inl (cI, 17, .inl (fun _ => 0))), (qh, .inl (cI, 17, .inl (fun _ => 0))), (qt, .inl (cI, 36, .inl (fun _ => 0)))]) := hD
  refine va_putF (D := (dC, dI)) (ci := 2) (v := .ref qt) (ty := .array .int) (C := RX2) (T := TX2) (N := 9) hx hb hts in_X2_init_X2 tyX2 tyX2_ok nmX2 hown hK hP hD hS 0 rfl rfl 6 (by decide) (hts (.fieldLink RX2 23 "MoorTrianglesModel" "told" "[I") (by decide +kernel)) (fun _ h9 => h9) rfl (hin rfl) rfl (by decide +kernel) rfl rfl (Nat.le_of_ble_eq_true rfl) dX2_init_38 (fun H locs hP hD hS => ?_)
  have hP : va_P (dC, dI) vwCl ([(h, .inr (2, [.int 0, .int 4, .ref qx, .ref qy, .ref qh, .int 0, .ref qt, .null, .int 0])), (qx, .inl (cI, 17, .inl (fun _ => 0))), (qy, .inl (cI, 17, .inl (fun _ => 0))), (qh, .inl (cI, 17, .inl (fun _ => 0))), (qt, .inl (cI, 36, .inl (fun _ => 0)))]) H := hP
  have hD : va_D A ([(h, .inr (2, [.int 0, .int 4, .ref qx, .ref qy, .ref qh, .int 0, .ref qt, .null, .int 0])), (qx, .inl (cI, 17, .inl (fun _ => 0))), (qy, .inl (cI, 17, .inl (fun _ => 0))), (qh, .inl (cI, 17, .inl (fun _ => 0))), (qt, .inl (cI, 36, .inl (fun _ => 0)))]) := hD
  refine lv_aload_n hx hb dX2_init_41 rfl (lv_at hl 0 rfl) ?_
  refine lv_bipush (v := 17) hx hb dX2_init_42 (by decide) ?_
  refine lv_bipush (v := 17) hx hb dX2_init_44 (by decide) ?_
  refine ri_mna hx hb hown (hts _ cl_X2_init) hk (hts _ nz_X2_init) hK hP hD hS hA (n := 17) (k := 17) (by decide) (by decide) (by rfl) (by rfl) (Nat.le_of_ble_eq_true rfl) (Nat.le_of_ble_eq_true rfl) dX2_init_46 (fun qs rw H hP hD hS => ?_)
  have hP : va_P (dC, dI) vwCl ([(h, .inr (2, [.int 0, .int 4, .ref qx, .ref qy, .ref qh, .int 0, .ref qt, .null, .int 0])), (qx, .inl (cI, 17, .inl (fun _ => 0))), (qy, .inl (cI, 17, .inl (fun _ => 0))), (qh, .inl (cI, 17, .inl (fun _ => 0))), (qt, .inl (cI, 36, .inl (fun _ => 0)))] ++ kX cZ cY qs rw (fun _ _ => 0) 17) H := hP
  have hD : va_D A ([(h, .inr (2, [.int 0, .int 4, .ref qx, .ref qy, .ref qh, .int 0, .ref qt, .null, .int 0])), (qx, .inl (cI, 17, .inl (fun _ => 0))), (qy, .inl (cI, 17, .inl (fun _ => 0))), (qh, .inl (cI, 17, .inl (fun _ => 0))), (qt, .inl (cI, 36, .inl (fun _ => 0)))] ++ kX cZ cY qs rw (fun _ _ => 0) 17) := hD
  refine va_putF (D := (dC, dI)) (ci := 2) (v := .ref qs) (ty := .array (.array .boolean)) (C := RX2) (T := TX2) (N := 9) hx hb hts in_X2_init_X2 tyX2 tyX2_ok nmX2 hown hK hP hD hS 0 rfl rfl 7 (by decide) (hts (.fieldLink RX2 28 "MoorTrianglesModel" "stays" "[[Z") (by decide +kernel)) (fun _ h9 => h9) rfl (hin rfl) rfl (by decide +kernel) rfl rfl (Nat.le_of_ble_eq_true rfl) dX2_init_50 (fun H locs hP hD hS => ?_)
  have hP : va_P (dC, dI) vwCl ([(h, .inr (2, [.int 0, .int 4, .ref qx, .ref qy, .ref qh, .int 0, .ref qt, .ref qs, .int 0])), (qx, .inl (cI, 17, .inl (fun _ => 0))), (qy, .inl (cI, 17, .inl (fun _ => 0))), (qh, .inl (cI, 17, .inl (fun _ => 0))), (qt, .inl (cI, 36, .inl (fun _ => 0)))] ++ kX cZ cY qs rw (fun _ _ => 0) 17) H := hP
  have hD : va_D A ([(h, .inr (2, [.int 0, .int 4, .ref qx, .ref qy, .ref qh, .int 0, .ref qt, .ref qs, .int 0])), (qx, .inl (cI, 17, .inl (fun _ => 0))), (qy, .inl (cI, 17, .inl (fun _ => 0))), (qh, .inl (cI, 17, .inl (fun _ => 0))), (qt, .inl (cI, 36, .inl (fun _ => 0)))] ++ kX cZ cY qs rw (fun _ _ => 0) 17) := hD
  have hP : va_P (dC, dI) vwCl (wR cI cZ cY h qx qy qh qt qs rw 0 4 (fun _ => 0) (fun _ => 0) (fun _ => 0) 0 (fun _ => 0) (fun _ _ => 0) 0) H := hP
  have hD : va_D A (wR cI cZ cY h qx qy qh qt qs rw 0 4 (fun _ => 0) (fun _ => 0) (fun _ => 0) 0 (fun _ => 0) (fun _ _ => 0) 0) := hD
  refine lv_aload_n hx hb dX2_init_53 rfl (lv_at hl 0 rfl) ?_
  refine va_get (D := (dC, dI)) (ci := 2) (v := .ref qx) (C := RX2) (T := TX2) (N := 9) hx hb hts in_X2_init_X2 hown hK hP 0 rfl rfl 2 (by decide) (hts (.fieldLink RX2 13 "MoorTrianglesModel" "xs" "[I") fl_X2_init_13) (fun _ h9 => h9) rfl dX2_init_54 ?_
  refine lv_iconst (v := 1) hx hb dX2_init_57 (by decide) ?_
  refine lv_bipush (v := 30) hx hb dX2_init_58 (by decide) ?_
  refine va_iast (D := (dC, dI)) hx hb hK hP hD hS 1 0 rfl rfl (vp_in_nI (n := 1) (N := 17) (by decide) (by decide)) dX2_init_60 (fun H locs hP hD hS => ?_)
  have hP : va_P (dC, dI) vwCl (wR cI cZ cY h qx qy qh qt qs rw 0 4 (upd (fun _ => 0) (1 : Int32).toNatClampNeg 30) (fun _ => 0) (fun _ => 0) 0 (fun _ => 0) (fun _ _ => 0) 0) H := hP
  have hD : va_D A (wR cI cZ cY h qx qy qh qt qs rw 0 4 (upd (fun _ => 0) (1 : Int32).toNatClampNeg 30) (fun _ => 0) (fun _ => 0) 0 (fun _ => 0) (fun _ _ => 0) 0) := hD
  refine lv_aload_n hx hb dX2_init_61 rfl (lv_at hl 0 rfl) ?_
  refine va_get (D := (dC, dI)) (ci := 2) (v := .ref qx) (C := RX2) (T := TX2) (N := 9) hx hb hts in_X2_init_X2 hown hK hP 0 rfl rfl 2 (by decide) (hts (.fieldLink RX2 13 "MoorTrianglesModel" "xs" "[I") fl_X2_init_13) (fun _ h9 => h9) rfl dX2_init_62 ?_
  refine lv_iconst (v := 2) hx hb dX2_init_65 (by decide) ?_
  refine lv_bipush (v := 30) hx hb dX2_init_66 (by decide) ?_
  refine va_iast (D := (dC, dI)) hx hb hK hP hD hS 1 0 rfl rfl (vp_in_nI (n := 2) (N := 17) (by decide) (by decide)) dX2_init_68 (fun H locs hP hD hS => ?_)
  have hP : va_P (dC, dI) vwCl (wR cI cZ cY h qx qy qh qt qs rw 0 4 (upd (upd (fun _ => 0) (1 : Int32).toNatClampNeg 30) (2 : Int32).toNatClampNeg 30) (fun _ => 0) (fun _ => 0) 0 (fun _ => 0) (fun _ _ => 0) 0) H := hP
  have hD : va_D A (wR cI cZ cY h qx qy qh qt qs rw 0 4 (upd (upd (fun _ => 0) (1 : Int32).toNatClampNeg 30) (2 : Int32).toNatClampNeg 30) (fun _ => 0) (fun _ => 0) 0 (fun _ => 0) (fun _ _ => 0) 0) := hD
  refine lv_aload_n hx hb dX2_init_69 rfl (lv_at hl 0 rfl) ?_
  refine va_get (D := (dC, dI)) (ci := 2) (v := .ref qy) (C := RX2) (T := TX2) (N := 9) hx hb hts in_X2_init_X2 hown hK hP 0 rfl rfl 3 (by decide) (hts (.fieldLink RX2 17 "MoorTrianglesModel" "ys" "[I") fl_X2_init_17) (fun _ h9 => h9) rfl dX2_init_70 ?_
  refine lv_iconst (v := 2) hx hb dX2_init_73 (by decide) ?_
  refine lv_bipush (v := 30) hx hb dX2_init_74 (by decide) ?_
  refine va_iast (D := (dC, dI)) hx hb hK hP hD hS 2 0 rfl rfl (vp_in_nI (n := 2) (N := 17) (by decide) (by decide)) dX2_init_76 (fun H locs hP hD hS => ?_)
  have hP : va_P (dC, dI) vwCl (wR cI cZ cY h qx qy qh qt qs rw 0 4 (upd (upd (fun _ => 0) (1 : Int32).toNatClampNeg 30) (2 : Int32).toNatClampNeg 30) (upd (fun _ => 0) (2 : Int32).toNatClampNeg 30) (fun _ => 0) 0 (fun _ => 0) (fun _ _ => 0) 0) H := hP
  have hD : va_D A (wR cI cZ cY h qx qy qh qt qs rw 0 4 (upd (upd (fun _ => 0) (1 : Int32).toNatClampNeg 30) (2 : Int32).toNatClampNeg 30) (upd (fun _ => 0) (2 : Int32).toNatClampNeg 30) (fun _ => 0) 0 (fun _ => 0) (fun _ _ => 0) 0) := hD
  refine lv_aload_n hx hb dX2_init_77 rfl (lv_at hl 0 rfl) ?_
  refine va_get (D := (dC, dI)) (ci := 2) (v := .ref qy) (C := RX2) (T := TX2) (N := 9) hx hb hts in_X2_init_X2 hown hK hP 0 rfl rfl 3 (by decide) (hts (.fieldLink RX2 17 "MoorTrianglesModel" "ys" "[I") fl_X2_init_17) (fun _ h9 => h9) rfl dX2_init_78 ?_
  refine lv_iconst (v := 3) hx hb dX2_init_81 (by decide) ?_
  refine lv_bipush (v := 30) hx hb dX2_init_82 (by decide) ?_
  refine va_iast (D := (dC, dI)) hx hb hK hP hD hS 2 0 rfl rfl (vp_in_nI (n := 3) (N := 17) (by decide) (by decide)) dX2_init_84 (fun H locs hP hD hS => ?_)
  have hP : va_P (dC, dI) vwCl (wR cI cZ cY h qx qy qh qt qs rw 0 4 (upd (upd (fun _ => 0) (1 : Int32).toNatClampNeg 30) (2 : Int32).toNatClampNeg 30) (upd (upd (fun _ => 0) (2 : Int32).toNatClampNeg 30) (3 : Int32).toNatClampNeg 30) (fun _ => 0) 0 (fun _ => 0) (fun _ _ => 0) 0) H := hP
  have hD : va_D A (wR cI cZ cY h qx qy qh qt qs rw 0 4 (upd (upd (fun _ => 0) (1 : Int32).toNatClampNeg 30) (2 : Int32).toNatClampNeg 30) (upd (upd (fun _ => 0) (2 : Int32).toNatClampNeg 30) (3 : Int32).toNatClampNeg 30) (fun _ => 0) 0 (fun _ => 0) (fun _ _ => 0) 0) := hD
  refine lv_aload_n hx hb dX2_init_85 rfl (lv_at hl 0 rfl) ?_
  refine lv_iconst (v := 0) hx hb dX2_init_86 (by decide) ?_
  refine lv_iconst (v := 1) hx hb dX2_init_87 (by decide) ?_
  refine lv_iconst (v := 2) hx hb dX2_init_88 (by decide) ?_
  refine wx_cVv (As := [.int 0, .int 1, .int 2]) (rest := []) F (c_X2_put l dC dI cI cZ cY h qx qy qh qt qs rw 0 4 (upd (upd (fun _ => 0) (1 : Int32).toNatClampNeg 30) (2 : Int32).toNatClampNeg 30) (upd (upd (fun _ => 0) (2 : Int32).toNatClampNeg 30) (3 : Int32).toNatClampNeg 30) (fun _ => 0) 0 (fun _ => 0) (fun _ _ => 0) 0 0 1 2 H.size (by decide)) (cwV 3 hts gX2_init_X2_put rfl rfl rfl hd_X2_put ⟨Nat.le_of_ble_eq_true rfl, Nat.le_of_ble_eq_true rfl⟩) hP hK hD hS hA (va_recv hK hP (ci := 2) (q0 := 0) rfl rfl) rfl hl.1 rfl (lv_room (Nat.le_of_ble_eq_true rfl)) dX2_init_89 ⟨Nat.le_of_ble_eq_true rfl, Nat.le_of_ble_eq_true rfl⟩ (fun H locs hP hD hS => ?_)
  have hP : va_P (dC, dI) vwCl (wR cI cZ cY h qx qy qh qt qs rw 0 4 (upd (upd (fun _ => 0) (1 : Int32).toNatClampNeg 30) (2 : Int32).toNatClampNeg 30) (upd (upd (fun _ => 0) (2 : Int32).toNatClampNeg 30) (3 : Int32).toNatClampNeg 30) (fun _ => 0) (0 + 1) (r_put 0 (fun _ => 0) 0 1 2) (fun _ _ => 0) 0) H := hP
  have hD : va_D A (wR cI cZ cY h qx qy qh qt qs rw 0 4 (upd (upd (fun _ => 0) (1 : Int32).toNatClampNeg 30) (2 : Int32).toNatClampNeg 30) (upd (upd (fun _ => 0) (2 : Int32).toNatClampNeg 30) (3 : Int32).toNatClampNeg 30) (fun _ => 0) (0 + 1) (r_put 0 (fun _ => 0) 0 1 2) (fun _ _ => 0) 0) := hD
  have hP : va_P (dC, dI) vwCl (wR cI cZ cY h qx qy qh qt qs rw 0 4 (upd (upd (fun _ => 0) (1 : Int32).toNatClampNeg 30) (2 : Int32).toNatClampNeg 30) (upd (upd (fun _ => 0) (2 : Int32).toNatClampNeg 30) (3 : Int32).toNatClampNeg 30) (fun _ => 0) 1 (r_put 0 (fun _ => 0) 0 1 2) (fun _ _ => 0) 0) H := hP
  have hD : va_D A (wR cI cZ cY h qx qy qh qt qs rw 0 4 (upd (upd (fun _ => 0) (1 : Int32).toNatClampNeg 30) (2 : Int32).toNatClampNeg 30) (upd (upd (fun _ => 0) (2 : Int32).toNatClampNeg 30) (3 : Int32).toNatClampNeg 30) (fun _ => 0) 1 (r_put 0 (fun _ => 0) 0 1 2) (fun _ _ => 0) 0) := hD
  refine lv_aload_n hx hb dX2_init_92 rfl (lv_at hl 0 rfl) ?_
  refine lv_iconst (v := 0) hx hb dX2_init_93 (by decide) ?_
  refine lv_iconst (v := 2) hx hb dX2_init_94 (by decide) ?_
  refine lv_iconst (v := 3) hx hb dX2_init_95 (by decide) ?_
  refine wx_cVv (As := [.int 0, .int 2, .int 3]) (rest := []) F (c_X2_put l dC dI cI cZ cY h qx qy qh qt qs rw 0 4 (upd (upd (fun _ => 0) (1 : Int32).toNatClampNeg 30) (2 : Int32).toNatClampNeg 30) (upd (upd (fun _ => 0) (2 : Int32).toNatClampNeg 30) (3 : Int32).toNatClampNeg 30) (fun _ => 0) 1 (r_put 0 (fun _ => 0) 0 1 2) (fun _ _ => 0) 0 0 2 3 H.size (by decide)) (cwV 3 hts gX2_init_X2_put rfl rfl rfl hd_X2_put ⟨Nat.le_of_ble_eq_true rfl, Nat.le_of_ble_eq_true rfl⟩) hP hK hD hS hA (va_recv hK hP (ci := 2) (q0 := 0) rfl rfl) rfl hl.1 rfl (lv_room (Nat.le_of_ble_eq_true rfl)) dX2_init_96 ⟨Nat.le_of_ble_eq_true rfl, Nat.le_of_ble_eq_true rfl⟩ (fun H locs hP hD hS => ?_)
  have hP : va_P (dC, dI) vwCl (wR cI cZ cY h qx qy qh qt qs rw 0 4 (upd (upd (fun _ => 0) (1 : Int32).toNatClampNeg 30) (2 : Int32).toNatClampNeg 30) (upd (upd (fun _ => 0) (2 : Int32).toNatClampNeg 30) (3 : Int32).toNatClampNeg 30) (fun _ => 0) (1 + 1) (r_put 1 (r_put 0 (fun _ => 0) 0 1 2) 0 2 3) (fun _ _ => 0) 0) H := hP
  have hD : va_D A (wR cI cZ cY h qx qy qh qt qs rw 0 4 (upd (upd (fun _ => 0) (1 : Int32).toNatClampNeg 30) (2 : Int32).toNatClampNeg 30) (upd (upd (fun _ => 0) (2 : Int32).toNatClampNeg 30) (3 : Int32).toNatClampNeg 30) (fun _ => 0) (1 + 1) (r_put 1 (r_put 0 (fun _ => 0) 0 1 2) 0 2 3) (fun _ _ => 0) 0) := hD
  have hP : va_P (dC, dI) vwCl (wR cI cZ cY h qx qy qh qt qs rw 0 4 (upd (upd (fun _ => 0) (1 : Int32).toNatClampNeg 30) (2 : Int32).toNatClampNeg 30) (upd (upd (fun _ => 0) (2 : Int32).toNatClampNeg 30) (3 : Int32).toNatClampNeg 30) (fun _ => 0) 2 (r_put 1 (r_put 0 (fun _ => 0) 0 1 2) 0 2 3) (fun _ _ => 0) 0) H := hP
  have hD : va_D A (wR cI cZ cY h qx qy qh qt qs rw 0 4 (upd (upd (fun _ => 0) (1 : Int32).toNatClampNeg 30) (2 : Int32).toNatClampNeg 30) (upd (upd (fun _ => 0) (2 : Int32).toNatClampNeg 30) (3 : Int32).toNatClampNeg 30) (fun _ => 0) 2 (r_put 1 (r_put 0 (fun _ => 0) 0 1 2) 0 2 3) (fun _ _ => 0) 0) := hD
  exact W.vret hx hb hr (fun t ht hW => ⟨⟨(qx, qy, qh, qt, qs, rw), rfl, trivial, by rw [ht]; exact hP, va_K.moved hW.alike hK, hD⟩, hS.F ht⟩) hS.2.2 dX2_init_99 hlocks
