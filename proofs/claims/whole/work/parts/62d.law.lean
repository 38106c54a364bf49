set_option maxHeartbeats 4000000 in
set_option maxRecDepth 100000 in
theorem lw_op_settles {p : Program} {l : Launch} {e : Env} {s : State} {m : MethodId} {below : List Frame} {meth : Method} {c : Code} {dC : Nat → ClassId} {dI : Nat → Nat → Nat} {cI cZ cY cL : ClassId} {b o qo h qx qy ql qs qc h2 qx2 qy2 ql2 qs2 qc2 oq rh rx ry rg rt rs : Nat} {rw : Nat → Nat} {L : Nat} {xs0 : Nat → Int32} {i cells slots : Nat} (hC : lw_C p l s m meth c dC dI cI cZ cY cL b L xs0) (hL : L ≤ 2048) (hi : i + 4 ≤ L) (hc : cells + 24 ≤ 601024) (hs9 : slots + 364 ≤ 7293034) (kk : lw_K p l e s m below meth c dC dI cI cZ cY cL b o qo h qx qy ql qs qc h2 qx2 qy2 ql2 qs2 qc2 oq rh rx ry rg rt rs rw i (cells + 24) (slots + 364) 1204) : lw_K p l e s m below meth c dC dI cI cZ cY cL b o qo h qx qy ql qs qc h2 qx2 qy2 ql2 qs2 qc2 oq rh rx ry rg rt rs rw i cells slots 1068 := by
  obtain ⟨⟨hx, hb, hr0, hml, hown, hts0, hX, hbl, hlocks, hgv⟩, hl0, hE, hN, hk, hK⟩ := hC
  have hts : ∀ w ∈ wsL_law, w.before #[Value.ref b] s = true := fun w h => hts0 w (wsL_law_in w h)
  have hA : ∀ q : Nat, s.heap.size ≤ q → (fun q : Nat => s.heap.size ≤ q) q := fun _ h => h
  have hbA : ¬ (fun q : Nat => s.heap.size ≤ q) b := Nat.not_le.mpr hbl
  have F : CallFix p m c cL_law 9 s #[Value.ref b] wsL_law RL := ⟨hx, hb, hml, hown, hts⟩
  intro hs fl0 n0 t0 xs ys lf sy co n2 t2 xs2 ys2 lf2 sy2 co2 lo th n xr yr hr t tb sg fl H locs ls hW hP hD hS hl
  obtain ⟨e1, e2, e3, hZ⟩ := hW
  subst e1 e2 e3
  have hbd := Z_bd hZ
  obtain ⟨u, hu⟩ : ∃ u, t = u + 1 + 1 := ⟨t - 2, by omega⟩
  subst hu
  have hP : va_P (dC, dI) vwCl (wX cI o qo hs fl h qx qy ql qs qc n (u + 1 + 1) xs ys lf sy co h2 qx2 qy2 ql2 qs2 qc2 n2 t2 xs2 ys2 lf2 sy2 co2 ++ ([(oq, .inl (cL, 1, .inr (.inl lo)))] ++ wR cI cZ cY rh rx ry rg rt rs rw th n xr yr hr (u + 1 + 1) tb sg fl)) H := by rw [← List.append_assoc]; exact hP
  have hD : va_D (fun q : Nat => s.heap.size ≤ q) (wX cI o qo hs fl h qx qy ql qs qc n (u + 1 + 1) xs ys lf sy co h2 qx2 qy2 ql2 qs2 qc2 n2 t2 xs2 ys2 lf2 sy2 co2 ++ ([(oq, .inl (cL, 1, .inr (.inl lo)))] ++ wR cI cZ cY rh rx ry rg rt rs rw th n xr yr hr (u + 1 + 1) tb sg fl)) := by rw [← List.append_assoc]; exact hD
  refine lv_aload_n hx hb dL_law_1068 rfl (lv_at hl 2 rfl) ?_
  refine lw_cX (C := RX1) (As := []) (rest := []) F (c_X1_settles l dC dI cI cZ cY o qo hs fl h qx qy ql qs qc n (u + 1 + 1) xs ys lf sy co h2 qx2 qy2 ql2 qs2 qc2 n2 t2 xs2 ys2 lf2 sy2 co2 H.size (by omega)) (cwV 0 hts gL_law_X1_settles rfl rfl rfl hd_X1_settles ⟨Nat.le_of_ble_eq_true rfl, Nat.le_of_ble_eq_true rfl⟩) hP hK hD hS hA (va_recv hK hP (ci := 1) (q0 := 0) rfl rfl) rfl hl.1 rfl (lv_room (Nat.le_of_ble_eq_true rfl)) dL_law_1069 ⟨show cells + 0 ≤ 601024 by omega, show slots + 0 ≤ 7293034 by omega⟩ (fun H locs hP hD hS => ?_)
  rw [← List.append_assoc] at hP hD
  obtain ⟨N, o1, o2, o3, o4, o5⟩ := op_settle (fl := fl) hZ
  refine lv_aload_n hx hb dL_law_1072 rfl (lv_at hl 3 rfl) ?_
  refine lw_cRk hk (C := RX2) (As := []) (rest := [.int (nI (m_tuN n xs ys sy (u + 1 + 1, lf, co)))]) F (c_X2_settles l dC dI cI cZ cY rh rx ry rg rt rs rw th n xr yr hr 0 tb sg fl H.size u N (by omega) (by omega) o1 o2 o3 (Z_01 hZ)) (cwV 0 hts gL_law_X2_settles rfl rfl rfl hd_X2_settles ⟨Nat.le_of_ble_eq_true rfl, Nat.le_of_ble_eq_true rfl⟩) hP hK hD hS hA (va_recv hK hP.comm.left (ci := 2) (q0 := 0) rfl rfl) rfl hl.1 rfl (lv_room (Nat.le_of_ble_eq_true rfl)) dL_law_1073 ⟨show cells + 0 + 19 ≤ 601024 by omega, show slots + 0 + 342 ≤ 7293034 by omega⟩ (fun H locs hP hD hS => ?_)
  refine lv_icmp_eq (tgt := 1204) hx hb dL_law_1076 (by decide) (fun _ => ?_) (fun q => absurd o4 q)
  refine W.widen (k := cells + 24) (n := slots + 364) (by omega) (by omega) ?_
  exact kk _ _ _ _ _ _ _ _ _ _ _ _ _ _ _ _ _ _ _ _ _ _ _ _ _ _ _ _ _ (W_of hZ) hP hD hS (lv_sub hl [0, 1, 2, 3, 4] rfl)
set_option maxHeartbeats 4000000 in
set_option maxRecDepth 100000 in
theorem lw_op_would {p : Program} {l : Launch} {e : Env} {s : State} {m : MethodId} {below : List Frame} {meth : Method} {c : Code} {dC : Nat → ClassId} {dI : Nat → Nat → Nat} {cI cZ cY cL : ClassId} {b o qo h qx qy ql qs qc h2 qx2 qy2 ql2 qs2 qc2 oq rh rx ry rg rt rs : Nat} {rw : Nat → Nat} {L : Nat} {xs0 : Nat → Int32} {i cells slots : Nat} (hC : lw_C p l s m meth c dC dI cI cZ cY cL b L xs0) (hL : L ≤ 2048) (hi : i + 4 ≤ L) (hc : cells + 24 ≤ 601024) (hs9 : slots + 364 ≤ 7293034) (kk : lw_K p l e s m below meth c dC dI cI cZ cY cL b o qo h qx qy ql qs qc h2 qx2 qy2 ql2 qs2 qc2 oq rh rx ry rg rt rs rw i (cells + 24) (slots + 364) 1204) : lw_K p l e s m below meth c dC dI cI cZ cY cL b o qo h qx qy ql qs qc h2 qx2 qy2 ql2 qs2 qc2 oq rh rx ry rg rt rs rw i cells slots 1081 := by
  obtain ⟨⟨hx, hb, hr0, hml, hown, hts0, hX, hbl, hlocks, hgv⟩, hl0, hE, hN, hk, hK⟩ := hC
  have hts : ∀ w ∈ wsL_law, w.before #[Value.ref b] s = true := fun w h => hts0 w (wsL_law_in w h)
  have hA : ∀ q : Nat, s.heap.size ≤ q → (fun q : Nat => s.heap.size ≤ q) q := fun _ h => h
  have hbA : ¬ (fun q : Nat => s.heap.size ≤ q) b := Nat.not_le.mpr hbl
  have F : CallFix p m c cL_law 9 s #[Value.ref b] wsL_law RL := ⟨hx, hb, hml, hown, hts⟩
  intro hs fl0 n0 t0 xs ys lf sy co n2 t2 xs2 ys2 lf2 sy2 co2 lo th n xr yr hr t tb sg fl H locs ls hW hP hD hS hl
  obtain ⟨e1, e2, e3, hZ⟩ := hW
  subst e1 e2 e3
  have hbd := Z_bd hZ
  have op := op_would (fl := fl) hZ (xs0 (nI i + 1).toNatClampNeg) (xs0 (nI i + 2).toNatClampNeg)
  refine lv_aload_n hx hb dL_law_1081 rfl (lv_at hl 2 rfl) ?_
  refine lv_aload_n hx hb dL_law_1082 rfl (lv_at hl 1 rfl) ?_
  refine lv_iload hx hb dL_law_1083 (lv_at hl 0 rfl) ?_
  refine lv_iconst (v := 1) hx hb dL_law_1085 (by decide) ?_
  refine lv_iadd hx hb dL_law_1086 ?_
  refine va_sld hx hb hX hbl hbA hS (sc_in (j := 1) (by omega) hL) dL_law_1087 ?_
  refine lv_aload_n hx hb dL_law_1088 rfl (lv_at hl 1 rfl) ?_
  refine lv_iload hx hb dL_law_1089 (lv_at hl 0 rfl) ?_
  refine lv_iconst (v := 2) hx hb dL_law_1091 (by decide) ?_
  refine lv_iadd hx hb dL_law_1092 ?_
  refine va_sld hx hb hX hbl hbA hS (sc_in (j := 2) (by omega) hL) dL_law_1093 ?_
  refine lv_aload_n hx hb dL_law_1094 rfl (lv_at hl 4 rfl) ?_
  refine lw_cS (As := [.ref o, .int (xs0 (nI i + 1).toNatClampNeg), .int (xs0 (nI i + 2).toNatClampNeg), .ref oq]) (rest := []) hE hN F (c_L_would l hl0 dC dI cI cZ cY cL o qo hs fl h qx qy ql qs qc n t xs ys lf sy co h2 qx2 qy2 ql2 qs2 qc2 n2 t2 xs2 ys2 lf2 sy2 co2 oq lo (xs0 (nI i + 1).toNatClampNeg) (xs0 (nI i + 2).toNatClampNeg) H.size (by omega) (by omega) (fun q => Z_find hZ q)) (vx_cwSW 4 hts gL_law_L_would rfl rfl rfl hd_L_would.2 ⟨Nat.le_of_ble_eq_true rfl, Nat.le_of_ble_eq_true rfl⟩) hP hK hD hS hA rfl hl.1 rfl (lv_room (Nat.le_of_ble_eq_true rfl)) dL_law_1095 ⟨show cells + 2 ≤ 601024 by omega, show slots + 12 ≤ 7293034 by omega⟩ (fun H locs hP hD hS => ?_)
  refine lv_istore (lv' := [(5, .int (x_k (x_okWd n xs ys (xs0 (nI i + 1).toNatClampNeg) (xs0 (nI i + 2).toNatClampNeg)) (x_exWd (xs0 (nI i + 1).toNatClampNeg) (xs0 (nI i + 2).toNatClampNeg)) xIAE)), (4, .int (nI i)), (0, .ref b), (1, .ref o), (2, .ref rh), (3, .ref oq)]) hx hb dL_law_1098 hl (by decide) rfl (fun ls hl => ?_)
  refine lv_aload_n hx hb dL_law_1100 rfl (lv_at hl 4 rfl) ?_
  refine lv_aload_n hx hb dL_law_1101 rfl (lv_at hl 2 rfl) ?_
  refine lv_iload hx hb dL_law_1102 (lv_at hl 1 rfl) ?_
  refine lv_iconst (v := 1) hx hb dL_law_1104 (by decide) ?_
  refine lv_iadd hx hb dL_law_1105 ?_
  refine va_sld hx hb hX hbl hbA hS (sc_in (j := 1) (by omega) hL) dL_law_1106 ?_
  refine lv_aload_n hx hb dL_law_1107 rfl (lv_at hl 2 rfl) ?_
  refine lv_iload hx hb dL_law_1108 (lv_at hl 1 rfl) ?_
  refine lv_iconst (v := 2) hx hb dL_law_1110 (by decide) ?_
  refine lv_iadd hx hb dL_law_1111 ?_
  refine va_sld hx hb hX hbl hbA hS (sc_in (j := 2) (by omega) hL) dL_law_1112 ?_
  refine lw_cRk hk (C := RX2) (As := [.int (xs0 (nI i + 1).toNatClampNeg), .int (xs0 (nI i + 2).toNatClampNeg)]) (rest := []) F (c_X2_would l dC dI cI cZ cY rh rx ry rg rt rs rw th n xr yr hr t tb sg fl (xs0 (nI i + 1).toNatClampNeg) (xs0 (nI i + 2).toNatClampNeg) H.size (by omega) (by omega) (Z_okT hZ) op.1 op.2.1 (Z_01 hZ)) (cwV 2 hts gL_law_X2_would rfl rfl rfl hd_X2_would ⟨Nat.le_of_ble_eq_true rfl, Nat.le_of_ble_eq_true rfl⟩) hP hK hD hS hA (va_recv hK hP.comm.left (ci := 2) (q0 := 0) rfl rfl) rfl hl.1 rfl (lv_room (Nat.le_of_ble_eq_true rfl)) dL_law_1113 ⟨show cells + 2 + 22 ≤ 601024 by omega, show slots + 12 + 350 ≤ 7293034 by omega⟩ (fun H locs hP hD hS => ?_)
  refine lv_topi (fun v6 ev6 => ?_)
  refine lv_istore (lv' := [(6, .int v6), (5, .int (x_k (x_okWd n xs ys (xs0 (nI i + 1).toNatClampNeg) (xs0 (nI i + 2).toNatClampNeg)) (x_exWd (xs0 (nI i + 1).toNatClampNeg) (xs0 (nI i + 2).toNatClampNeg)) xIAE)), (4, .int (nI i)), (0, .ref b), (1, .ref o), (2, .ref rh), (3, .ref oq)]) hx hb dL_law_1116 hl (by decide) rfl (fun ls hl => ?_)
  refine lv_aload_n hx hb dL_law_1118 rfl (lv_at hl 5 rfl) ?_
  refine lw_cT (C := RX2) (As := []) (rest := []) F (c_X2_thrown l dC dI cI cZ cY rh rx ry rg rt rs rw ((r_thO n xr yr (xs0 (nI i + 1).toNatClampNeg) (xs0 (nI i + 2).toNatClampNeg))) n ((r_b1 (r_okO n xr yr (xs0 (nI i + 1).toNatClampNeg) (xs0 (nI i + 2).toNatClampNeg)) (m_ac n xr (xs0 (nI i + 1).toNatClampNeg)) xr)) ((r_b1 (r_okO n xr yr (xs0 (nI i + 1).toNatClampNeg) (xs0 (nI i + 2).toNatClampNeg)) (m_ac n yr (xs0 (nI i + 2).toNatClampNeg)) yr)) ((r_b1 (r_okO n xr yr (xs0 (nI i + 1).toNatClampNeg) (xs0 (nI i + 2).toNatClampNeg)) (m_ac n hr 0) hr)) t tb sg fl) (cwV 0 hts gL_law_X2_thrown rfl rfl rfl hd_X2_thrown ⟨Nat.le_of_ble_eq_true rfl, Nat.le_of_ble_eq_true rfl⟩) hP hK (va_recv hK hP.comm.left (ci := 2) (q0 := 0) rfl rfl) rfl hl.1 rfl (lv_room (Nat.le_of_ble_eq_true rfl)) dL_law_1119 ⟨show cells + 2 + 22 + 0 ≤ 601024 by omega, show slots + 12 + 350 + 0 ≤ 7293034 by omega⟩ ?_
  refine lv_iload hx hb dL_law_1122 (lv_at hl 1 rfl) ?_
  refine lv_icmp_eq (tgt := 1129) hx hb dL_law_1124 (by decide) (fun _ => ?_) (fun q => absurd (op.2.2.1).symm q)
  refine lv_iload hx hb dL_law_1129 (lv_at hl 1 rfl) ?_
  cases hok : (x_okWd n xs ys (xs0 (nI i + 1).toNatClampNeg) (xs0 (nI i + 2).toNatClampNeg)) with
  | false =>
    rw [hok] at hP hD
    refine lv_if_ne (tgt := 1146) hx hb dL_law_1131 (by decide) (fun _ => ?_) (fun q => absurd (x_k_0 q) (by first | decide | (rw [hok]; decide)))
    refine lv_goto (tgt := 1204) hx hb dL_law_1146 (by decide) ?_
    refine W.widen (k := cells + 24) (n := slots + 364) (by omega) (by omega) ?_
    exact kk _ _ _ _ _ _ _ _ _ _ _ _ _ _ _ _ _ _ _ _ _ _ _ _ _ _ _ _ _ (op.2.2.2.2) hP hD hS (lv_sub hl [2, 3, 4, 5, 6] rfl)
  | true =>
    rw [hok] at hP hD
    have hk0 : (x_k (x_okWd n xs ys (xs0 (nI i + 1).toNatClampNeg) (xs0 (nI i + 2).toNatClampNeg)) (x_exWd (xs0 (nI i + 1).toNatClampNeg) (xs0 (nI i + 2).toNatClampNeg)) xIAE) = 0 := by rw [hok]; rfl
    refine lv_if_ne (tgt := 1146) hx hb dL_law_1131 (by decide) (fun q => absurd (by first | rfl | exact hk0) q) (fun _ => ?_)
    refine lv_aload_n hx hb dL_law_1134 rfl (lv_at hl 6 rfl) ?_
    refine lv_iconst (v := 0) hx hb dL_law_1135 (by decide) ?_
    refine va_lald (D := (dC, dI)) hx hb hK hP 14 3 rfl rfl (vp_in_nI (n := 0) (N := 1) (by decide) (by decide)) dL_law_1136 ?_
    refine lv_iload hx hb dL_law_1137 (lv_at hl 0 rfl) ?_
    refine lv_i2l hx hb dL_law_1139 rfl ?_
    refine W.lcmp hx hb dL_law_1140 ?_
    refine lv_if_eq (tgt := 1146) hx hb dL_law_1141 (by decide) (fun _ => ?_) (fun q => absurd (by rw [ev6, ← (op.2.2.2.1 hok)]; exact lg_cmp_self _) q)
    refine lv_goto (tgt := 1204) hx hb dL_law_1146 (by decide) ?_
    refine W.widen (k := cells + 24) (n := slots + 364) (by omega) (by omega) ?_
    exact kk _ _ _ _ _ _ _ _ _ _ _ _ _ _ _ _ _ _ _ _ _ _ _ _ _ _ _ _ _ (op.2.2.2.2) hP hD hS (lv_sub hl [2, 3, 4, 5, 6] rfl)
set_option maxHeartbeats 4000000 in
set_option maxRecDepth 100000 in
theorem lw_op_mean {p : Program} {l : Launch} {e : Env} {s : State} {m : MethodId} {below : List Frame} {meth : Method} {c : Code} {dC : Nat → ClassId} {dI : Nat → Nat → Nat} {cI cZ cY cL : ClassId} {b o qo h qx qy ql qs qc h2 qx2 qy2 ql2 qs2 qc2 oq rh rx ry rg rt rs : Nat} {rw : Nat → Nat} {L : Nat} {xs0 : Nat → Int32} {i cells slots : Nat} (hC : lw_C p l s m meth c dC dI cI cZ cY cL b L xs0) (hL : L ≤ 2048) (hi : i + 4 ≤ L) (hc : cells + 24 ≤ 601024) (hs9 : slots + 364 ≤ 7293034) (kk : lw_K p l e s m below meth c dC dI cI cZ cY cL b o qo h qx qy ql qs qc h2 qx2 qy2 ql2 qs2 qc2 oq rh rx ry rg rt rs rw i (cells + 24) (slots + 364) 1204) : lw_K p l e s m below meth c dC dI cI cZ cY cL b o qo h qx qy ql qs qc h2 qx2 qy2 ql2 qs2 qc2 oq rh rx ry rg rt rs rw i cells slots 1149 := by
  obtain ⟨⟨hx, hb, hr0, hml, hown, hts0, hX, hbl, hlocks, hgv⟩, hl0, hE, hN, hk, hK⟩ := hC
  have hts : ∀ w ∈ wsL_law, w.before #[Value.ref b] s = true := fun w h => hts0 w (wsL_law_in w h)
  have hA : ∀ q : Nat, s.heap.size ≤ q → (fun q : Nat => s.heap.size ≤ q) q := fun _ h => h
  have hbA : ¬ (fun q : Nat => s.heap.size ≤ q) b := Nat.not_le.mpr hbl
  have F : CallFix p m c cL_law 9 s #[Value.ref b] wsL_law RL := ⟨hx, hb, hml, hown, hts⟩
  intro hs fl0 n0 t0 xs ys lf sy co n2 t2 xs2 ys2 lf2 sy2 co2 lo th n xr yr hr t tb sg fl H locs ls hW hP hD hS hl
  obtain ⟨e1, e2, e3, hZ⟩ := hW
  subst e1 e2 e3
  have hbd := Z_bd hZ
  have hP : va_P (dC, dI) vwCl (wX cI o qo hs fl h qx qy ql qs qc n t xs ys lf sy co h2 qx2 qy2 ql2 qs2 qc2 n2 t2 xs2 ys2 lf2 sy2 co2 ++ ([(oq, .inl (cL, 1, .inr (.inl lo)))] ++ wR cI cZ cY rh rx ry rg rt rs rw th n xr yr hr t tb sg fl)) H := by rw [← List.append_assoc]; exact hP
  have hD : va_D (fun q : Nat => s.heap.size ≤ q) (wX cI o qo hs fl h qx qy ql qs qc n t xs ys lf sy co h2 qx2 qy2 ql2 qs2 qc2 n2 t2 xs2 ys2 lf2 sy2 co2 ++ ([(oq, .inl (cL, 1, .inr (.inl lo)))] ++ wR cI cZ cY rh rx ry rg rt rs rw th n xr yr hr t tb sg fl)) := by rw [← List.append_assoc]; exact hD
  refine lv_aload_n hx hb dL_law_1149 rfl (lv_at hl 2 rfl) ?_
  refine lw_cXd (C := RX1) (As := []) (rest := []) F (c_X1_mean l dC dI cI cZ cY o qo hs fl h qx qy ql qs qc n t xs ys lf sy co h2 qx2 qy2 ql2 qs2 qc2 n2 t2 xs2 ys2 lf2 sy2 co2 (by omega) (by omega)) (cwV 0 hts gL_law_X1_mean rfl rfl rfl hd_X1_mean ⟨Nat.le_of_ble_eq_true rfl, Nat.le_of_ble_eq_true rfl⟩) hP hK (va_recv hK hP (ci := 1) (q0 := 0) rfl rfl) rfl hl.1 rfl (lv_room (Nat.le_of_ble_eq_true rfl)) dL_law_1150 ⟨show cells + 0 ≤ 601024 by omega, show slots + 0 ≤ 7293034 by omega⟩ ?_
  rw [← List.append_assoc] at hP hD
  rw [op_mean hZ]
  refine lv_dstore (lv' := [(5, .double (r_mean n t xr yr tb sg)), (4, .int (nI i)), (0, .ref b), (1, .ref o), (2, .ref rh), (3, .ref oq)]) hx hb dL_law_1153 hl (by decide) rfl (fun ls hl => ?_)
  refine lv_aload_n hx hb dL_law_1155 rfl (lv_at hl 4 rfl) ?_
  refine lw_cRd (C := RX2) (As := []) (rest := []) F (c_X2_mean l dC dI cI cZ cY rh rx ry rg rt rs rw th n xr yr hr t tb sg fl H.size (by omega) (by omega) (by omega) (Z_okF hZ)) (cwV 0 hts gL_law_X2_mean rfl rfl rfl hd_X2_mean ⟨Nat.le_of_ble_eq_true rfl, Nat.le_of_ble_eq_true rfl⟩) hP hK hD hS hA (va_recv hK hP.comm.left (ci := 2) (q0 := 0) rfl rfl) rfl hl.1 rfl (lv_room (Nat.le_of_ble_eq_true rfl)) dL_law_1156 ⟨show cells + 0 ≤ 601024 by omega, show slots + 0 ≤ 7293034 by omega⟩ (fun H locs hP hD hS => ?_)
  refine lv_dstore (lv' := [(7, .double (r_mean n t xr yr tb sg)), (5, .double (r_mean n t xr yr tb sg)), (4, .int (nI i)), (0, .ref b), (1, .ref o), (2, .ref rh), (3, .ref oq)]) hx hb dL_law_1159 hl (by decide) rfl (fun ls hl => ?_)
  generalize r_mean n t xr yr tb sg = v at hl
  refine lv_dload hx hb dL_law_1161 (lv_at hl 1 rfl) ?_
  refine lv_dload hx hb dL_law_1163 (lv_at hl 0 rfl) ?_
  refine lv_dcmp hx hb dL_law_1165 ?_
  refine lv_if_eq (tgt := 1187) hx hb dL_law_1166 (by decide) (fun _ => ?_) (fun q1 => ?_)
  · refine lv_goto (tgt := 1204) hx hb dL_law_1187 (by decide) ?_
    refine W.widen (k := cells + 24) (n := slots + 364) (by omega) (by omega) ?_
    exact kk _ _ _ _ _ _ _ _ _ _ _ _ _ _ _ _ _ _ _ _ _ _ _ _ _ _ _ _ _ (W_of hZ) hP hD hS (lv_sub hl [2, 3, 4, 5, 6] rfl)
  · refine lv_dload hx hb dL_law_1169 (lv_at hl 1 rfl) ?_
    refine lv_dload hx hb dL_law_1171 (lv_at hl 1 rfl) ?_
    refine lv_dcmp hx hb dL_law_1173 ?_
    refine lv_if_eq (tgt := 1185) hx hb dL_law_1174 (by decide) (fun q => absurd q q1) (fun _ => ?_)
    refine lv_dload hx hb dL_law_1177 (lv_at hl 0 rfl) ?_
    refine lv_dload hx hb dL_law_1179 (lv_at hl 0 rfl) ?_
    refine lv_dcmp hx hb dL_law_1181 ?_
    refine lv_if_ne (tgt := 1187) hx hb dL_law_1182 (by decide) (fun _ => ?_) (fun q => absurd q q1)
    refine lv_goto (tgt := 1204) hx hb dL_law_1187 (by decide) ?_
    refine W.widen (k := cells + 24) (n := slots + 364) (by omega) (by omega) ?_
    exact kk _ _ _ _ _ _ _ _ _ _ _ _ _ _ _ _ _ _ _ _ _ _ _ _ _ _ _ _ _ (W_of hZ) hP hD hS (lv_sub hl [2, 3, 4, 5, 6] rfl)
set_option maxHeartbeats 4000000 in
set_option maxRecDepth 100000 in
theorem lw_op_digest {p : Program} {l : Launch} {e : Env} {s : State} {m : MethodId} {below : List Frame} {meth : Method} {c : Code} {dC : Nat → ClassId} {dI : Nat → Nat → Nat} {cI cZ cY cL : ClassId} {b o qo h qx qy ql qs qc h2 qx2 qy2 ql2 qs2 qc2 oq rh rx ry rg rt rs : Nat} {rw : Nat → Nat} {L : Nat} {xs0 : Nat → Int32} {i cells slots : Nat} (hC : lw_C p l s m meth c dC dI cI cZ cY cL b L xs0) (hL : L ≤ 2048) (hi : i + 4 ≤ L) (hc : cells + 24 ≤ 601024) (hs9 : slots + 364 ≤ 7293034) (kk : lw_K p l e s m below meth c dC dI cI cZ cY cL b o qo h qx qy ql qs qc h2 qx2 qy2 ql2 qs2 qc2 oq rh rx ry rg rt rs rw i (cells + 24) (slots + 364) 1204) : lw_K p l e s m below meth c dC dI cI cZ cY cL b o qo h qx qy ql qs qc h2 qx2 qy2 ql2 qs2 qc2 oq rh rx ry rg rt rs rw i cells slots 1190 := by
  obtain ⟨⟨hx, hb, hr0, hml, hown, hts0, hX, hbl, hlocks, hgv⟩, hl0, hE, hN, hk, hK⟩ := hC
  have hts : ∀ w ∈ wsL_law, w.before #[Value.ref b] s = true := fun w h => hts0 w (wsL_law_in w h)
  have hA : ∀ q : Nat, s.heap.size ≤ q → (fun q : Nat => s.heap.size ≤ q) q := fun _ h => h
  have hbA : ¬ (fun q : Nat => s.heap.size ≤ q) b := Nat.not_le.mpr hbl
  have F : CallFix p m c cL_law 9 s #[Value.ref b] wsL_law RL := ⟨hx, hb, hml, hown, hts⟩
  intro hs fl0 n0 t0 xs ys lf sy co n2 t2 xs2 ys2 lf2 sy2 co2 lo th n xr yr hr t tb sg fl H locs ls hW hP hD hS hl
  obtain ⟨e1, e2, e3, hZ⟩ := hW
  subst e1 e2 e3
  have hbd := Z_bd hZ
  have hP : va_P (dC, dI) vwCl (wX cI o qo hs fl h qx qy ql qs qc n t xs ys lf sy co h2 qx2 qy2 ql2 qs2 qc2 n2 t2 xs2 ys2 lf2 sy2 co2 ++ ([(oq, .inl (cL, 1, .inr (.inl lo)))] ++ wR cI cZ cY rh rx ry rg rt rs rw th n xr yr hr t tb sg fl)) H := by rw [← List.append_assoc]; exact hP
  have hD : va_D (fun q : Nat => s.heap.size ≤ q) (wX cI o qo hs fl h qx qy ql qs qc n t xs ys lf sy co h2 qx2 qy2 ql2 qs2 qc2 n2 t2 xs2 ys2 lf2 sy2 co2 ++ ([(oq, .inl (cL, 1, .inr (.inl lo)))] ++ wR cI cZ cY rh rx ry rg rt rs rw th n xr yr hr t tb sg fl)) := by rw [← List.append_assoc]; exact hD
  refine lv_aload_n hx hb dL_law_1190 rfl (lv_at hl 2 rfl) ?_
  refine lw_cXl (C := RX1) (As := []) (rest := []) F (c_X1_digest l dC dI cI cZ cY o qo hs fl h qx qy ql qs qc n t xs ys lf sy co h2 qx2 qy2 ql2 qs2 qc2 n2 t2 xs2 ys2 lf2 sy2 co2 (by omega) (by omega)) (cwV 0 hts gL_law_X1_digest rfl rfl rfl hd_X1_digest ⟨Nat.le_of_ble_eq_true rfl, Nat.le_of_ble_eq_true rfl⟩) hP hK (va_recv hK hP (ci := 1) (q0 := 0) rfl rfl) rfl hl.1 rfl (lv_room (Nat.le_of_ble_eq_true rfl)) dL_law_1191 ⟨show cells + 0 ≤ 601024 by omega, show slots + 0 ≤ 7293034 by omega⟩ ?_
  rw [← List.append_assoc] at hP hD
  refine lv_aload_n hx hb dL_law_1194 rfl (lv_at hl 3 rfl) ?_
  refine lw_cRl (C := RX2) (As := []) (rest := [.long (x_digest n t hs xs ys lf sy co fl)]) F (c_X2_digest l dC dI cI cZ cY rh rx ry rg rt rs rw th n xr yr hr t tb sg fl H.size (by omega) (by omega) (Z_okT hZ) (Z_okF hZ)) (cwV 0 hts gL_law_X2_digest rfl rfl rfl hd_X2_digest ⟨Nat.le_of_ble_eq_true rfl, Nat.le_of_ble_eq_true rfl⟩) hP hK hD hS hA (va_recv hK hP.comm.left (ci := 2) (q0 := 0) rfl rfl) rfl hl.1 rfl (lv_room (Nat.le_of_ble_eq_true rfl)) dL_law_1195 ⟨show cells + 0 ≤ 601024 by omega, show slots + 0 ≤ 7293034 by omega⟩ (fun H locs hP hD hS => ?_)
  refine W.lcmp hx hb dL_law_1198 ?_
  refine lv_if_eq (tgt := 1204) hx hb dL_law_1199 (by decide) (fun _ => ?_) (fun q => absurd (by rw [op_digest hZ fl]; exact lg_cmp_self _) q)
  refine W.widen (k := cells + 24) (n := slots + 364) (by omega) (by omega) ?_
  exact kk _ _ _ _ _ _ _ _ _ _ _ _ _ _ _ _ _ _ _ _ _ _ _ _ _ _ _ _ _ (W_of hZ) hP hD hS (lv_sub hl [0, 1, 2, 3, 4] rfl)
