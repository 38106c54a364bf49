set_option maxHeartbeats 4000000 in
set_option maxRecDepth 100000 in
theorem lw_op_build {p : Program} {l : Launch} {e : Env} {s : State} {m : MethodId} {below : List Frame} {meth : Method} {c : Code} {dC : Nat → ClassId} {dI : Nat → Nat → Nat} {cI cZ cY cL : ClassId} {b o qo h qx qy ql qs qc h2 qx2 qy2 ql2 qs2 qc2 oq rh rx ry rg rt rs : Nat} {rw : Nat → Nat} {L : Nat} {xs0 : Nat → Int32} {i cells slots : Nat} (hC : lw_C p l s m meth c dC dI cI cZ cY cL b L xs0) (hL : L ≤ 2048) (hi : i + 4 ≤ L) (hc : cells + 24 ≤ 601024) (hs9 : slots + 364 ≤ 7293034) (kk : lw_K p l e s m below meth c dC dI cI cZ cY cL b o qo h qx qy ql qs qc h2 qx2 qy2 ql2 qs2 qc2 oq rh rx ry rg rt rs rw i (cells + 24) (slots + 364) 1204) : lw_K p l e s m below meth c dC dI cI cZ cY cL b o qo h qx qy ql qs qc h2 qx2 qy2 ql2 qs2 qc2 oq rh rx ry rg rt rs rw i cells slots 124 := by
  obtain ⟨⟨hx, hb, hr0, hml, hown, hts0, hX, hbl, hlocks, hgv⟩, hl0, hE, hN, hk, hK⟩ := hC
  have hts : ∀ w ∈ wsL_law, w.before #[Value.ref b] s = true := fun w h => hts0 w (wsL_law_in w h)
  have hA : ∀ q : Nat, s.heap.size ≤ q → (fun q : Nat => s.heap.size ≤ q) q := fun _ h => h
  have hbA : ¬ (fun q : Nat => s.heap.size ≤ q) b := Nat.not_le.mpr hbl
  have F : CallFix p m c cL_law 9 s #[Value.ref b] wsL_law RL := ⟨hx, hb, hml, hown, hts⟩
  intro hs fl0 n0 t0 xs ys lf sy co n2 t2 xs2 ys2 lf2 sy2 co2 lo th n xr yr hr t tb sg fl H locs ls hW hP hD hS hl
  obtain ⟨e1, e2, e3, hZ⟩ := hW
  subst e1 e2 e3
  have hbd := Z_bd hZ
  have op := op_build (fl := fl) hZ (xs0 (nI i + 1).toNatClampNeg) (xs0 (nI i + 2).toNatClampNeg) (xs0 (nI i + 3).toNatClampNeg)
  refine lv_aload_n hx hb dL_law_124 rfl (lv_at hl 2 rfl) ?_
  refine lv_aload_n hx hb dL_law_125 rfl (lv_at hl 1 rfl) ?_
  refine lv_iload hx hb dL_law_126 (lv_at hl 0 rfl) ?_
  refine lv_iconst (v := 1) hx hb dL_law_128 (by decide) ?_
  refine lv_iadd hx hb dL_law_129 ?_
  refine va_sld hx hb hX hbl hbA hS (sc_in (j := 1) (by omega) hL) dL_law_130 ?_
  refine lv_aload_n hx hb dL_law_131 rfl (lv_at hl 1 rfl) ?_
  refine lv_iload hx hb dL_law_132 (lv_at hl 0 rfl) ?_
  refine lv_iconst (v := 2) hx hb dL_law_134 (by decide) ?_
  refine lv_iadd hx hb dL_law_135 ?_
  refine va_sld hx hb hX hbl hbA hS (sc_in (j := 2) (by omega) hL) dL_law_136 ?_
  refine lv_aload_n hx hb dL_law_137 rfl (lv_at hl 1 rfl) ?_
  refine lv_iload hx hb dL_law_138 (lv_at hl 0 rfl) ?_
  refine lv_iconst (v := 3) hx hb dL_law_140 (by decide) ?_
  refine lv_iadd hx hb dL_law_141 ?_
  refine va_sld hx hb hX hbl hbA hS (sc_in (j := 3) (by omega) hL) dL_law_142 ?_
  refine lv_aload_n hx hb dL_law_143 rfl (lv_at hl 4 rfl) ?_
  refine lw_cS (As := [.ref o, .int (xs0 (nI i + 1).toNatClampNeg), .int (xs0 (nI i + 2).toNatClampNeg), .int (xs0 (nI i + 3).toNatClampNeg), .ref oq]) (rest := []) hE hN F (c_L_build l hl0 dC dI cI cZ cY cL o qo hs fl h qx qy ql qs qc n t xs ys lf sy co h2 qx2 qy2 ql2 qs2 qc2 n2 t2 xs2 ys2 lf2 sy2 co2 oq lo (xs0 (nI i + 1).toNatClampNeg) (xs0 (nI i + 2).toNatClampNeg) (xs0 (nI i + 3).toNatClampNeg) H.size (by omega) (by omega) (fun q => Z_find hZ q)) (vx_cwSW 5 hts gL_law_L_build rfl rfl rfl hd_L_build.2 ⟨Nat.le_of_ble_eq_true rfl, Nat.le_of_ble_eq_true rfl⟩) hP hK hD hS hA rfl hl.1 rfl (lv_room (Nat.le_of_ble_eq_true rfl)) dL_law_144 ⟨show cells + 3 ≤ 601024 by omega, show slots + 18 ≤ 7293034 by omega⟩ (fun H locs hP hD hS => ?_)
  refine lv_istore (lv' := [(5, .int (x_k (x_okBd n xs ys (xs0 (nI i + 1).toNatClampNeg) (xs0 (nI i + 2).toNatClampNeg) (xs0 (nI i + 3).toNatClampNeg)) (x_exBd (xs0 (nI i + 1).toNatClampNeg) (xs0 (nI i + 2).toNatClampNeg) (xs0 (nI i + 3).toNatClampNeg)) xIAE)), (4, .int (nI i)), (0, .ref b), (1, .ref o), (2, .ref rh), (3, .ref oq)]) hx hb dL_law_147 hl (by decide) rfl (fun ls hl => ?_)
  refine lv_aload_n hx hb dL_law_149 rfl (lv_at hl 4 rfl) ?_
  refine lv_aload_n hx hb dL_law_150 rfl (lv_at hl 2 rfl) ?_
  refine lv_iload hx hb dL_law_151 (lv_at hl 1 rfl) ?_
  refine lv_iconst (v := 1) hx hb dL_law_153 (by decide) ?_
  refine lv_iadd hx hb dL_law_154 ?_
  refine va_sld hx hb hX hbl hbA hS (sc_in (j := 1) (by omega) hL) dL_law_155 ?_
  refine lv_aload_n hx hb dL_law_156 rfl (lv_at hl 2 rfl) ?_
  refine lv_iload hx hb dL_law_157 (lv_at hl 1 rfl) ?_
  refine lv_iconst (v := 2) hx hb dL_law_159 (by decide) ?_
  refine lv_iadd hx hb dL_law_160 ?_
  refine va_sld hx hb hX hbl hbA hS (sc_in (j := 2) (by omega) hL) dL_law_161 ?_
  refine lv_aload_n hx hb dL_law_162 rfl (lv_at hl 2 rfl) ?_
  refine lv_iload hx hb dL_law_163 (lv_at hl 1 rfl) ?_
  refine lv_iconst (v := 3) hx hb dL_law_165 (by decide) ?_
  refine lv_iadd hx hb dL_law_166 ?_
  refine va_sld hx hb hX hbl hbA hS (sc_in (j := 3) (by omega) hL) dL_law_167 ?_
  refine lw_cR (C := RX2) (As := [.int (xs0 (nI i + 1).toNatClampNeg), .int (xs0 (nI i + 2).toNatClampNeg), .int (xs0 (nI i + 3).toNatClampNeg)]) (rest := []) F (c_X2_build l dC dI cI cZ cY rh rx ry rg rt rs rw th n xr yr hr t tb sg fl (xs0 (nI i + 1).toNatClampNeg) (xs0 (nI i + 2).toNatClampNeg) (xs0 (nI i + 3).toNatClampNeg) H.size (by omega) (by omega) (Z_okT hZ) op.1) (cwV 3 hts gL_law_X2_build rfl rfl rfl hd_X2_build ⟨Nat.le_of_ble_eq_true rfl, Nat.le_of_ble_eq_true rfl⟩) hP hK hD hS hA (va_recv hK hP.comm.left (ci := 2) (q0 := 0) rfl rfl) rfl hl.1 rfl (lv_room (Nat.le_of_ble_eq_true rfl)) dL_law_168 ⟨show cells + 3 + 3 ≤ 601024 by omega, show slots + 18 + 8 ≤ 7293034 by omega⟩ (fun H locs hP hD hS => ?_)
  refine lv_topi (fun v6 ev6 => ?_)
  refine lv_istore (lv' := [(6, .int v6), (5, .int (x_k (x_okBd n xs ys (xs0 (nI i + 1).toNatClampNeg) (xs0 (nI i + 2).toNatClampNeg) (xs0 (nI i + 3).toNatClampNeg)) (x_exBd (xs0 (nI i + 1).toNatClampNeg) (xs0 (nI i + 2).toNatClampNeg) (xs0 (nI i + 3).toNatClampNeg)) xIAE)), (4, .int (nI i)), (0, .ref b), (1, .ref o), (2, .ref rh), (3, .ref oq)]) hx hb dL_law_171 hl (by decide) rfl (fun ls hl => ?_)
  refine lv_aload_n hx hb dL_law_173 rfl (lv_at hl 5 rfl) ?_
  refine lw_cT (C := RX2) (As := []) (rest := []) F (c_X2_thrown l dC dI cI cZ cY rh rx ry rg rt rs rw ((r_thB n xr yr (xs0 (nI i + 1).toNatClampNeg) (xs0 (nI i + 2).toNatClampNeg) (xs0 (nI i + 3).toNatClampNeg))) ((r_b1 (r_okB n xr yr (xs0 (nI i + 1).toNatClampNeg) (xs0 (nI i + 2).toNatClampNeg) (xs0 (nI i + 3).toNatClampNeg)) (n + 1) n)) ((r_b1 (r_okB n xr yr (xs0 (nI i + 1).toNatClampNeg) (xs0 (nI i + 2).toNatClampNeg) (xs0 (nI i + 3).toNatClampNeg)) (m_ac n xr (xs0 (nI i + 1).toNatClampNeg)) xr)) ((r_b1 (r_okB n xr yr (xs0 (nI i + 1).toNatClampNeg) (xs0 (nI i + 2).toNatClampNeg) (xs0 (nI i + 3).toNatClampNeg)) (m_ac n yr (xs0 (nI i + 2).toNatClampNeg)) yr)) ((r_b1 (r_okB n xr yr (xs0 (nI i + 1).toNatClampNeg) (xs0 (nI i + 2).toNatClampNeg) (xs0 (nI i + 3).toNatClampNeg)) (m_ac n hr (xs0 (nI i + 3).toNatClampNeg)) hr)) ((r_b1 (r_okB n xr yr (xs0 (nI i + 1).toNatClampNeg) (xs0 (nI i + 2).toNatClampNeg) (xs0 (nI i + 3).toNatClampNeg)) ((r_adS n t xr yr tb sg (xs0 (nI i + 1).toNatClampNeg) (xs0 (nI i + 2).toNatClampNeg)).1) t)) ((r_b1 (r_okB n xr yr (xs0 (nI i + 1).toNatClampNeg) (xs0 (nI i + 2).toNatClampNeg) (xs0 (nI i + 3).toNatClampNeg)) ((r_adS n t xr yr tb sg (xs0 (nI i + 1).toNatClampNeg) (xs0 (nI i + 2).toNatClampNeg)).2.1) tb)) ((r_b1 (r_okB n xr yr (xs0 (nI i + 1).toNatClampNeg) (xs0 (nI i + 2).toNatClampNeg) (xs0 (nI i + 3).toNatClampNeg)) (r_adSg n t xr yr tb sg (xs0 (nI i + 1).toNatClampNeg) (xs0 (nI i + 2).toNatClampNeg)) sg)) fl) (cwV 0 hts gL_law_X2_thrown rfl rfl rfl hd_X2_thrown ⟨Nat.le_of_ble_eq_true rfl, Nat.le_of_ble_eq_true rfl⟩) hP hK (va_recv hK hP.comm.left (ci := 2) (q0 := 0) rfl rfl) rfl hl.1 rfl (lv_room (Nat.le_of_ble_eq_true rfl)) dL_law_174 ⟨show cells + 3 + 3 + 0 ≤ 601024 by omega, show slots + 18 + 8 + 0 ≤ 7293034 by omega⟩ ?_
  refine lv_iload hx hb dL_law_177 (lv_at hl 1 rfl) ?_
  refine lv_icmp_eq (tgt := 184) hx hb dL_law_179 (by decide) (fun _ => ?_) (fun q => absurd (op.2.1).symm q)
  refine lv_iload hx hb dL_law_184 (lv_at hl 1 rfl) ?_
  cases hok : (x_okBd n xs ys (xs0 (nI i + 1).toNatClampNeg) (xs0 (nI i + 2).toNatClampNeg) (xs0 (nI i + 3).toNatClampNeg)) with
  | false =>
    rw [hok] at hP hD
    refine lv_if_ne (tgt := 201) hx hb dL_law_186 (by decide) (fun _ => ?_) (fun q => absurd (x_k_0 q) (by first | decide | (rw [hok]; decide)))
    refine lv_goto (tgt := 1204) hx hb dL_law_201 (by decide) ?_
    refine W.widen (k := cells + 24) (n := slots + 364) (by omega) (by omega) ?_
    exact kk _ _ _ _ _ _ _ _ _ _ _ _ _ _ _ _ _ _ _ _ _ _ _ _ _ _ _ _ _ (op.2.2.2 hok) hP hD hS (lv_sub hl [2, 3, 4, 5, 6] rfl)
  | true =>
    rw [hok] at hP hD
    have hk0 : (x_k (x_okBd n xs ys (xs0 (nI i + 1).toNatClampNeg) (xs0 (nI i + 2).toNatClampNeg) (xs0 (nI i + 3).toNatClampNeg)) (x_exBd (xs0 (nI i + 1).toNatClampNeg) (xs0 (nI i + 2).toNatClampNeg) (xs0 (nI i + 3).toNatClampNeg)) xIAE) = 0 := by rw [hok]; rfl
    refine lv_if_ne (tgt := 201) hx hb dL_law_186 (by decide) (fun q => absurd (by first | rfl | exact hk0) q) (fun _ => ?_)
    refine lv_aload_n hx hb dL_law_189 rfl (lv_at hl 6 rfl) ?_
    refine lv_iconst (v := 0) hx hb dL_law_190 (by decide) ?_
    refine va_lald (D := (dC, dI)) hx hb hK hP 14 3 rfl rfl (vp_in_nI (n := 0) (N := 1) (by decide) (by decide)) dL_law_191 ?_
    refine lv_iload hx hb dL_law_192 (lv_at hl 0 rfl) ?_
    refine lv_i2l hx hb dL_law_194 rfl ?_
    refine W.lcmp hx hb dL_law_195 ?_
    refine lv_if_eq (tgt := 201) hx hb dL_law_196 (by decide) (fun _ => ?_) (fun q => absurd (by rw [ev6, ← ((op.2.2.1 hok).1)]; exact lg_cmp_self _) q)
    refine lv_goto (tgt := 1204) hx hb dL_law_201 (by decide) ?_
    refine W.widen (k := cells + 24) (n := slots + 364) (by omega) (by omega) ?_
    exact kk _ _ _ _ _ _ _ _ _ _ _ _ _ _ _ _ _ _ _ _ _ _ _ _ _ _ _ _ _ ((op.2.2.1 hok).2) hP hD hS (lv_sub hl [2, 3, 4, 5, 6] rfl)
set_option maxHeartbeats 4000000 in
set_option maxRecDepth 100000 in
theorem lw_op_raise {p : Program} {l : Launch} {e : Env} {s : State} {m : MethodId} {below : List Frame} {meth : Method} {c : Code} {dC : Nat → ClassId} {dI : Nat → Nat → Nat} {cI cZ cY cL : ClassId} {b o qo h qx qy ql qs qc h2 qx2 qy2 ql2 qs2 qc2 oq rh rx ry rg rt rs : Nat} {rw : Nat → Nat} {L : Nat} {xs0 : Nat → Int32} {i cells slots : Nat} (hC : lw_C p l s m meth c dC dI cI cZ cY cL b L xs0) (hL : L ≤ 2048) (hi : i + 4 ≤ L) (hc : cells + 24 ≤ 601024) (hs9 : slots + 364 ≤ 7293034) (kk : lw_K p l e s m below meth c dC dI cI cZ cY cL b o qo h qx qy ql qs qc h2 qx2 qy2 ql2 qs2 qc2 oq rh rx ry rg rt rs rw i (cells + 24) (slots + 364) 1204) : lw_K p l e s m below meth c dC dI cI cZ cY cL b o qo h qx qy ql qs qc h2 qx2 qy2 ql2 qs2 qc2 oq rh rx ry rg rt rs rw i cells slots 204 := by
  obtain ⟨⟨hx, hb, hr0, hml, hown, hts0, hX, hbl, hlocks, hgv⟩, hl0, hE, hN, hk, hK⟩ := hC
  have hts : ∀ w ∈ wsL_law, w.before #[Value.ref b] s = true := fun w h => hts0 w (wsL_law_in w h)
  have hA : ∀ q : Nat, s.heap.size ≤ q → (fun q : Nat => s.heap.size ≤ q) q := fun _ h => h
  have hbA : ¬ (fun q : Nat => s.heap.size ≤ q) b := Nat.not_le.mpr hbl
  have F : CallFix p m c cL_law 9 s #[Value.ref b] wsL_law RL := ⟨hx, hb, hml, hown, hts⟩
  intro hs fl0 n0 t0 xs ys lf sy co n2 t2 xs2 ys2 lf2 sy2 co2 lo th n xr yr hr t tb sg fl H locs ls hW hP hD hS hl
  obtain ⟨e1, e2, e3, hZ⟩ := hW
  subst e1 e2 e3
  have hbd := Z_bd hZ
  have op := op_raise (fl := fl) hZ (xs0 (nI i + 1).toNatClampNeg) (xs0 (nI i + 2).toNatClampNeg)
  refine lv_aload_n hx hb dL_law_204 rfl (lv_at hl 2 rfl) ?_
  refine lv_aload_n hx hb dL_law_205 rfl (lv_at hl 1 rfl) ?_
  refine lv_iload hx hb dL_law_206 (lv_at hl 0 rfl) ?_
  refine lv_iconst (v := 1) hx hb dL_law_208 (by decide) ?_
  refine lv_iadd hx hb dL_law_209 ?_
  refine va_sld hx hb hX hbl hbA hS (sc_in (j := 1) (by omega) hL) dL_law_210 ?_
  refine lv_aload_n hx hb dL_law_211 rfl (lv_at hl 1 rfl) ?_
  refine lv_iload hx hb dL_law_212 (lv_at hl 0 rfl) ?_
  refine lv_iconst (v := 2) hx hb dL_law_214 (by decide) ?_
  refine lv_iadd hx hb dL_law_215 ?_
  refine va_sld hx hb hX hbl hbA hS (sc_in (j := 2) (by omega) hL) dL_law_216 ?_
  refine lv_aload_n hx hb dL_law_217 rfl (lv_at hl 4 rfl) ?_
  refine lw_cS (As := [.ref o, .int (xs0 (nI i + 1).toNatClampNeg), .int (xs0 (nI i + 2).toNatClampNeg), .ref oq]) (rest := []) hE hN F (c_L_raise l hl0 dC dI cI cZ cY cL o qo hs fl h qx qy ql qs qc n t xs ys lf sy co h2 qx2 qy2 ql2 qs2 qc2 n2 t2 xs2 ys2 lf2 sy2 co2 oq lo (xs0 (nI i + 1).toNatClampNeg) (xs0 (nI i + 2).toNatClampNeg) H.size ) (vx_cwSW 4 hts gL_law_L_raise rfl rfl rfl hd_L_raise.2 ⟨Nat.le_of_ble_eq_true rfl, Nat.le_of_ble_eq_true rfl⟩) hP hK hD hS hA rfl hl.1 rfl (lv_room (Nat.le_of_ble_eq_true rfl)) dL_law_218 ⟨show cells + 2 ≤ 601024 by omega, show slots + 12 ≤ 7293034 by omega⟩ (fun H locs hP hD hS => ?_)
  refine lv_istore (lv' := [(5, .int (x_k (x_okRs n (xs0 (nI i + 1).toNatClampNeg) (xs0 (nI i + 2).toNatClampNeg)) (x_exRs n (xs0 (nI i + 1).toNatClampNeg)) xIOB)), (4, .int (nI i)), (0, .ref b), (1, .ref o), (2, .ref rh), (3, .ref oq)]) hx hb dL_law_221 hl (by decide) rfl (fun ls hl => ?_)
  refine lv_aload_n hx hb dL_law_223 rfl (lv_at hl 4 rfl) ?_
  refine lv_aload_n hx hb dL_law_224 rfl (lv_at hl 2 rfl) ?_
  refine lv_iload hx hb dL_law_225 (lv_at hl 1 rfl) ?_
  refine lv_iconst (v := 1) hx hb dL_law_227 (by decide) ?_
  refine lv_iadd hx hb dL_law_228 ?_
  refine va_sld hx hb hX hbl hbA hS (sc_in (j := 1) (by omega) hL) dL_law_229 ?_
  refine lv_aload_n hx hb dL_law_230 rfl (lv_at hl 2 rfl) ?_
  refine lv_iload hx hb dL_law_231 (lv_at hl 1 rfl) ?_
  refine lv_iconst (v := 2) hx hb dL_law_233 (by decide) ?_
  refine lv_iadd hx hb dL_law_234 ?_
  refine va_sld hx hb hX hbl hbA hS (sc_in (j := 2) (by omega) hL) dL_law_235 ?_
  refine lw_cR (C := RX2) (As := [.int (xs0 (nI i + 1).toNatClampNeg), .int (xs0 (nI i + 2).toNatClampNeg)]) (rest := []) F (c_X2_raise l dC dI cI cZ cY rh rx ry rg rt rs rw th n xr yr hr t tb sg fl (xs0 (nI i + 1).toNatClampNeg) (xs0 (nI i + 2).toNatClampNeg) H.size (by omega) (by omega)) (cwV 2 hts gL_law_X2_raise rfl rfl rfl hd_X2_raise ⟨Nat.le_of_ble_eq_true rfl, Nat.le_of_ble_eq_true rfl⟩) hP hK hD hS hA (va_recv hK hP.comm.left (ci := 2) (q0 := 0) rfl rfl) rfl hl.1 rfl (lv_room (Nat.le_of_ble_eq_true rfl)) dL_law_236 ⟨show cells + 2 + 0 ≤ 601024 by omega, show slots + 12 + 0 ≤ 7293034 by omega⟩ (fun H locs hP hD hS => ?_)
  refine lv_topi (fun v6 ev6 => ?_)
  refine lv_istore (lv' := [(6, .int v6), (5, .int (x_k (x_okRs n (xs0 (nI i + 1).toNatClampNeg) (xs0 (nI i + 2).toNatClampNeg)) (x_exRs n (xs0 (nI i + 1).toNatClampNeg)) xIOB)), (4, .int (nI i)), (0, .ref b), (1, .ref o), (2, .ref rh), (3, .ref oq)]) hx hb dL_law_239 hl (by decide) rfl (fun ls hl => ?_)
  refine lv_aload_n hx hb dL_law_241 rfl (lv_at hl 5 rfl) ?_
  refine lw_cT (C := RX2) (As := []) (rest := []) F (c_X2_thrown l dC dI cI cZ cY rh rx ry rg rt rs rw ((r_b1 (r_isIn (xs0 (nI i + 1).toNatClampNeg) 0 (nI n - 1)) (r_b1 (r_isIn (xs0 (nI i + 2).toNatClampNeg) 0 99) 0 2) 1)) n xr yr ((r_b2 (r_isIn (xs0 (nI i + 1).toNatClampNeg) 0 (nI n - 1)) (r_isIn (xs0 (nI i + 2).toNatClampNeg) 0 99) (upd hr (xs0 (nI i + 1).toNatClampNeg).toNatClampNeg (xs0 (nI i + 2).toNatClampNeg)) hr)) t tb sg fl) (cwV 0 hts gL_law_X2_thrown rfl rfl rfl hd_X2_thrown ⟨Nat.le_of_ble_eq_true rfl, Nat.le_of_ble_eq_true rfl⟩) hP hK (va_recv hK hP.comm.left (ci := 2) (q0 := 0) rfl rfl) rfl hl.1 rfl (lv_room (Nat.le_of_ble_eq_true rfl)) dL_law_242 ⟨show cells + 2 + 0 + 0 ≤ 601024 by omega, show slots + 12 + 0 + 0 ≤ 7293034 by omega⟩ ?_
  refine lv_iload hx hb dL_law_245 (lv_at hl 1 rfl) ?_
  refine lv_icmp_eq (tgt := 252) hx hb dL_law_247 (by decide) (fun _ => ?_) (fun q => absurd (op.1).symm q)
  refine lv_iload hx hb dL_law_252 (lv_at hl 1 rfl) ?_
  cases hok : (x_okRs n (xs0 (nI i + 1).toNatClampNeg) (xs0 (nI i + 2).toNatClampNeg)) with
  | false =>
    rw [hok] at hP hD
    refine lv_if_ne (tgt := 269) hx hb dL_law_254 (by decide) (fun _ => ?_) (fun q => absurd (x_k_0 q) (by first | decide | (rw [hok]; decide)))
    refine lv_goto (tgt := 1204) hx hb dL_law_269 (by decide) ?_
    refine W.widen (k := cells + 24) (n := slots + 364) (by omega) (by omega) ?_
    exact kk _ _ _ _ _ _ _ _ _ _ _ _ _ _ _ _ _ _ _ _ _ _ _ _ _ _ _ _ _ (op.2.2 hok) hP hD hS (lv_sub hl [2, 3, 4, 5, 6] rfl)
  | true =>
    rw [hok] at hP hD
    have hk0 : (x_k (x_okRs n (xs0 (nI i + 1).toNatClampNeg) (xs0 (nI i + 2).toNatClampNeg)) (x_exRs n (xs0 (nI i + 1).toNatClampNeg)) xIOB) = 0 := by rw [hok]; rfl
    refine lv_if_ne (tgt := 269) hx hb dL_law_254 (by decide) (fun q => absurd (by first | rfl | exact hk0) q) (fun _ => ?_)
    refine lv_aload_n hx hb dL_law_257 rfl (lv_at hl 6 rfl) ?_
    refine lv_iconst (v := 0) hx hb dL_law_258 (by decide) ?_
    refine va_lald (D := (dC, dI)) hx hb hK hP 14 3 rfl rfl (vp_in_nI (n := 0) (N := 1) (by decide) (by decide)) dL_law_259 ?_
    refine lv_iload hx hb dL_law_260 (lv_at hl 0 rfl) ?_
    refine lv_i2l hx hb dL_law_262 rfl ?_
    refine W.lcmp hx hb dL_law_263 ?_
    refine lv_if_eq (tgt := 269) hx hb dL_law_264 (by decide) (fun _ => ?_) (fun q => absurd (by rw [ev6, ← ((op.2.1 hok).1)]; exact lg_cmp_self _) q)
    refine lv_goto (tgt := 1204) hx hb dL_law_269 (by decide) ?_
    refine W.widen (k := cells + 24) (n := slots + 364) (by omega) (by omega) ?_
    exact kk _ _ _ _ _ _ _ _ _ _ _ _ _ _ _ _ _ _ _ _ _ _ _ _ _ _ _ _ _ ((op.2.1 hok).2) hP hD hS (lv_sub hl [2, 3, 4, 5, 6] rfl)
set_option maxHeartbeats 4000000 in
set_option maxRecDepth 100000 in
theorem lw_op_fix {p : Program} {l : Launch} {e : Env} {s : State} {m : MethodId} {below : List Frame} {meth : Method} {c : Code} {dC : Nat → ClassId} {dI : Nat → Nat → Nat} {cI cZ cY cL : ClassId} {b o qo h qx qy ql qs qc h2 qx2 qy2 ql2 qs2 qc2 oq rh rx ry rg rt rs : Nat} {rw : Nat → Nat} {L : Nat} {xs0 : Nat → Int32} {i cells slots : Nat} (hC : lw_C p l s m meth c dC dI cI cZ cY cL b L xs0) (hL : L ≤ 2048) (hi : i + 4 ≤ L) (hc : cells + 24 ≤ 601024) (hs9 : slots + 364 ≤ 7293034) (kk : lw_K p l e s m below meth c dC dI cI cZ cY cL b o qo h qx qy ql qs qc h2 qx2 qy2 ql2 qs2 qc2 oq rh rx ry rg rt rs rw i (cells + 24) (slots + 364) 1204) : lw_K p l e s m below meth c dC dI cI cZ cY cL b o qo h qx qy ql qs qc h2 qx2 qy2 ql2 qs2 qc2 oq rh rx ry rg rt rs rw i cells slots 272 := by
  obtain ⟨⟨hx, hb, hr0, hml, hown, hts0, hX, hbl, hlocks, hgv⟩, hl0, hE, hN, hk, hK⟩ := hC
  have hts : ∀ w ∈ wsL_law, w.before #[Value.ref b] s = true := fun w h => hts0 w (wsL_law_in w h)
  have hA : ∀ q : Nat, s.heap.size ≤ q → (fun q : Nat => s.heap.size ≤ q) q := fun _ h => h
  have hbA : ¬ (fun q : Nat => s.heap.size ≤ q) b := Nat.not_le.mpr hbl
  have F : CallFix p m c cL_law 9 s #[Value.ref b] wsL_law RL := ⟨hx, hb, hml, hown, hts⟩
  intro hs fl0 n0 t0 xs ys lf sy co n2 t2 xs2 ys2 lf2 sy2 co2 lo th n xr yr hr t tb sg fl H locs ls hW hP hD hS hl
  obtain ⟨e1, e2, e3, hZ⟩ := hW
  subst e1 e2 e3
  have hbd := Z_bd hZ
  by_cases hz : (xs0 (nI i + 3).toNatClampNeg) = 0
  · have op := op_fix (fl := fl) hZ (xs0 (nI i + 1).toNatClampNeg) (xs0 (nI i + 2).toNatClampNeg) 0 (by decide)
    refine lv_aload_n hx hb dL_law_272 rfl (lv_at hl 2 rfl) ?_
    refine lv_aload_n hx hb dL_law_273 rfl (lv_at hl 1 rfl) ?_
    refine lv_iload hx hb dL_law_274 (lv_at hl 0 rfl) ?_
    refine lv_iconst (v := 1) hx hb dL_law_276 (by decide) ?_
    refine lv_iadd hx hb dL_law_277 ?_
    refine va_sld hx hb hX hbl hbA hS (sc_in (j := 1) (by omega) hL) dL_law_278 ?_
    refine lv_aload_n hx hb dL_law_279 rfl (lv_at hl 1 rfl) ?_
    refine lv_iload hx hb dL_law_280 (lv_at hl 0 rfl) ?_
    refine lv_iconst (v := 2) hx hb dL_law_282 (by decide) ?_
    refine lv_iadd hx hb dL_law_283 ?_
    refine va_sld hx hb hX hbl hbA hS (sc_in (j := 2) (by omega) hL) dL_law_284 ?_
    refine lv_aload_n hx hb dL_law_285 rfl (lv_at hl 1 rfl) ?_
    refine lv_iload hx hb dL_law_286 (lv_at hl 0 rfl) ?_
    refine lv_iconst (v := 3) hx hb dL_law_288 (by decide) ?_
    refine lv_iadd hx hb dL_law_289 ?_
    refine va_sld hx hb hX hbl hbA hS (sc_in (j := 3) (by omega) hL) dL_law_290 ?_
    refine lv_if_eq (tgt := 298) hx hb dL_law_291 (by decide) (fun _ => ?_) (fun q => absurd hz q)
    refine lv_iconst (v := 0) hx hb dL_law_298 (by decide) ?_
    refine lv_aload_n hx hb dL_law_299 rfl (lv_at hl 4 rfl) ?_
    refine lw_cS (As := [.ref o, .int (xs0 (nI i + 1).toNatClampNeg), .int (xs0 (nI i + 2).toNatClampNeg), .int 0, .ref oq]) (rest := []) hE hN F (c_L_fix l hl0 dC dI cI cZ cY cL o qo hs fl h qx qy ql qs qc n t xs ys lf sy co h2 qx2 qy2 ql2 qs2 qc2 n2 t2 xs2 ys2 lf2 sy2 co2 oq lo (xs0 (nI i + 1).toNatClampNeg) (xs0 (nI i + 2).toNatClampNeg) 0 H.size ) (vx_cwSW 5 hts gL_law_L_fix rfl rfl rfl hd_L_fix.2 ⟨Nat.le_of_ble_eq_true rfl, Nat.le_of_ble_eq_true rfl⟩) hP hK hD hS hA rfl hl.1 rfl (lv_room (Nat.le_of_ble_eq_true rfl)) dL_law_300 ⟨show cells + 3 ≤ 601024 by omega, show slots + 18 ≤ 7293034 by omega⟩ (fun H locs hP hD hS => ?_)
    refine lv_istore (lv' := [(5, .int (x_k (x_okFx n lf (xs0 (nI i + 1).toNatClampNeg) (xs0 (nI i + 2).toNatClampNeg)) (x_exFx n (xs0 (nI i + 1).toNatClampNeg) (xs0 (nI i + 2).toNatClampNeg)) xIOB)), (4, .int (nI i)), (0, .ref b), (1, .ref o), (2, .ref rh), (3, .ref oq)]) hx hb dL_law_303 hl (by decide) rfl (fun ls hl => ?_)
    refine lv_aload_n hx hb dL_law_305 rfl (lv_at hl 4 rfl) ?_
    refine lv_aload_n hx hb dL_law_306 rfl (lv_at hl 2 rfl) ?_
    refine lv_iload hx hb dL_law_307 (lv_at hl 1 rfl) ?_
    refine lv_iconst (v := 1) hx hb dL_law_309 (by decide) ?_
    refine lv_iadd hx hb dL_law_310 ?_
    refine va_sld hx hb hX hbl hbA hS (sc_in (j := 1) (by omega) hL) dL_law_311 ?_
    refine lv_aload_n hx hb dL_law_312 rfl (lv_at hl 2 rfl) ?_
    refine lv_iload hx hb dL_law_313 (lv_at hl 1 rfl) ?_
    refine lv_iconst (v := 2) hx hb dL_law_315 (by decide) ?_
    refine lv_iadd hx hb dL_law_316 ?_
    refine va_sld hx hb hX hbl hbA hS (sc_in (j := 2) (by omega) hL) dL_law_317 ?_
    refine lv_aload_n hx hb dL_law_318 rfl (lv_at hl 2 rfl) ?_
    refine lv_iload hx hb dL_law_319 (lv_at hl 1 rfl) ?_
    refine lv_iconst (v := 3) hx hb dL_law_321 (by decide) ?_
    refine lv_iadd hx hb dL_law_322 ?_
    refine va_sld hx hb hX hbl hbA hS (sc_in (j := 3) (by omega) hL) dL_law_323 ?_
    refine lv_if_eq (tgt := 331) hx hb dL_law_324 (by decide) (fun _ => ?_) (fun q => absurd hz q)
    refine lv_iconst (v := 0) hx hb dL_law_331 (by decide) ?_
    refine lw_cR (C := RX2) (As := [.int (xs0 (nI i + 1).toNatClampNeg), .int (xs0 (nI i + 2).toNatClampNeg), .int 0]) (rest := []) F (c_X2_fix l dC dI cI cZ cY rh rx ry rg rt rs rw th n xr yr hr t tb sg fl (xs0 (nI i + 1).toNatClampNeg) (xs0 (nI i + 2).toNatClampNeg) 0 H.size (by omega) (by omega) (by omega) (Z_01 hZ) (by rfl)) (cwV 3 hts gL_law_X2_fix rfl rfl rfl hd_X2_fix ⟨Nat.le_of_ble_eq_true rfl, Nat.le_of_ble_eq_true rfl⟩) hP hK hD hS hA (va_recv hK hP.comm.left (ci := 2) (q0 := 0) rfl rfl) rfl hl.1 rfl (lv_room (Nat.le_of_ble_eq_true rfl)) dL_law_332 ⟨show cells + 3 + 0 ≤ 601024 by omega, show slots + 18 + 0 ≤ 7293034 by omega⟩ (fun H locs hP hD hS => ?_)
    refine lv_topi (fun v6 ev6 => ?_)
    refine lv_istore (lv' := [(6, .int v6), (5, .int (x_k (x_okFx n lf (xs0 (nI i + 1).toNatClampNeg) (xs0 (nI i + 2).toNatClampNeg)) (x_exFx n (xs0 (nI i + 1).toNatClampNeg) (xs0 (nI i + 2).toNatClampNeg)) xIOB)), (4, .int (nI i)), (0, .ref b), (1, .ref o), (2, .ref rh), (3, .ref oq)]) hx hb dL_law_335 hl (by decide) rfl (fun ls hl => ?_)
    refine lv_aload_n hx hb dL_law_337 rfl (lv_at hl 5 rfl) ?_
    refine lw_cT (C := RX2) (As := []) (rest := []) F (c_X2_thrown l dC dI cI cZ cY rh rx ry rg rt rs rw ((r_b2 (r_isIn (xs0 (nI i + 1).toNatClampNeg) 0 (nI n - 1)) (r_isIn (xs0 (nI i + 2).toNatClampNeg) 0 (nI n - 1)) (r_b1 (r_nz (r_sides t tb (xs0 (nI i + 1).toNatClampNeg) (xs0 (nI i + 2).toNatClampNeg))) 0 2) 1)) n xr yr hr t tb ((r_b3 (r_isIn (xs0 (nI i + 1).toNatClampNeg) 0 (nI n - 1)) (r_isIn (xs0 (nI i + 2).toNatClampNeg) 0 (nI n - 1)) (r_nz (r_sides t tb (xs0 (nI i + 1).toNatClampNeg) (xs0 (nI i + 2).toNatClampNeg))) (r_let sg (xs0 (nI i + 1).toNatClampNeg) (xs0 (nI i + 2).toNatClampNeg) 0) sg)) fl) (cwV 0 hts gL_law_X2_thrown rfl rfl rfl hd_X2_thrown ⟨Nat.le_of_ble_eq_true rfl, Nat.le_of_ble_eq_true rfl⟩) hP hK (va_recv hK hP.comm.left (ci := 2) (q0 := 0) rfl rfl) rfl hl.1 rfl (lv_room (Nat.le_of_ble_eq_true rfl)) dL_law_338 ⟨show cells + 3 + 0 + 0 ≤ 601024 by omega, show slots + 18 + 0 + 0 ≤ 7293034 by omega⟩ ?_
    refine lv_iload hx hb dL_law_341 (lv_at hl 1 rfl) ?_
    refine lv_icmp_eq (tgt := 348) hx hb dL_law_343 (by decide) (fun _ => ?_) (fun q => absurd (op.1).symm q)
    refine lv_iload hx hb dL_law_348 (lv_at hl 1 rfl) ?_
    cases hok : (x_okFx n lf (xs0 (nI i + 1).toNatClampNeg) (xs0 (nI i + 2).toNatClampNeg)) with
    | false =>
      rw [hok] at hP hD
      refine lv_if_ne (tgt := 372) hx hb dL_law_350 (by decide) (fun _ => ?_) (fun q => absurd (x_k_0 q) (by first | decide | (rw [hok]; decide)))
      refine lv_goto (tgt := 1204) hx hb dL_law_372 (by decide) ?_
      refine W.widen (k := cells + 24) (n := slots + 364) (by omega) (by omega) ?_
      exact kk _ _ _ _ _ _ _ _ _ _ _ _ _ _ _ _ _ _ _ _ _ _ _ _ _ _ _ _ _ (op.2.2 hok) hP hD hS (lv_sub hl [2, 3, 4, 5, 6] rfl)
    | true =>
      rw [hok] at hP hD
      have hk0 : (x_k (x_okFx n lf (xs0 (nI i + 1).toNatClampNeg) (xs0 (nI i + 2).toNatClampNeg)) (x_exFx n (xs0 (nI i + 1).toNatClampNeg) (xs0 (nI i + 2).toNatClampNeg)) xIOB) = 0 := by rw [hok]; rfl
      refine lv_if_ne (tgt := 372) hx hb dL_law_350 (by decide) (fun q => absurd (by first | rfl | exact hk0) q) (fun _ => ?_)
      refine lv_aload_n hx hb dL_law_353 rfl (lv_at hl 6 rfl) ?_
      refine lv_iconst (v := 0) hx hb dL_law_354 (by decide) ?_
      refine va_lald (D := (dC, dI)) hx hb hK hP 14 3 rfl rfl (vp_in_nI (n := 0) (N := 1) (by decide) (by decide)) dL_law_355 ?_
      refine lv_iload hx hb dL_law_356 (lv_at hl 0 rfl) ?_
      have hv := (op.2.1 hok).1
      rw [← hv] at ev6
      cases hms : m_mustStay n sy (xs0 (nI i + 1).toNatClampNeg) (xs0 (nI i + 2).toNatClampNeg) with
      | false =>
        rw [hms] at ev6
        refine lv_if_eq (tgt := 365) hx hb dL_law_358 (by decide) (fun _ => ?_) (fun q => absurd ev6 q)
        refine lv_lconst (v := 0) hx hb dL_law_365 (by decide) ?_
        refine W.lcmp hx hb dL_law_366 ?_
        refine lv_if_eq (tgt := 372) hx hb dL_law_367 (by decide) (fun _ => ?_) (fun q => absurd (by first | exact lg_cmp_self (bL false) | (rw [hms]; exact lg_cmp_self (bL false))) q)
        refine lv_goto (tgt := 1204) hx hb dL_law_372 (by decide) ?_
        refine W.widen (k := cells + 24) (n := slots + 364) (by omega) (by omega) ?_
        exact kk _ _ _ _ _ _ _ _ _ _ _ _ _ _ _ _ _ _ _ _ _ _ _ _ _ _ _ _ _ ((op.2.1 hok).2) hP hD hS (lv_sub hl [2, 3, 4, 5, 6] rfl)
      | true =>
        rw [hms] at ev6
        refine lv_if_eq (tgt := 365) hx hb dL_law_358 (by decide) (fun q => absurd (ev6.symm.trans q) (by decide)) (fun _ => ?_)
        refine lv_lconst (v := 1) hx hb dL_law_361 (by decide) ?_
        refine lv_goto (tgt := 366) hx hb dL_law_362 (by decide) ?_
        refine W.lcmp hx hb dL_law_366 ?_
        refine lv_if_eq (tgt := 372) hx hb dL_law_367 (by decide) (fun _ => ?_) (fun q => absurd (by first | exact lg_cmp_self (bL true) | (rw [hms]; exact lg_cmp_self (bL true))) q)
        refine lv_goto (tgt := 1204) hx hb dL_law_372 (by decide) ?_
        refine W.widen (k := cells + 24) (n := slots + 364) (by omega) (by omega) ?_
        exact kk _ _ _ _ _ _ _ _ _ _ _ _ _ _ _ _ _ _ _ _ _ _ _ _ _ _ _ _ _ ((op.2.1 hok).2) hP hD hS (lv_sub hl [2, 3, 4, 5, 6] rfl)
  · have op := op_fix (fl := fl) hZ (xs0 (nI i + 1).toNatClampNeg) (xs0 (nI i + 2).toNatClampNeg) 1 (by decide)
    refine lv_aload_n hx hb dL_law_272 rfl (lv_at hl 2 rfl) ?_
    refine lv_aload_n hx hb dL_law_273 rfl (lv_at hl 1 rfl) ?_
    refine lv_iload hx hb dL_law_274 (lv_at hl 0 rfl) ?_
    refine lv_iconst (v := 1) hx hb dL_law_276 (by decide) ?_
    refine lv_iadd hx hb dL_law_277 ?_
    refine va_sld hx hb hX hbl hbA hS (sc_in (j := 1) (by omega) hL) dL_law_278 ?_
    refine lv_aload_n hx hb dL_law_279 rfl (lv_at hl 1 rfl) ?_
    refine lv_iload hx hb dL_law_280 (lv_at hl 0 rfl) ?_
    refine lv_iconst (v := 2) hx hb dL_law_282 (by decide) ?_
    refine lv_iadd hx hb dL_law_283 ?_
    refine va_sld hx hb hX hbl hbA hS (sc_in (j := 2) (by omega) hL) dL_law_284 ?_
    refine lv_aload_n hx hb dL_law_285 rfl (lv_at hl 1 rfl) ?_
    refine lv_iload hx hb dL_law_286 (lv_at hl 0 rfl) ?_
    refine lv_iconst (v := 3) hx hb dL_law_288 (by decide) ?_
    refine lv_iadd hx hb dL_law_289 ?_
    refine va_sld hx hb hX hbl hbA hS (sc_in (j := 3) (by omega) hL) dL_law_290 ?_
    refine lv_if_eq (tgt := 298) hx hb dL_law_291 (by decide) (fun q => absurd q hz) (fun _ => ?_)
    refine lv_iconst (v := 1) hx hb dL_law_294 (by decide) ?_
    refine lv_goto (tgt := 299) hx hb dL_law_295 (by decide) ?_
    refine lv_aload_n hx hb dL_law_299 rfl (lv_at hl 4 rfl) ?_
    refine lw_cS (As := [.ref o, .int (xs0 (nI i + 1).toNatClampNeg), .int (xs0 (nI i + 2).toNatClampNeg), .int 1, .ref oq]) (rest := []) hE hN F (c_L_fix l hl0 dC dI cI cZ cY cL o qo hs fl h qx qy ql qs qc n t xs ys lf sy co h2 qx2 qy2 ql2 qs2 qc2 n2 t2 xs2 ys2 lf2 sy2 co2 oq lo (xs0 (nI i + 1).toNatClampNeg) (xs0 (nI i + 2).toNatClampNeg) 1 H.size ) (vx_cwSW 5 hts gL_law_L_fix rfl rfl rfl hd_L_fix.2 ⟨Nat.le_of_ble_eq_true rfl, Nat.le_of_ble_eq_true rfl⟩) hP hK hD hS hA rfl hl.1 rfl (lv_room (Nat.le_of_ble_eq_true rfl)) dL_law_300 ⟨show cells + 3 ≤ 601024 by omega, show slots + 18 ≤ 7293034 by omega⟩ (fun H locs hP hD hS => ?_)
    refine lv_istore (lv' := [(5, .int (x_k (x_okFx n lf (xs0 (nI i + 1).toNatClampNeg) (xs0 (nI i + 2).toNatClampNeg)) (x_exFx n (xs0 (nI i + 1).toNatClampNeg) (xs0 (nI i + 2).toNatClampNeg)) xIOB)), (4, .int (nI i)), (0, .ref b), (1, .ref o), (2, .ref rh), (3, .ref oq)]) hx hb dL_law_303 hl (by decide) rfl (fun ls hl => ?_)
    refine lv_aload_n hx hb dL_law_305 rfl (lv_at hl 4 rfl) ?_
    refine lv_aload_n hx hb dL_law_306 rfl (lv_at hl 2 rfl) ?_
    refine lv_iload hx hb dL_law_307 (lv_at hl 1 rfl) ?_
    refine lv_iconst (v := 1) hx hb dL_law_309 (by decide) ?_
    refine lv_iadd hx hb dL_law_310 ?_
    refine va_sld hx hb hX hbl hbA hS (sc_in (j := 1) (by omega) hL) dL_law_311 ?_
    refine lv_aload_n hx hb dL_law_312 rfl (lv_at hl 2 rfl) ?_
    refine lv_iload hx hb dL_law_313 (lv_at hl 1 rfl) ?_
    refine lv_iconst (v := 2) hx hb dL_law_315 (by decide) ?_
    refine lv_iadd hx hb dL_law_316 ?_
    refine va_sld hx hb hX hbl hbA hS (sc_in (j := 2) (by omega) hL) dL_law_317 ?_
    refine lv_aload_n hx hb dL_law_318 rfl (lv_at hl 2 rfl) ?_
    refine lv_iload hx hb dL_law_319 (lv_at hl 1 rfl) ?_
    refine lv_iconst (v := 3) hx hb dL_law_321 (by decide) ?_
    refine lv_iadd hx hb dL_law_322 ?_
    refine va_sld hx hb hX hbl hbA hS (sc_in (j := 3) (by omega) hL) dL_law_323 ?_
    refine lv_if_eq (tgt := 331) hx hb dL_law_324 (by decide) (fun q => absurd q hz) (fun _ => ?_)
    refine lv_iconst (v := 1) hx hb dL_law_327 (by decide) ?_
    refine lv_goto (tgt := 332) hx hb dL_law_328 (by decide) ?_
    refine lw_cR (C := RX2) (As := [.int (xs0 (nI i + 1).toNatClampNeg), .int (xs0 (nI i + 2).toNatClampNeg), .int 1]) (rest := []) F (c_X2_fix l dC dI cI cZ cY rh rx ry rg rt rs rw th n xr yr hr t tb sg fl (xs0 (nI i + 1).toNatClampNeg) (xs0 (nI i + 2).toNatClampNeg) 1 H.size (by omega) (by omega) (by omega) (Z_01 hZ) (by rfl)) (cwV 3 hts gL_law_X2_fix rfl rfl rfl hd_X2_fix ⟨Nat.le_of_ble_eq_true rfl, Nat.le_of_ble_eq_true rfl⟩) hP hK hD hS hA (va_recv hK hP.comm.left (ci := 2) (q0 := 0) rfl rfl) rfl hl.1 rfl (lv_room (Nat.le_of_ble_eq_true rfl)) dL_law_332 ⟨show cells + 3 + 0 ≤ 601024 by omega, show slots + 18 + 0 ≤ 7293034 by omega⟩ (fun H locs hP hD hS => ?_)
    refine lv_topi (fun v6 ev6 => ?_)
    refine lv_istore (lv' := [(6, .int v6), (5, .int (x_k (x_okFx n lf (xs0 (nI i + 1).toNatClampNeg) (xs0 (nI i + 2).toNatClampNeg)) (x_exFx n (xs0 (nI i + 1).toNatClampNeg) (xs0 (nI i + 2).toNatClampNeg)) xIOB)), (4, .int (nI i)), (0, .ref b), (1, .ref o), (2, .ref rh), (3, .ref oq)]) hx hb dL_law_335 hl (by decide) rfl (fun ls hl => ?_)
    refine lv_aload_n hx hb dL_law_337 rfl (lv_at hl 5 rfl) ?_
    refine lw_cT (C := RX2) (As := []) (rest := []) F (c_X2_thrown l dC dI cI cZ cY rh rx ry rg rt rs rw ((r_b2 (r_isIn (xs0 (nI i + 1).toNatClampNeg) 0 (nI n - 1)) (r_isIn (xs0 (nI i + 2).toNatClampNeg) 0 (nI n - 1)) (r_b1 (r_nz (r_sides t tb (xs0 (nI i + 1).toNatClampNeg) (xs0 (nI i + 2).toNatClampNeg))) 0 2) 1)) n xr yr hr t tb ((r_b3 (r_isIn (xs0 (nI i + 1).toNatClampNeg) 0 (nI n - 1)) (r_isIn (xs0 (nI i + 2).toNatClampNeg) 0 (nI n - 1)) (r_nz (r_sides t tb (xs0 (nI i + 1).toNatClampNeg) (xs0 (nI i + 2).toNatClampNeg))) (r_let sg (xs0 (nI i + 1).toNatClampNeg) (xs0 (nI i + 2).toNatClampNeg) 1) sg)) fl) (cwV 0 hts gL_law_X2_thrown rfl rfl rfl hd_X2_thrown ⟨Nat.le_of_ble_eq_true rfl, Nat.le_of_ble_eq_true rfl⟩) hP hK (va_recv hK hP.comm.left (ci := 2) (q0 := 0) rfl rfl) rfl hl.1 rfl (lv_room (Nat.le_of_ble_eq_true rfl)) dL_law_338 ⟨show cells + 3 + 0 + 0 ≤ 601024 by omega, show slots + 18 + 0 + 0 ≤ 7293034 by omega⟩ ?_
    refine lv_iload hx hb dL_law_341 (lv_at hl 1 rfl) ?_
    refine lv_icmp_eq (tgt := 348) hx hb dL_law_343 (by decide) (fun _ => ?_) (fun q => absurd (op.1).symm q)
    refine lv_iload hx hb dL_law_348 (lv_at hl 1 rfl) ?_
    cases hok : (x_okFx n lf (xs0 (nI i + 1).toNatClampNeg) (xs0 (nI i + 2).toNatClampNeg)) with
    | false =>
      rw [hok] at hP hD
      refine lv_if_ne (tgt := 372) hx hb dL_law_350 (by decide) (fun _ => ?_) (fun q => absurd (x_k_0 q) (by first | decide | (rw [hok]; decide)))
      refine lv_goto (tgt := 1204) hx hb dL_law_372 (by decide) ?_
      refine W.widen (k := cells + 24) (n := slots + 364) (by omega) (by omega) ?_
      exact kk _ _ _ _ _ _ _ _ _ _ _ _ _ _ _ _ _ _ _ _ _ _ _ _ _ _ _ _ _ (op.2.2 hok) hP hD hS (lv_sub hl [2, 3, 4, 5, 6] rfl)
    | true =>
      rw [hok] at hP hD
      have hk0 : (x_k (x_okFx n lf (xs0 (nI i + 1).toNatClampNeg) (xs0 (nI i + 2).toNatClampNeg)) (x_exFx n (xs0 (nI i + 1).toNatClampNeg) (xs0 (nI i + 2).toNatClampNeg)) xIOB) = 0 := by rw [hok]; rfl
      refine lv_if_ne (tgt := 372) hx hb dL_law_350 (by decide) (fun q => absurd (by first | rfl | exact hk0) q) (fun _ => ?_)
      refine lv_aload_n hx hb dL_law_353 rfl (lv_at hl 6 rfl) ?_
      refine lv_iconst (v := 0) hx hb dL_law_354 (by decide) ?_
      refine va_lald (D := (dC, dI)) hx hb hK hP 14 3 rfl rfl (vp_in_nI (n := 0) (N := 1) (by decide) (by decide)) dL_law_355 ?_
      refine lv_iload hx hb dL_law_356 (lv_at hl 0 rfl) ?_
      have hv := (op.2.1 hok).1
      rw [← hv] at ev6
      cases hms : m_mustStay n sy (xs0 (nI i + 1).toNatClampNeg) (xs0 (nI i + 2).toNatClampNeg) with
      | false =>
        rw [hms] at ev6
        refine lv_if_eq (tgt := 365) hx hb dL_law_358 (by decide) (fun _ => ?_) (fun q => absurd ev6 q)
        refine lv_lconst (v := 0) hx hb dL_law_365 (by decide) ?_
        refine W.lcmp hx hb dL_law_366 ?_
        refine lv_if_eq (tgt := 372) hx hb dL_law_367 (by decide) (fun _ => ?_) (fun q => absurd (by first | exact lg_cmp_self (bL false) | (rw [hms]; exact lg_cmp_self (bL false))) q)
        refine lv_goto (tgt := 1204) hx hb dL_law_372 (by decide) ?_
        refine W.widen (k := cells + 24) (n := slots + 364) (by omega) (by omega) ?_
        exact kk _ _ _ _ _ _ _ _ _ _ _ _ _ _ _ _ _ _ _ _ _ _ _ _ _ _ _ _ _ ((op.2.1 hok).2) hP hD hS (lv_sub hl [2, 3, 4, 5, 6] rfl)
      | true =>
        rw [hms] at ev6
        refine lv_if_eq (tgt := 365) hx hb dL_law_358 (by decide) (fun q => absurd (ev6.symm.trans q) (by decide)) (fun _ => ?_)
        refine lv_lconst (v := 1) hx hb dL_law_361 (by decide) ?_
        refine lv_goto (tgt := 366) hx hb dL_law_362 (by decide) ?_
        refine W.lcmp hx hb dL_law_366 ?_
        refine lv_if_eq (tgt := 372) hx hb dL_law_367 (by decide) (fun _ => ?_) (fun q => absurd (by first | exact lg_cmp_self (bL true) | (rw [hms]; exact lg_cmp_self (bL true))) q)
        refine lv_goto (tgt := 1204) hx hb dL_law_372 (by decide) ?_
        refine W.widen (k := cells + 24) (n := slots + 364) (by omega) (by omega) ?_
        exact kk _ _ _ _ _ _ _ _ _ _ _ _ _ _ _ _ _ _ _ _ _ _ _ _ _ _ _ _ _ ((op.2.1 hok).2) hP hD hS (lv_sub hl [2, 3, 4, 5, 6] rfl)
set_option maxHeartbeats 4000000 in
set_option maxRecDepth 100000 in
theorem lw_op_flip {p : Program} {l : Launch} {e : Env} {s : State} {m : MethodId} {below : List Frame} {meth : Method} {c : Code} {dC : Nat → ClassId} {dI : Nat → Nat → Nat} {cI cZ cY cL : ClassId} {b o qo h qx qy ql qs qc h2 qx2 qy2 ql2 qs2 qc2 oq rh rx ry rg rt rs : Nat} {rw : Nat → Nat} {L : Nat} {xs0 : Nat → Int32} {i cells slots : Nat} (hC : lw_C p l s m meth c dC dI cI cZ cY cL b L xs0) (hL : L ≤ 2048) (hi : i + 4 ≤ L) (hc : cells + 24 ≤ 601024) (hs9 : slots + 364 ≤ 7293034) (kk : lw_K p l e s m below meth c dC dI cI cZ cY cL b o qo h qx qy ql qs qc h2 qx2 qy2 ql2 qs2 qc2 oq rh rx ry rg rt rs rw i (cells + 24) (slots + 364) 1204) : lw_K p l e s m below meth c dC dI cI cZ cY cL b o qo h qx qy ql qs qc h2 qx2 qy2 ql2 qs2 qc2 oq rh rx ry rg rt rs rw i cells slots 375 := by
  obtain ⟨⟨hx, hb, hr0, hml, hown, hts0, hX, hbl, hlocks, hgv⟩, hl0, hE, hN, hk, hK⟩ := hC
  have hts : ∀ w ∈ wsL_law, w.before #[Value.ref b] s = true := fun w h => hts0 w (wsL_law_in w h)
  have hA : ∀ q : Nat, s.heap.size ≤ q → (fun q : Nat => s.heap.size ≤ q) q := fun _ h => h
  have hbA : ¬ (fun q : Nat => s.heap.size ≤ q) b := Nat.not_le.mpr hbl
  have F : CallFix p m c cL_law 9 s #[Value.ref b] wsL_law RL := ⟨hx, hb, hml, hown, hts⟩
  intro hs fl0 n0 t0 xs ys lf sy co n2 t2 xs2 ys2 lf2 sy2 co2 lo th n xr yr hr t tb sg fl H locs ls hW hP hD hS hl
  obtain ⟨e1, e2, e3, hZ⟩ := hW
  subst e1 e2 e3
  have hbd := Z_bd hZ
  obtain ⟨u, hu⟩ : ∃ u, t = u + 1 + 1 := ⟨t - 2, by omega⟩
  subst hu
  have op := op_flip (fl := fl) hZ (xs0 (nI i + 1).toNatClampNeg) (xs0 (nI i + 2).toNatClampNeg)
  refine lv_aload_n hx hb dL_law_375 rfl (lv_at hl 2 rfl) ?_
  refine lv_aload_n hx hb dL_law_376 rfl (lv_at hl 1 rfl) ?_
  refine lv_iload hx hb dL_law_377 (lv_at hl 0 rfl) ?_
  refine lv_iconst (v := 1) hx hb dL_law_379 (by decide) ?_
  refine lv_iadd hx hb dL_law_380 ?_
  refine va_sld hx hb hX hbl hbA hS (sc_in (j := 1) (by omega) hL) dL_law_381 ?_
  refine lv_aload_n hx hb dL_law_382 rfl (lv_at hl 1 rfl) ?_
  refine lv_iload hx hb dL_law_383 (lv_at hl 0 rfl) ?_
  refine lv_iconst (v := 2) hx hb dL_law_385 (by decide) ?_
  refine lv_iadd hx hb dL_law_386 ?_
  refine va_sld hx hb hX hbl hbA hS (sc_in (j := 2) (by omega) hL) dL_law_387 ?_
  refine lv_aload_n hx hb dL_law_388 rfl (lv_at hl 4 rfl) ?_
  refine lw_cS (As := [.ref o, .int (xs0 (nI i + 1).toNatClampNeg), .int (xs0 (nI i + 2).toNatClampNeg), .ref oq]) (rest := []) hE hN F (c_L_flip l hl0 dC dI cI cZ cY cL o qo hs fl h qx qy ql qs qc n (u + 1 + 1) xs ys lf sy co h2 qx2 qy2 ql2 qs2 qc2 n2 t2 xs2 ys2 lf2 sy2 co2 oq lo (xs0 (nI i + 1).toNatClampNeg) (xs0 (nI i + 2).toNatClampNeg) H.size (by omega)) (vx_cwSW 4 hts gL_law_L_flip rfl rfl rfl hd_L_flip.2 ⟨Nat.le_of_ble_eq_true rfl, Nat.le_of_ble_eq_true rfl⟩) hP hK hD hS hA rfl hl.1 rfl (lv_room (Nat.le_of_ble_eq_true rfl)) dL_law_389 ⟨show cells + 4 ≤ 601024 by omega, show slots + 24 ≤ 7293034 by omega⟩ (fun H locs hP hD hS => ?_)
  refine lv_istore (lv' := [(5, .int (x_k (x_okFl n xs ys lf sy (xs0 (nI i + 1).toNatClampNeg) (xs0 (nI i + 2).toNatClampNeg)) (x_exFx n (xs0 (nI i + 1).toNatClampNeg) (xs0 (nI i + 2).toNatClampNeg)) xIOB)), (4, .int (nI i)), (0, .ref b), (1, .ref o), (2, .ref rh), (3, .ref oq)]) hx hb dL_law_392 hl (by decide) rfl (fun ls hl => ?_)
  refine lv_aload_n hx hb dL_law_394 rfl (lv_at hl 4 rfl) ?_
  refine lv_aload_n hx hb dL_law_395 rfl (lv_at hl 2 rfl) ?_
  refine lv_iload hx hb dL_law_396 (lv_at hl 1 rfl) ?_
  refine lv_iconst (v := 1) hx hb dL_law_398 (by decide) ?_
  refine lv_iadd hx hb dL_law_399 ?_
  refine va_sld hx hb hX hbl hbA hS (sc_in (j := 1) (by omega) hL) dL_law_400 ?_
  refine lv_aload_n hx hb dL_law_401 rfl (lv_at hl 2 rfl) ?_
  refine lv_iload hx hb dL_law_402 (lv_at hl 1 rfl) ?_
  refine lv_iconst (v := 2) hx hb dL_law_404 (by decide) ?_
  refine lv_iadd hx hb dL_law_405 ?_
  refine va_sld hx hb hX hbl hbA hS (sc_in (j := 2) (by omega) hL) dL_law_406 ?_
  refine lw_cR (C := RX2) (As := [.int (xs0 (nI i + 1).toNatClampNeg), .int (xs0 (nI i + 2).toNatClampNeg)]) (rest := []) F (c_X2_flip l dC dI cI cZ cY rh rx ry rg rt rs rw th n xr yr hr (u + 1 + 1) tb sg fl (xs0 (nI i + 1).toNatClampNeg) (xs0 (nI i + 2).toNatClampNeg) H.size u (by omega) (by omega) (by omega) (Z_okF hZ) op.1) (cwV 2 hts gL_law_X2_flip rfl rfl rfl hd_X2_flip ⟨Nat.le_of_ble_eq_true rfl, Nat.le_of_ble_eq_true rfl⟩) hP hK hD hS hA (va_recv hK hP.comm.left (ci := 2) (q0 := 0) rfl rfl) rfl hl.1 rfl (lv_room (Nat.le_of_ble_eq_true rfl)) dL_law_407 ⟨show cells + 4 + 0 ≤ 601024 by omega, show slots + 24 + 0 ≤ 7293034 by omega⟩ (fun H locs hP hD hS => ?_)
  refine lv_topi (fun v6 ev6 => ?_)
  refine lv_istore (lv' := [(6, .int v6), (5, .int (x_k (x_okFl n xs ys lf sy (xs0 (nI i + 1).toNatClampNeg) (xs0 (nI i + 2).toNatClampNeg)) (x_exFx n (xs0 (nI i + 1).toNatClampNeg) (xs0 (nI i + 2).toNatClampNeg)) xIOB)), (4, .int (nI i)), (0, .ref b), (1, .ref o), (2, .ref rh), (3, .ref oq)]) hx hb dL_law_410 hl (by decide) rfl (fun ls hl => ?_)
  refine lv_aload_n hx hb dL_law_412 rfl (lv_at hl 5 rfl) ?_
  refine lw_cT (C := RX2) (As := []) (rest := []) F (c_X2_thrown l dC dI cI cZ cY rh rx ry rg rt rs rw ((r_b2 (r_isIn (xs0 (nI i + 1).toNatClampNeg) 0 (nI n - 1)) (r_isIn (xs0 (nI i + 2).toNatClampNeg) 0 (nI n - 1)) (r_b1 (r_canFlip (u + 1 + 1) xr yr tb sg (xs0 (nI i + 1).toNatClampNeg) (xs0 (nI i + 2).toNatClampNeg)) 0 2) 1)) n xr yr hr ((u + 1 + 1)) ((r_b3 (r_isIn (xs0 (nI i + 1).toNatClampNeg) 0 (nI n - 1)) (r_isIn (xs0 (nI i + 2).toNatClampNeg) 0 (nI n - 1)) (r_canFlip (u + 1 + 1) xr yr tb sg (xs0 (nI i + 1).toNatClampNeg) (xs0 (nI i + 2).toNatClampNeg)) (r_flTb u tb (xs0 (nI i + 1).toNatClampNeg) (xs0 (nI i + 2).toNatClampNeg) (r_fr tb (xs0 (nI i + 1).toNatClampNeg) (xs0 (nI i + 2).toNatClampNeg) 1 (u + 1 + 1)) (r_fr tb (xs0 (nI i + 1).toNatClampNeg) (xs0 (nI i + 2).toNatClampNeg) 0 (u + 1 + 1))) tb)) ((r_b3 (r_isIn (xs0 (nI i + 1).toNatClampNeg) 0 (nI n - 1)) (r_isIn (xs0 (nI i + 2).toNatClampNeg) 0 (nI n - 1)) (r_canFlip (u + 1 + 1) xr yr tb sg (xs0 (nI i + 1).toNatClampNeg) (xs0 (nI i + 2).toNatClampNeg)) (r_let sg (r_fr tb (xs0 (nI i + 1).toNatClampNeg) (xs0 (nI i + 2).toNatClampNeg) 1 (u + 1 + 1)) (r_fr tb (xs0 (nI i + 1).toNatClampNeg) (xs0 (nI i + 2).toNatClampNeg) 0 (u + 1 + 1)) 0) sg)) ((r_b3 (r_isIn (xs0 (nI i + 1).toNatClampNeg) 0 (nI n - 1)) (r_isIn (xs0 (nI i + 2).toNatClampNeg) 0 (nI n - 1)) (r_canFlip (u + 1 + 1) xr yr tb sg (xs0 (nI i + 1).toNatClampNeg) (xs0 (nI i + 2).toNatClampNeg)) (fl + 1) fl))) (cwV 0 hts gL_law_X2_thrown rfl rfl rfl hd_X2_thrown ⟨Nat.le_of_ble_eq_true rfl, Nat.le_of_ble_eq_true rfl⟩) hP hK (va_recv hK hP.comm.left (ci := 2) (q0 := 0) rfl rfl) rfl hl.1 rfl (lv_room (Nat.le_of_ble_eq_true rfl)) dL_law_413 ⟨show cells + 4 + 0 + 0 ≤ 601024 by omega, show slots + 24 + 0 + 0 ≤ 7293034 by omega⟩ ?_
  refine lv_iload hx hb dL_law_416 (lv_at hl 1 rfl) ?_
  refine lv_icmp_eq (tgt := 423) hx hb dL_law_418 (by decide) (fun _ => ?_) (fun q => absurd (op.2.1).symm q)
  refine lv_iload hx hb dL_law_423 (lv_at hl 1 rfl) ?_
  cases hok : (x_okFl n xs ys lf sy (xs0 (nI i + 1).toNatClampNeg) (xs0 (nI i + 2).toNatClampNeg)) with
  | false =>
    rw [hok] at hP hD
    refine lv_if_ne (tgt := 440) hx hb dL_law_425 (by decide) (fun _ => ?_) (fun q => absurd (x_k_0 q) (by first | decide | (rw [hok]; decide)))
    refine lv_goto (tgt := 1204) hx hb dL_law_440 (by decide) ?_
    refine W.widen (k := cells + 24) (n := slots + 364) (by omega) (by omega) ?_
    exact kk _ _ _ _ _ _ _ _ _ _ _ _ _ _ _ _ _ _ _ _ _ _ _ _ _ _ _ _ _ (op.2.2.2 hok) hP hD hS (lv_sub hl [2, 3, 4, 5, 6] rfl)
  | true =>
    rw [hok] at hP hD
    have hk0 : (x_k (x_okFl n xs ys lf sy (xs0 (nI i + 1).toNatClampNeg) (xs0 (nI i + 2).toNatClampNeg)) (x_exFx n (xs0 (nI i + 1).toNatClampNeg) (xs0 (nI i + 2).toNatClampNeg)) xIOB) = 0 := by rw [hok]; rfl
    refine lv_if_ne (tgt := 440) hx hb dL_law_425 (by decide) (fun q => absurd (by first | rfl | exact hk0) q) (fun _ => ?_)
    refine lv_aload_n hx hb dL_law_428 rfl (lv_at hl 6 rfl) ?_
    refine lv_iconst (v := 0) hx hb dL_law_429 (by decide) ?_
    refine va_lald (D := (dC, dI)) hx hb hK hP 14 3 rfl rfl (vp_in_nI (n := 0) (N := 1) (by decide) (by decide)) dL_law_430 ?_
    refine lv_iload hx hb dL_law_431 (lv_at hl 0 rfl) ?_
    refine lv_i2l hx hb dL_law_433 rfl ?_
    refine W.lcmp hx hb dL_law_434 ?_
    refine lv_if_eq (tgt := 440) hx hb dL_law_435 (by decide) (fun _ => ?_) (fun q => absurd (by rw [ev6, ← ((op.2.2.1 hok).1)]; exact lg_cmp_self _) q)
    refine lv_goto (tgt := 1204) hx hb dL_law_440 (by decide) ?_
    refine W.widen (k := cells + 24) (n := slots + 364) (by omega) (by omega) ?_
    exact kk _ _ _ _ _ _ _ _ _ _ _ _ _ _ _ _ _ _ _ _ _ _ _ _ _ _ _ _ _ ((op.2.2.1 hok).2) hP hD hS (lv_sub hl [2, 3, 4, 5, 6] rfl)
set_option maxHeartbeats 4000000 in
set_option maxRecDepth 100000 in
theorem lw_op_settle {p : Program} {l : Launch} {e : Env} {s : State} {m : MethodId} {below : List Frame} {meth : Method} {c : Code} {dC : Nat → ClassId} {dI : Nat → Nat → Nat} {cI cZ cY cL : ClassId} {b o qo h qx qy ql qs qc h2 qx2 qy2 ql2 qs2 qc2 oq rh rx ry rg rt rs : Nat} {rw : Nat → Nat} {L : Nat} {xs0 : Nat → Int32} {i cells slots : Nat} (hC : lw_C p l s m meth c dC dI cI cZ cY cL b L xs0) (hL : L ≤ 2048) (hi : i + 4 ≤ L) (hc : cells + 24 ≤ 601024) (hs9 : slots + 364 ≤ 7293034) (kk : lw_K p l e s m below meth c dC dI cI cZ cY cL b o qo h qx qy ql qs qc h2 qx2 qy2 ql2 qs2 qc2 oq rh rx ry rg rt rs rw i (cells + 24) (slots + 364) 1204) : lw_K p l e s m below meth c dC dI cI cZ cY cL b o qo h qx qy ql qs qc h2 qx2 qy2 ql2 qs2 qc2 oq rh rx ry rg rt rs rw i cells slots 443 := by
  obtain ⟨⟨hx, hb, hr0, hml, hown, hts0, hX, hbl, hlocks, hgv⟩, hl0, hE, hN, hk, hK⟩ := hC
  have hts : ∀ w ∈ wsL_law, w.before #[Value.ref b] s = true := fun w h => hts0 w (wsL_law_in w h)
  have hA : ∀ q : Nat, s.heap.size ≤ q → (fun q : Nat => s.heap.size ≤ q) q := fun _ h => h
  have hbA : ¬ (fun q : Nat => s.heap.size ≤ q) b := Nat.not_le.mpr hbl
  have F : CallFix p m c cL_law 9 s #[Value.ref b] wsL_law RL := ⟨hx, hb, hml, hown, hts⟩
  intro hs fl0 n0 t0 xs ys lf sy co n2 t2 xs2 ys2 lf2 sy2 co2 lo th n xr yr hr t tb sg fl H locs ls hW hP hD hS hl
  obtain ⟨e1, e2, e3, hZ⟩ := hW
  subst e1 e2 e3
  have hbd := Z_bd hZ
  obtain ⟨u, hu⟩ : ∃ u, t = u + 1 + 1 := ⟨t - 2, by omega⟩
  subst hu
  have hP : va_P (dC, dI) vwCl (wX cI o qo hs fl h qx qy ql qs qc n (u + 1 + 1) xs ys lf sy co h2 qx2 qy2 ql2 qs2 qc2 n2 t2 xs2 ys2 lf2 sy2 co2 ++ ([(oq, .inl (cL, 1, .inr (.inl lo)))] ++ wR cI cZ cY rh rx ry rg rt rs rw th n xr yr hr (u + 1 + 1) tb sg fl)) H := by rw [← List.append_assoc]; exact hP
  have hD : va_D (fun q : Nat => s.heap.size ≤ q) (wX cI o qo hs fl h qx qy ql qs qc n (u + 1 + 1) xs ys lf sy co h2 qx2 qy2 ql2 qs2 qc2 n2 t2 xs2 ys2 lf2 sy2 co2 ++ ([(oq, .inl (cL, 1, .inr (.inl lo)))] ++ wR cI cZ cY rh rx ry rg rt rs rw th n xr yr hr (u + 1 + 1) tb sg fl)) := by rw [← List.append_assoc]; exact hD
  refine lv_aload_n hx hb dL_law_443 rfl (lv_at hl 2 rfl) ?_
  refine lw_cX (C := RX1) (As := []) (rest := []) F (c_X1_settle l dC dI cI cZ cY o qo hs fl h qx qy ql qs qc n (u + 1 + 1) xs ys lf sy co h2 qx2 qy2 ql2 qs2 qc2 n2 t2 xs2 ys2 lf2 sy2 co2 H.size (by omega)) (cwV 0 hts gL_law_X1_settle rfl rfl rfl hd_X1_settle ⟨Nat.le_of_ble_eq_true rfl, Nat.le_of_ble_eq_true rfl⟩) hP hK hD hS hA (va_recv hK hP (ci := 1) (q0 := 0) rfl rfl) rfl hl.1 rfl (lv_room (Nat.le_of_ble_eq_true rfl)) dL_law_444 ⟨show cells + 0 ≤ 601024 by omega, show slots + 0 ≤ 7293034 by omega⟩ (fun H locs hP hD hS => ?_)
  rw [← List.append_assoc] at hP hD
  obtain ⟨N, o1, o2, o3, o4, o5⟩ := op_settle (fl := fl) hZ
  refine lv_aload_n hx hb dL_law_447 rfl (lv_at hl 3 rfl) ?_
  refine lw_cR (C := RX2) (As := []) (rest := [.int (nI (m_tuN n xs ys sy (u + 1 + 1, lf, co)))]) F (c_X2_settle l dC dI cI cZ cY rh rx ry rg rt rs rw th n xr yr hr 0 tb sg fl H.size u N (by omega) (by omega) o1 o2 o3) (cwV 0 hts gL_law_X2_settle rfl rfl rfl hd_X2_settle ⟨Nat.le_of_ble_eq_true rfl, Nat.le_of_ble_eq_true rfl⟩) hP hK hD hS hA (va_recv hK hP.comm.left (ci := 2) (q0 := 0) rfl rfl) rfl hl.1 rfl (lv_room (Nat.le_of_ble_eq_true rfl)) dL_law_448 ⟨show cells + 0 + 0 ≤ 601024 by omega, show slots + 0 + 0 ≤ 7293034 by omega⟩ (fun H locs hP hD hS => ?_)
  refine lv_icmp_eq (tgt := 1204) hx hb dL_law_451 (by decide) (fun _ => ?_) (fun q => absurd o4 q)
  refine W.widen (k := cells + 24) (n := slots + 364) (by omega) (by omega) ?_
  exact kk _ _ _ _ _ _ _ _ _ _ _ _ _ _ _ _ _ _ _ _ _ _ _ _ _ _ _ _ _ (o5) hP hD hS (lv_sub hl [0, 1, 2, 3, 4] rfl)
