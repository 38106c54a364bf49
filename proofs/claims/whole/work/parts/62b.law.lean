set_option maxHeartbeats 4000000 in
set_option maxRecDepth 100000 in
theorem lw_op_told {p : Program} {l : Launch} {e : Env} {s : State} {m : MethodId} {below : List Frame} {meth : Method} {c : Code} {dC : Nat → ClassId} {dI : Nat → Nat → Nat} {cI cZ cY cL : ClassId} {b o qo h qx qy ql qs qc h2 qx2 qy2 ql2 qs2 qc2 oq rh rx ry rg rt rs : Nat} {rw : Nat → Nat} {L : Nat} {xs0 : Nat → Int32} {i cells slots : Nat} (hC : lw_C p l s m meth c dC dI cI cZ cY cL b L xs0) (hL : L ≤ 2048) (hi : i + 4 ≤ L) (hc : cells + 24 ≤ 601024) (hs9 : slots + 364 ≤ 7293034) (kk : lw_K p l e s m below meth c dC dI cI cZ cY cL b o qo h qx qy ql qs qc h2 qx2 qy2 ql2 qs2 qc2 oq rh rx ry rg rt rs rw i (cells + 24) (slots + 364) 1204) : lw_K p l e s m below meth c dC dI cI cZ cY cL b o qo h qx qy ql qs qc h2 qx2 qy2 ql2 qs2 qc2 oq rh rx ry rg rt rs rw i cells slots 456 := by
  obtain ⟨⟨hx, hb, hr0, hml, hown, hts0, hX, hbl, hlocks, hgv⟩, hl0, hE, hN, hk, hK⟩ := hC
  have hts : ∀ w ∈ wsL_law, w.before #[Value.ref b] s = true := fun w h => hts0 w (wsL_law_in w h)
  have hA : ∀ q : Nat, s.heap.size ≤ q → (fun q : Nat => s.heap.size ≤ q) q := fun _ h => h
  have hbA : ¬ (fun q : Nat => s.heap.size ≤ q) b := Nat.not_le.mpr hbl
  have F : CallFix p m c cL_law 9 s #[Value.ref b] wsL_law RL := ⟨hx, hb, hml, hown, hts⟩
  intro hs fl0 n0 t0 xs ys lf sy co n2 t2 xs2 ys2 lf2 sy2 co2 lo th n xr yr hr t tb sg fl H locs ls hW hP hD hS hl
  obtain ⟨e1, e2, e3, hZ⟩ := hW
  subst e1 e2 e3
  have hbd := Z_bd hZ
  have op := op_told hZ (xs0 (nI i + 1).toNatClampNeg) (xs0 (nI i + 2).toNatClampNeg)
  refine lv_aload_n hx hb dL_law_456 rfl (lv_at hl 2 rfl) ?_
  refine lv_aload_n hx hb dL_law_457 rfl (lv_at hl 1 rfl) ?_
  refine lv_iload hx hb dL_law_458 (lv_at hl 0 rfl) ?_
  refine lv_iconst (v := 1) hx hb dL_law_460 (by decide) ?_
  refine lv_iadd hx hb dL_law_461 ?_
  refine va_sld hx hb hX hbl hbA hS (sc_in (j := 1) (by omega) hL) dL_law_462 ?_
  refine lv_aload_n hx hb dL_law_463 rfl (lv_at hl 1 rfl) ?_
  refine lv_iload hx hb dL_law_464 (lv_at hl 0 rfl) ?_
  refine lv_iconst (v := 2) hx hb dL_law_466 (by decide) ?_
  refine lv_iadd hx hb dL_law_467 ?_
  refine va_sld hx hb hX hbl hbA hS (sc_in (j := 2) (by omega) hL) dL_law_468 ?_
  refine lv_aload_n hx hb dL_law_469 rfl (lv_at hl 4 rfl) ?_
  refine lw_cS (As := [.ref o, .int (xs0 (nI i + 1).toNatClampNeg), .int (xs0 (nI i + 2).toNatClampNeg), .ref oq]) (rest := []) hE hN F (c_L_told l hl0 dC dI cI cZ cY cL o qo hs fl h qx qy ql qs qc n t xs ys lf sy co h2 qx2 qy2 ql2 qs2 qc2 n2 t2 xs2 ys2 lf2 sy2 co2 oq lo (xs0 (nI i + 1).toNatClampNeg) (xs0 (nI i + 2).toNatClampNeg) H.size (by omega)) (vx_cwSW 4 hts gL_law_L_told rfl rfl rfl hd_L_told.2 ⟨Nat.le_of_ble_eq_true rfl, Nat.le_of_ble_eq_true rfl⟩) hP hK hD hS hA rfl hl.1 rfl (lv_room (Nat.le_of_ble_eq_true rfl)) dL_law_470 ⟨show cells + 2 ≤ 601024 by omega, show slots + 12 ≤ 7293034 by omega⟩ (fun H locs hP hD hS => ?_)
  refine lv_istore (lv' := [(5, .int (x_k (x_okTd n (xs0 (nI i + 1).toNatClampNeg) (xs0 (nI i + 2).toNatClampNeg)) xIOB xIOB)), (4, .int (nI i)), (0, .ref b), (1, .ref o), (2, .ref rh), (3, .ref oq)]) hx hb dL_law_473 hl (by decide) rfl (fun ls hl => ?_)
  refine lv_aload_n hx hb dL_law_475 rfl (lv_at hl 4 rfl) ?_
  refine lv_aload_n hx hb dL_law_476 rfl (lv_at hl 2 rfl) ?_
  refine lv_iload hx hb dL_law_477 (lv_at hl 1 rfl) ?_
  refine lv_iconst (v := 1) hx hb dL_law_479 (by decide) ?_
  refine lv_iadd hx hb dL_law_480 ?_
  refine va_sld hx hb hX hbl hbA hS (sc_in (j := 1) (by omega) hL) dL_law_481 ?_
  refine lv_aload_n hx hb dL_law_482 rfl (lv_at hl 2 rfl) ?_
  refine lv_iload hx hb dL_law_483 (lv_at hl 1 rfl) ?_
  refine lv_iconst (v := 2) hx hb dL_law_485 (by decide) ?_
  refine lv_iadd hx hb dL_law_486 ?_
  refine va_sld hx hb hX hbl hbA hS (sc_in (j := 2) (by omega) hL) dL_law_487 ?_
  refine lw_cR (C := RX2) (As := [.int (xs0 (nI i + 1).toNatClampNeg), .int (xs0 (nI i + 2).toNatClampNeg)]) (rest := []) F (c_X2_told l dC dI cI cZ cY rh rx ry rg rt rs rw th n xr yr hr t tb sg fl (xs0 (nI i + 1).toNatClampNeg) (xs0 (nI i + 2).toNatClampNeg) H.size (by omega) (by omega) (by omega)) (cwV 2 hts gL_law_X2_told rfl rfl rfl hd_X2_told ⟨Nat.le_of_ble_eq_true rfl, Nat.le_of_ble_eq_true rfl⟩) hP hK hD hS hA (va_recv hK hP.comm.left (ci := 2) (q0 := 0) rfl rfl) rfl hl.1 rfl (lv_room (Nat.le_of_ble_eq_true rfl)) dL_law_488 ⟨show cells + 2 + 0 ≤ 601024 by omega, show slots + 12 + 0 ≤ 7293034 by omega⟩ (fun H locs hP hD hS => ?_)
  refine lv_topi (fun v6 ev6 => ?_)
  refine lv_istore (lv' := [(6, .int v6), (5, .int (x_k (x_okTd n (xs0 (nI i + 1).toNatClampNeg) (xs0 (nI i + 2).toNatClampNeg)) xIOB xIOB)), (4, .int (nI i)), (0, .ref b), (1, .ref o), (2, .ref rh), (3, .ref oq)]) hx hb dL_law_491 hl (by decide) rfl (fun ls hl => ?_)
  refine lv_aload_n hx hb dL_law_493 rfl (lv_at hl 5 rfl) ?_
  refine lw_cT (C := RX2) (As := []) (rest := []) F (c_X2_thrown l dC dI cI cZ cY rh rx ry rg rt rs rw ((r_b2 (r_isIn (xs0 (nI i + 1).toNatClampNeg) 0 (nI n - 1)) (r_isIn (xs0 (nI i + 2).toNatClampNeg) 0 4) 0 1)) n xr yr hr t tb sg fl) (cwV 0 hts gL_law_X2_thrown rfl rfl rfl hd_X2_thrown ⟨Nat.le_of_ble_eq_true rfl, Nat.le_of_ble_eq_true rfl⟩) hP hK (va_recv hK hP.comm.left (ci := 2) (q0 := 0) rfl rfl) rfl hl.1 rfl (lv_room (Nat.le_of_ble_eq_true rfl)) dL_law_494 ⟨show cells + 2 + 0 + 0 ≤ 601024 by omega, show slots + 12 + 0 + 0 ≤ 7293034 by omega⟩ ?_
  refine lv_iload hx hb dL_law_497 (lv_at hl 1 rfl) ?_
  refine lv_icmp_eq (tgt := 504) hx hb dL_law_499 (by decide) (fun _ => ?_) (fun q => absurd (op.1).symm q)
  refine lv_iload hx hb dL_law_504 (lv_at hl 1 rfl) ?_
  cases hok : (x_okTd n (xs0 (nI i + 1).toNatClampNeg) (xs0 (nI i + 2).toNatClampNeg)) with
  | false =>
    rw [hok] at hP hD
    refine lv_if_ne (tgt := 521) hx hb dL_law_506 (by decide) (fun _ => ?_) (fun q => absurd (x_k_0 q) (by first | decide | (rw [hok]; decide)))
    refine lv_goto (tgt := 1204) hx hb dL_law_521 (by decide) ?_
    refine W.widen (k := cells + 24) (n := slots + 364) (by omega) (by omega) ?_
    exact kk _ _ _ _ _ _ _ _ _ _ _ _ _ _ _ _ _ _ _ _ _ _ _ _ _ _ _ _ _ (W_of hZ) hP hD hS (lv_sub hl [2, 3, 4, 5, 6] rfl)
  | true =>
    rw [hok] at hP hD
    have hk0 : (x_k (x_okTd n (xs0 (nI i + 1).toNatClampNeg) (xs0 (nI i + 2).toNatClampNeg)) xIOB xIOB) = 0 := by rw [hok]; rfl
    refine lv_if_ne (tgt := 521) hx hb dL_law_506 (by decide) (fun q => absurd (by first | rfl | exact hk0) q) (fun _ => ?_)
    refine lv_aload_n hx hb dL_law_509 rfl (lv_at hl 6 rfl) ?_
    refine lv_iconst (v := 0) hx hb dL_law_510 (by decide) ?_
    refine va_lald (D := (dC, dI)) hx hb hK hP 14 3 rfl rfl (vp_in_nI (n := 0) (N := 1) (by decide) (by decide)) dL_law_511 ?_
    refine lv_iload hx hb dL_law_512 (lv_at hl 0 rfl) ?_
    refine lv_i2l hx hb dL_law_514 rfl ?_
    refine W.lcmp hx hb dL_law_515 ?_
    refine lv_if_eq (tgt := 521) hx hb dL_law_516 (by decide) (fun _ => ?_) (fun q => absurd (by rw [ev6, ← (op.2 hok)]; exact lg_cmp_self _) q)
    refine lv_goto (tgt := 1204) hx hb dL_law_521 (by decide) ?_
    refine W.widen (k := cells + 24) (n := slots + 364) (by omega) (by omega) ?_
    exact kk _ _ _ _ _ _ _ _ _ _ _ _ _ _ _ _ _ _ _ _ _ _ _ _ _ _ _ _ _ (W_of hZ) hP hD hS (lv_sub hl [2, 3, 4, 5, 6] rfl)
set_option maxHeartbeats 4000000 in
set_option maxRecDepth 100000 in
theorem lw_op_triangle {p : Program} {l : Launch} {e : Env} {s : State} {m : MethodId} {below : List Frame} {meth : Method} {c : Code} {dC : Nat → ClassId} {dI : Nat → Nat → Nat} {cI cZ cY cL : ClassId} {b o qo h qx qy ql qs qc h2 qx2 qy2 ql2 qs2 qc2 oq rh rx ry rg rt rs : Nat} {rw : Nat → Nat} {L : Nat} {xs0 : Nat → Int32} {i cells slots : Nat} (hC : lw_C p l s m meth c dC dI cI cZ cY cL b L xs0) (hL : L ≤ 2048) (hi : i + 4 ≤ L) (hc : cells + 24 ≤ 601024) (hs9 : slots + 364 ≤ 7293034) (kk : lw_K p l e s m below meth c dC dI cI cZ cY cL b o qo h qx qy ql qs qc h2 qx2 qy2 ql2 qs2 qc2 oq rh rx ry rg rt rs rw i (cells + 24) (slots + 364) 1204) : lw_K p l e s m below meth c dC dI cI cZ cY cL b o qo h qx qy ql qs qc h2 qx2 qy2 ql2 qs2 qc2 oq rh rx ry rg rt rs rw i cells slots 524 := by
  obtain ⟨⟨hx, hb, hr0, hml, hown, hts0, hX, hbl, hlocks, hgv⟩, hl0, hE, hN, hk, hK⟩ := hC
  have hts : ∀ w ∈ wsL_law, w.before #[Value.ref b] s = true := fun w h => hts0 w (wsL_law_in w h)
  have hA : ∀ q : Nat, s.heap.size ≤ q → (fun q : Nat => s.heap.size ≤ q) q := fun _ h => h
  have hbA : ¬ (fun q : Nat => s.heap.size ≤ q) b := Nat.not_le.mpr hbl
  have F : CallFix p m c cL_law 9 s #[Value.ref b] wsL_law RL := ⟨hx, hb, hml, hown, hts⟩
  intro hs fl0 n0 t0 xs ys lf sy co n2 t2 xs2 ys2 lf2 sy2 co2 lo th n xr yr hr t tb sg fl H locs ls hW hP hD hS hl
  obtain ⟨e1, e2, e3, hZ⟩ := hW
  subst e1 e2 e3
  have hbd := Z_bd hZ
  have op := op_triangle hZ (xs0 (nI i + 1).toNatClampNeg) (xs0 (nI i + 2).toNatClampNeg)
  refine lv_aload_n hx hb dL_law_524 rfl (lv_at hl 2 rfl) ?_
  refine lv_aload_n hx hb dL_law_525 rfl (lv_at hl 1 rfl) ?_
  refine lv_iload hx hb dL_law_526 (lv_at hl 0 rfl) ?_
  refine lv_iconst (v := 1) hx hb dL_law_528 (by decide) ?_
  refine lv_iadd hx hb dL_law_529 ?_
  refine va_sld hx hb hX hbl hbA hS (sc_in (j := 1) (by omega) hL) dL_law_530 ?_
  refine lv_aload_n hx hb dL_law_531 rfl (lv_at hl 1 rfl) ?_
  refine lv_iload hx hb dL_law_532 (lv_at hl 0 rfl) ?_
  refine lv_iconst (v := 2) hx hb dL_law_534 (by decide) ?_
  refine lv_iadd hx hb dL_law_535 ?_
  refine va_sld hx hb hX hbl hbA hS (sc_in (j := 2) (by omega) hL) dL_law_536 ?_
  refine lv_aload_n hx hb dL_law_537 rfl (lv_at hl 4 rfl) ?_
  refine lw_cS (As := [.ref o, .int (xs0 (nI i + 1).toNatClampNeg), .int (xs0 (nI i + 2).toNatClampNeg), .ref oq]) (rest := []) hE hN F (c_L_triangle l hl0 dC dI cI cZ cY cL o qo hs fl h qx qy ql qs qc n t xs ys lf sy co h2 qx2 qy2 ql2 qs2 qc2 n2 t2 xs2 ys2 lf2 sy2 co2 oq lo (xs0 (nI i + 1).toNatClampNeg) (xs0 (nI i + 2).toNatClampNeg) H.size ) (vx_cwSW 4 hts gL_law_L_triangle rfl rfl rfl hd_L_triangle.2 ⟨Nat.le_of_ble_eq_true rfl, Nat.le_of_ble_eq_true rfl⟩) hP hK hD hS hA rfl hl.1 rfl (lv_room (Nat.le_of_ble_eq_true rfl)) dL_law_538 ⟨show cells + 1 ≤ 601024 by omega, show slots + 6 ≤ 7293034 by omega⟩ (fun H locs hP hD hS => ?_)
  refine lv_istore (lv' := [(5, .int (x_k (x_okTr t (xs0 (nI i + 1).toNatClampNeg) (xs0 (nI i + 2).toNatClampNeg)) xIOB xIOB)), (4, .int (nI i)), (0, .ref b), (1, .ref o), (2, .ref rh), (3, .ref oq)]) hx hb dL_law_541 hl (by decide) rfl (fun ls hl => ?_)
  refine lv_aload_n hx hb dL_law_543 rfl (lv_at hl 4 rfl) ?_
  refine lv_aload_n hx hb dL_law_544 rfl (lv_at hl 2 rfl) ?_
  refine lv_iload hx hb dL_law_545 (lv_at hl 1 rfl) ?_
  refine lv_iconst (v := 1) hx hb dL_law_547 (by decide) ?_
  refine lv_iadd hx hb dL_law_548 ?_
  refine va_sld hx hb hX hbl hbA hS (sc_in (j := 1) (by omega) hL) dL_law_549 ?_
  refine lv_aload_n hx hb dL_law_550 rfl (lv_at hl 2 rfl) ?_
  refine lv_iload hx hb dL_law_551 (lv_at hl 1 rfl) ?_
  refine lv_iconst (v := 2) hx hb dL_law_553 (by decide) ?_
  refine lv_iadd hx hb dL_law_554 ?_
  refine va_sld hx hb hX hbl hbA hS (sc_in (j := 2) (by omega) hL) dL_law_555 ?_
  refine lw_cR (C := RX2) (As := [.int (xs0 (nI i + 1).toNatClampNeg), .int (xs0 (nI i + 2).toNatClampNeg)]) (rest := []) F (c_X2_triangle l dC dI cI cZ cY rh rx ry rg rt rs rw th n xr yr hr t tb sg fl (xs0 (nI i + 1).toNatClampNeg) (xs0 (nI i + 2).toNatClampNeg) H.size (by omega) (by omega) (Z_okT hZ)) (cwV 2 hts gL_law_X2_triangle rfl rfl rfl hd_X2_triangle ⟨Nat.le_of_ble_eq_true rfl, Nat.le_of_ble_eq_true rfl⟩) hP hK hD hS hA (va_recv hK hP.comm.left (ci := 2) (q0 := 0) rfl rfl) rfl hl.1 rfl (lv_room (Nat.le_of_ble_eq_true rfl)) dL_law_556 ⟨show cells + 1 + 0 ≤ 601024 by omega, show slots + 6 + 0 ≤ 7293034 by omega⟩ (fun H locs hP hD hS => ?_)
  refine lv_topi (fun v6 ev6 => ?_)
  refine lv_istore (lv' := [(6, .int v6), (5, .int (x_k (x_okTr t (xs0 (nI i + 1).toNatClampNeg) (xs0 (nI i + 2).toNatClampNeg)) xIOB xIOB)), (4, .int (nI i)), (0, .ref b), (1, .ref o), (2, .ref rh), (3, .ref oq)]) hx hb dL_law_559 hl (by decide) rfl (fun ls hl => ?_)
  refine lv_aload_n hx hb dL_law_561 rfl (lv_at hl 5 rfl) ?_
  refine lw_cT (C := RX2) (As := []) (rest := []) F (c_X2_thrown l dC dI cI cZ cY rh rx ry rg rt rs rw ((r_b2 (r_isIn (xs0 (nI i + 1).toNatClampNeg) 0 (nI t - 1)) (r_isIn (xs0 (nI i + 2).toNatClampNeg) 0 3) 0 1)) n xr yr hr t tb sg fl) (cwV 0 hts gL_law_X2_thrown rfl rfl rfl hd_X2_thrown ⟨Nat.le_of_ble_eq_true rfl, Nat.le_of_ble_eq_true rfl⟩) hP hK (va_recv hK hP.comm.left (ci := 2) (q0 := 0) rfl rfl) rfl hl.1 rfl (lv_room (Nat.le_of_ble_eq_true rfl)) dL_law_562 ⟨show cells + 1 + 0 + 0 ≤ 601024 by omega, show slots + 6 + 0 + 0 ≤ 7293034 by omega⟩ ?_
  refine lv_iload hx hb dL_law_565 (lv_at hl 1 rfl) ?_
  refine lv_icmp_eq (tgt := 572) hx hb dL_law_567 (by decide) (fun _ => ?_) (fun q => absurd (op.1).symm q)
  refine lv_iload hx hb dL_law_572 (lv_at hl 1 rfl) ?_
  cases hok : (x_okTr t (xs0 (nI i + 1).toNatClampNeg) (xs0 (nI i + 2).toNatClampNeg)) with
  | false =>
    rw [hok] at hP hD
    refine lv_if_ne (tgt := 589) hx hb dL_law_574 (by decide) (fun _ => ?_) (fun q => absurd (x_k_0 q) (by first | decide | (rw [hok]; decide)))
    refine lv_goto (tgt := 1204) hx hb dL_law_589 (by decide) ?_
    refine W.widen (k := cells + 24) (n := slots + 364) (by omega) (by omega) ?_
    exact kk _ _ _ _ _ _ _ _ _ _ _ _ _ _ _ _ _ _ _ _ _ _ _ _ _ _ _ _ _ (W_of hZ) hP hD hS (lv_sub hl [2, 3, 4, 5, 6] rfl)
  | true =>
    rw [hok] at hP hD
    have hk0 : (x_k (x_okTr t (xs0 (nI i + 1).toNatClampNeg) (xs0 (nI i + 2).toNatClampNeg)) xIOB xIOB) = 0 := by rw [hok]; rfl
    refine lv_if_ne (tgt := 589) hx hb dL_law_574 (by decide) (fun q => absurd (by first | rfl | exact hk0) q) (fun _ => ?_)
    refine lv_aload_n hx hb dL_law_577 rfl (lv_at hl 6 rfl) ?_
    refine lv_iconst (v := 0) hx hb dL_law_578 (by decide) ?_
    refine va_lald (D := (dC, dI)) hx hb hK hP 14 3 rfl rfl (vp_in_nI (n := 0) (N := 1) (by decide) (by decide)) dL_law_579 ?_
    refine lv_iload hx hb dL_law_580 (lv_at hl 0 rfl) ?_
    refine lv_i2l hx hb dL_law_582 rfl ?_
    refine W.lcmp hx hb dL_law_583 ?_
    refine lv_if_eq (tgt := 589) hx hb dL_law_584 (by decide) (fun _ => ?_) (fun q => absurd (by rw [ev6, ← (op.2 hok)]; exact lg_cmp_self _) q)
    refine lv_goto (tgt := 1204) hx hb dL_law_589 (by decide) ?_
    refine W.widen (k := cells + 24) (n := slots + 364) (by omega) (by omega) ?_
    exact kk _ _ _ _ _ _ _ _ _ _ _ _ _ _ _ _ _ _ _ _ _ _ _ _ _ _ _ _ _ (W_of hZ) hP hD hS (lv_sub hl [2, 3, 4, 5, 6] rfl)
set_option maxHeartbeats 4000000 in
set_option maxRecDepth 100000 in
theorem lw_op_edge {p : Program} {l : Launch} {e : Env} {s : State} {m : MethodId} {below : List Frame} {meth : Method} {c : Code} {dC : Nat → ClassId} {dI : Nat → Nat → Nat} {cI cZ cY cL : ClassId} {b o qo h qx qy ql qs qc h2 qx2 qy2 ql2 qs2 qc2 oq rh rx ry rg rt rs : Nat} {rw : Nat → Nat} {L : Nat} {xs0 : Nat → Int32} {i cells slots : Nat} (hC : lw_C p l s m meth c dC dI cI cZ cY cL b L xs0) (hL : L ≤ 2048) (hi : i + 4 ≤ L) (hc : cells + 24 ≤ 601024) (hs9 : slots + 364 ≤ 7293034) (kk : lw_K p l e s m below meth c dC dI cI cZ cY cL b o qo h qx qy ql qs qc h2 qx2 qy2 ql2 qs2 qc2 oq rh rx ry rg rt rs rw i (cells + 24) (slots + 364) 1204) : lw_K p l e s m below meth c dC dI cI cZ cY cL b o qo h qx qy ql qs qc h2 qx2 qy2 ql2 qs2 qc2 oq rh rx ry rg rt rs rw i cells slots 592 := by
  obtain ⟨⟨hx, hb, hr0, hml, hown, hts0, hX, hbl, hlocks, hgv⟩, hl0, hE, hN, hk, hK⟩ := hC
  have hts : ∀ w ∈ wsL_law, w.before #[Value.ref b] s = true := fun w h => hts0 w (wsL_law_in w h)
  have hA : ∀ q : Nat, s.heap.size ≤ q → (fun q : Nat => s.heap.size ≤ q) q := fun _ h => h
  have hbA : ¬ (fun q : Nat => s.heap.size ≤ q) b := Nat.not_le.mpr hbl
  have F : CallFix p m c cL_law 9 s #[Value.ref b] wsL_law RL := ⟨hx, hb, hml, hown, hts⟩
  intro hs fl0 n0 t0 xs ys lf sy co n2 t2 xs2 ys2 lf2 sy2 co2 lo th n xr yr hr t tb sg fl H locs ls hW hP hD hS hl
  obtain ⟨e1, e2, e3, hZ⟩ := hW
  subst e1 e2 e3
  have hbd := Z_bd hZ
  have op := op_edge hZ (xs0 (nI i + 1).toNatClampNeg) (xs0 (nI i + 2).toNatClampNeg) (xs0 (nI i + 3).toNatClampNeg)
  refine lv_aload_n hx hb dL_law_592 rfl (lv_at hl 2 rfl) ?_
  refine lv_aload_n hx hb dL_law_593 rfl (lv_at hl 1 rfl) ?_
  refine lv_iload hx hb dL_law_594 (lv_at hl 0 rfl) ?_
  refine lv_iconst (v := 1) hx hb dL_law_596 (by decide) ?_
  refine lv_iadd hx hb dL_law_597 ?_
  refine va_sld hx hb hX hbl hbA hS (sc_in (j := 1) (by omega) hL) dL_law_598 ?_
  refine lv_aload_n hx hb dL_law_599 rfl (lv_at hl 1 rfl) ?_
  refine lv_iload hx hb dL_law_600 (lv_at hl 0 rfl) ?_
  refine lv_iconst (v := 2) hx hb dL_law_602 (by decide) ?_
  refine lv_iadd hx hb dL_law_603 ?_
  refine va_sld hx hb hX hbl hbA hS (sc_in (j := 2) (by omega) hL) dL_law_604 ?_
  refine lv_aload_n hx hb dL_law_605 rfl (lv_at hl 1 rfl) ?_
  refine lv_iload hx hb dL_law_606 (lv_at hl 0 rfl) ?_
  refine lv_iconst (v := 3) hx hb dL_law_608 (by decide) ?_
  refine lv_iadd hx hb dL_law_609 ?_
  refine va_sld hx hb hX hbl hbA hS (sc_in (j := 3) (by omega) hL) dL_law_610 ?_
  refine lv_aload_n hx hb dL_law_611 rfl (lv_at hl 4 rfl) ?_
  refine lw_cS (As := [.ref o, .int (xs0 (nI i + 1).toNatClampNeg), .int (xs0 (nI i + 2).toNatClampNeg), .int (xs0 (nI i + 3).toNatClampNeg), .ref oq]) (rest := []) hE hN F (c_L_edge l hl0 dC dI cI cZ cY cL o qo hs fl h qx qy ql qs qc n t xs ys lf sy co h2 qx2 qy2 ql2 qs2 qc2 n2 t2 xs2 ys2 lf2 sy2 co2 oq lo (xs0 (nI i + 1).toNatClampNeg) (xs0 (nI i + 2).toNatClampNeg) (xs0 (nI i + 3).toNatClampNeg) H.size ) (vx_cwSW 5 hts gL_law_L_edge rfl rfl rfl hd_L_edge.2 ⟨Nat.le_of_ble_eq_true rfl, Nat.le_of_ble_eq_true rfl⟩) hP hK hD hS hA rfl hl.1 rfl (lv_room (Nat.le_of_ble_eq_true rfl)) dL_law_612 ⟨show cells + 3 ≤ 601024 by omega, show slots + 18 ≤ 7293034 by omega⟩ (fun H locs hP hD hS => ?_)
  refine lv_istore (lv' := [(5, .int (x_k (x_okEd n (xs0 (nI i + 1).toNatClampNeg) (xs0 (nI i + 2).toNatClampNeg) (xs0 (nI i + 3).toNatClampNeg)) xIOB xIOB)), (4, .int (nI i)), (0, .ref b), (1, .ref o), (2, .ref rh), (3, .ref oq)]) hx hb dL_law_615 hl (by decide) rfl (fun ls hl => ?_)
  refine lv_aload_n hx hb dL_law_617 rfl (lv_at hl 4 rfl) ?_
  refine lv_aload_n hx hb dL_law_618 rfl (lv_at hl 2 rfl) ?_
  refine lv_iload hx hb dL_law_619 (lv_at hl 1 rfl) ?_
  refine lv_iconst (v := 1) hx hb dL_law_621 (by decide) ?_
  refine lv_iadd hx hb dL_law_622 ?_
  refine va_sld hx hb hX hbl hbA hS (sc_in (j := 1) (by omega) hL) dL_law_623 ?_
  refine lv_aload_n hx hb dL_law_624 rfl (lv_at hl 2 rfl) ?_
  refine lv_iload hx hb dL_law_625 (lv_at hl 1 rfl) ?_
  refine lv_iconst (v := 2) hx hb dL_law_627 (by decide) ?_
  refine lv_iadd hx hb dL_law_628 ?_
  refine va_sld hx hb hX hbl hbA hS (sc_in (j := 2) (by omega) hL) dL_law_629 ?_
  refine lv_aload_n hx hb dL_law_630 rfl (lv_at hl 2 rfl) ?_
  refine lv_iload hx hb dL_law_631 (lv_at hl 1 rfl) ?_
  refine lv_iconst (v := 3) hx hb dL_law_633 (by decide) ?_
  refine lv_iadd hx hb dL_law_634 ?_
  refine va_sld hx hb hX hbl hbA hS (sc_in (j := 3) (by omega) hL) dL_law_635 ?_
  refine lw_cR (C := RX2) (As := [.int (xs0 (nI i + 1).toNatClampNeg), .int (xs0 (nI i + 2).toNatClampNeg), .int (xs0 (nI i + 3).toNatClampNeg)]) (rest := []) F (c_X2_edge l dC dI cI cZ cY rh rx ry rg rt rs rw th n xr yr hr t tb sg fl (xs0 (nI i + 1).toNatClampNeg) (xs0 (nI i + 2).toNatClampNeg) (xs0 (nI i + 3).toNatClampNeg) H.size (by omega) (by omega) (by omega) (Z_okF hZ)) (cwV 3 hts gL_law_X2_edge rfl rfl rfl hd_X2_edge ⟨Nat.le_of_ble_eq_true rfl, Nat.le_of_ble_eq_true rfl⟩) hP hK hD hS hA (va_recv hK hP.comm.left (ci := 2) (q0 := 0) rfl rfl) rfl hl.1 rfl (lv_room (Nat.le_of_ble_eq_true rfl)) dL_law_636 ⟨show cells + 3 + 0 ≤ 601024 by omega, show slots + 18 + 0 ≤ 7293034 by omega⟩ (fun H locs hP hD hS => ?_)
  refine lv_topi (fun v6 ev6 => ?_)
  refine lv_istore (lv' := [(6, .int v6), (5, .int (x_k (x_okEd n (xs0 (nI i + 1).toNatClampNeg) (xs0 (nI i + 2).toNatClampNeg) (xs0 (nI i + 3).toNatClampNeg)) xIOB xIOB)), (4, .int (nI i)), (0, .ref b), (1, .ref o), (2, .ref rh), (3, .ref oq)]) hx hb dL_law_639 hl (by decide) rfl (fun ls hl => ?_)
  refine lv_aload_n hx hb dL_law_641 rfl (lv_at hl 5 rfl) ?_
  refine lw_cT (C := RX2) (As := []) (rest := []) F (c_X2_thrown l dC dI cI cZ cY rh rx ry rg rt rs rw ((r_b3 (r_isIn (xs0 (nI i + 1).toNatClampNeg) 0 (nI n - 1)) (r_isIn (xs0 (nI i + 2).toNatClampNeg) 0 (nI n - 1)) (r_isIn (xs0 (nI i + 3).toNatClampNeg) 0 4) 0 1)) n xr yr hr t tb sg fl) (cwV 0 hts gL_law_X2_thrown rfl rfl rfl hd_X2_thrown ⟨Nat.le_of_ble_eq_true rfl, Nat.le_of_ble_eq_true rfl⟩) hP hK (va_recv hK hP.comm.left (ci := 2) (q0 := 0) rfl rfl) rfl hl.1 rfl (lv_room (Nat.le_of_ble_eq_true rfl)) dL_law_642 ⟨show cells + 3 + 0 + 0 ≤ 601024 by omega, show slots + 18 + 0 + 0 ≤ 7293034 by omega⟩ ?_
  refine lv_iload hx hb dL_law_645 (lv_at hl 1 rfl) ?_
  refine lv_icmp_eq (tgt := 652) hx hb dL_law_647 (by decide) (fun _ => ?_) (fun q => absurd (op.1).symm q)
  refine lv_iload hx hb dL_law_652 (lv_at hl 1 rfl) ?_
  cases hok : (x_okEd n (xs0 (nI i + 1).toNatClampNeg) (xs0 (nI i + 2).toNatClampNeg) (xs0 (nI i + 3).toNatClampNeg)) with
  | false =>
    rw [hok] at hP hD
    refine lv_if_ne (tgt := 669) hx hb dL_law_654 (by decide) (fun _ => ?_) (fun q => absurd (x_k_0 q) (by first | decide | (rw [hok]; decide)))
    refine lv_goto (tgt := 1204) hx hb dL_law_669 (by decide) ?_
    refine W.widen (k := cells + 24) (n := slots + 364) (by omega) (by omega) ?_
    exact kk _ _ _ _ _ _ _ _ _ _ _ _ _ _ _ _ _ _ _ _ _ _ _ _ _ _ _ _ _ (W_of hZ) hP hD hS (lv_sub hl [2, 3, 4, 5, 6] rfl)
  | true =>
    rw [hok] at hP hD
    have hk0 : (x_k (x_okEd n (xs0 (nI i + 1).toNatClampNeg) (xs0 (nI i + 2).toNatClampNeg) (xs0 (nI i + 3).toNatClampNeg)) xIOB xIOB) = 0 := by rw [hok]; rfl
    refine lv_if_ne (tgt := 669) hx hb dL_law_654 (by decide) (fun q => absurd (by first | rfl | exact hk0) q) (fun _ => ?_)
    refine lv_aload_n hx hb dL_law_657 rfl (lv_at hl 6 rfl) ?_
    refine lv_iconst (v := 0) hx hb dL_law_658 (by decide) ?_
    refine va_lald (D := (dC, dI)) hx hb hK hP 14 3 rfl rfl (vp_in_nI (n := 0) (N := 1) (by decide) (by decide)) dL_law_659 ?_
    refine lv_iload hx hb dL_law_660 (lv_at hl 0 rfl) ?_
    refine lv_i2l hx hb dL_law_662 rfl ?_
    refine W.lcmp hx hb dL_law_663 ?_
    refine lv_if_eq (tgt := 669) hx hb dL_law_664 (by decide) (fun _ => ?_) (fun q => absurd (by rw [ev6, ← (op.2 hok)]; exact lg_cmp_self _) q)
    refine lv_goto (tgt := 1204) hx hb dL_law_669 (by decide) ?_
    refine W.widen (k := cells + 24) (n := slots + 364) (by omega) (by omega) ?_
    exact kk _ _ _ _ _ _ _ _ _ _ _ _ _ _ _ _ _ _ _ _ _ _ _ _ _ _ _ _ _ (W_of hZ) hP hD hS (lv_sub hl [2, 3, 4, 5, 6] rfl)
set_option maxHeartbeats 4000000 in
set_option maxRecDepth 100000 in
theorem lw_op_count {p : Program} {l : Launch} {e : Env} {s : State} {m : MethodId} {below : List Frame} {meth : Method} {c : Code} {dC : Nat → ClassId} {dI : Nat → Nat → Nat} {cI cZ cY cL : ClassId} {b o qo h qx qy ql qs qc h2 qx2 qy2 ql2 qs2 qc2 oq rh rx ry rg rt rs : Nat} {rw : Nat → Nat} {L : Nat} {xs0 : Nat → Int32} {i cells slots : Nat} (hC : lw_C p l s m meth c dC dI cI cZ cY cL b L xs0) (hL : L ≤ 2048) (hi : i + 4 ≤ L) (hc : cells + 24 ≤ 601024) (hs9 : slots + 364 ≤ 7293034) (kk : lw_K p l e s m below meth c dC dI cI cZ cY cL b o qo h qx qy ql qs qc h2 qx2 qy2 ql2 qs2 qc2 oq rh rx ry rg rt rs rw i (cells + 24) (slots + 364) 1204) : lw_K p l e s m below meth c dC dI cI cZ cY cL b o qo h qx qy ql qs qc h2 qx2 qy2 ql2 qs2 qc2 oq rh rx ry rg rt rs rw i cells slots 672 := by
  obtain ⟨⟨hx, hb, hr0, hml, hown, hts0, hX, hbl, hlocks, hgv⟩, hl0, hE, hN, hk, hK⟩ := hC
  have hts : ∀ w ∈ wsL_law, w.before #[Value.ref b] s = true := fun w h => hts0 w (wsL_law_in w h)
  have hA : ∀ q : Nat, s.heap.size ≤ q → (fun q : Nat => s.heap.size ≤ q) q := fun _ h => h
  have hbA : ¬ (fun q : Nat => s.heap.size ≤ q) b := Nat.not_le.mpr hbl
  have F : CallFix p m c cL_law 9 s #[Value.ref b] wsL_law RL := ⟨hx, hb, hml, hown, hts⟩
  intro hs fl0 n0 t0 xs ys lf sy co n2 t2 xs2 ys2 lf2 sy2 co2 lo th n xr yr hr t tb sg fl H locs ls hW hP hD hS hl
  obtain ⟨e1, e2, e3, hZ⟩ := hW
  subst e1 e2 e3
  have hbd := Z_bd hZ
  have op := op_count hZ fl (xs0 (nI i + 1).toNatClampNeg)
  refine lv_aload_n hx hb dL_law_672 rfl (lv_at hl 2 rfl) ?_
  refine lv_aload_n hx hb dL_law_673 rfl (lv_at hl 1 rfl) ?_
  refine lv_iload hx hb dL_law_674 (lv_at hl 0 rfl) ?_
  refine lv_iconst (v := 1) hx hb dL_law_676 (by decide) ?_
  refine lv_iadd hx hb dL_law_677 ?_
  refine va_sld hx hb hX hbl hbA hS (sc_in (j := 1) (by omega) hL) dL_law_678 ?_
  refine lv_aload_n hx hb dL_law_679 rfl (lv_at hl 4 rfl) ?_
  refine lw_cS (As := [.ref o, .int (xs0 (nI i + 1).toNatClampNeg), .ref oq]) (rest := []) hE hN F (c_L_count l hl0 dC dI cI cZ cY cL o qo hs fl h qx qy ql qs qc n t xs ys lf sy co h2 qx2 qy2 ql2 qs2 qc2 n2 t2 xs2 ys2 lf2 sy2 co2 oq lo (xs0 (nI i + 1).toNatClampNeg) H.size (by omega)) (vx_cwSW 3 hts gL_law_L_count rfl rfl rfl hd_L_count.2 ⟨Nat.le_of_ble_eq_true rfl, Nat.le_of_ble_eq_true rfl⟩) hP hK hD hS hA rfl hl.1 rfl (lv_room (Nat.le_of_ble_eq_true rfl)) dL_law_680 ⟨show cells + 1 ≤ 601024 by omega, show slots + 6 ≤ 7293034 by omega⟩ (fun H locs hP hD hS => ?_)
  refine lv_istore (lv' := [(5, .int (x_k (x_what (xs0 (nI i + 1).toNatClampNeg) 7) xIOB xIOB)), (4, .int (nI i)), (0, .ref b), (1, .ref o), (2, .ref rh), (3, .ref oq)]) hx hb dL_law_683 hl (by decide) rfl (fun ls hl => ?_)
  refine lv_aload_n hx hb dL_law_685 rfl (lv_at hl 4 rfl) ?_
  refine lv_aload_n hx hb dL_law_686 rfl (lv_at hl 2 rfl) ?_
  refine lv_iload hx hb dL_law_687 (lv_at hl 1 rfl) ?_
  refine lv_iconst (v := 1) hx hb dL_law_689 (by decide) ?_
  refine lv_iadd hx hb dL_law_690 ?_
  refine va_sld hx hb hX hbl hbA hS (sc_in (j := 1) (by omega) hL) dL_law_691 ?_
  refine lw_cR (C := RX2) (As := [.int (xs0 (nI i + 1).toNatClampNeg)]) (rest := []) F (c_X2_count l dC dI cI cZ cY rh rx ry rg rt rs rw th n xr yr hr t tb sg fl (xs0 (nI i + 1).toNatClampNeg) H.size (by omega) (by omega) (Z_okF hZ)) (cwV 1 hts gL_law_X2_count rfl rfl rfl hd_X2_count ⟨Nat.le_of_ble_eq_true rfl, Nat.le_of_ble_eq_true rfl⟩) hP hK hD hS hA (va_recv hK hP.comm.left (ci := 2) (q0 := 0) rfl rfl) rfl hl.1 rfl (lv_room (Nat.le_of_ble_eq_true rfl)) dL_law_692 ⟨show cells + 1 + 0 ≤ 601024 by omega, show slots + 6 + 0 ≤ 7293034 by omega⟩ (fun H locs hP hD hS => ?_)
  refine lv_topi (fun v6 ev6 => ?_)
  refine lv_istore (lv' := [(6, .int v6), (5, .int (x_k (x_what (xs0 (nI i + 1).toNatClampNeg) 7) xIOB xIOB)), (4, .int (nI i)), (0, .ref b), (1, .ref o), (2, .ref rh), (3, .ref oq)]) hx hb dL_law_695 hl (by decide) rfl (fun ls hl => ?_)
  refine lv_aload_n hx hb dL_law_697 rfl (lv_at hl 5 rfl) ?_
  refine lw_cT (C := RX2) (As := []) (rest := []) F (c_X2_thrown l dC dI cI cZ cY rh rx ry rg rt rs rw ((r_b1 (r_isIn (xs0 (nI i + 1).toNatClampNeg) 0 6) 0 1)) n xr yr hr t tb sg fl) (cwV 0 hts gL_law_X2_thrown rfl rfl rfl hd_X2_thrown ⟨Nat.le_of_ble_eq_true rfl, Nat.le_of_ble_eq_true rfl⟩) hP hK (va_recv hK hP.comm.left (ci := 2) (q0 := 0) rfl rfl) rfl hl.1 rfl (lv_room (Nat.le_of_ble_eq_true rfl)) dL_law_698 ⟨show cells + 1 + 0 + 0 ≤ 601024 by omega, show slots + 6 + 0 + 0 ≤ 7293034 by omega⟩ ?_
  refine lv_iload hx hb dL_law_701 (lv_at hl 1 rfl) ?_
  refine lv_icmp_eq (tgt := 708) hx hb dL_law_703 (by decide) (fun _ => ?_) (fun q => absurd (op.1).symm q)
  refine lv_iload hx hb dL_law_708 (lv_at hl 1 rfl) ?_
  cases hok : (x_what (xs0 (nI i + 1).toNatClampNeg) 7) with
  | false =>
    rw [hok] at hP hD
    refine lv_if_ne (tgt := 725) hx hb dL_law_710 (by decide) (fun _ => ?_) (fun q => absurd (x_k_0 q) (by first | decide | (rw [hok]; decide)))
    refine lv_goto (tgt := 1204) hx hb dL_law_725 (by decide) ?_
    refine W.widen (k := cells + 24) (n := slots + 364) (by omega) (by omega) ?_
    exact kk _ _ _ _ _ _ _ _ _ _ _ _ _ _ _ _ _ _ _ _ _ _ _ _ _ _ _ _ _ (W_of hZ) hP hD hS (lv_sub hl [2, 3, 4, 5, 6] rfl)
  | true =>
    rw [hok] at hP hD
    have hk0 : (x_k (x_what (xs0 (nI i + 1).toNatClampNeg) 7) xIOB xIOB) = 0 := by rw [hok]; rfl
    refine lv_if_ne (tgt := 725) hx hb dL_law_710 (by decide) (fun q => absurd (by first | rfl | exact hk0) q) (fun _ => ?_)
    refine lv_aload_n hx hb dL_law_713 rfl (lv_at hl 6 rfl) ?_
    refine lv_iconst (v := 0) hx hb dL_law_714 (by decide) ?_
    refine va_lald (D := (dC, dI)) hx hb hK hP 14 3 rfl rfl (vp_in_nI (n := 0) (N := 1) (by decide) (by decide)) dL_law_715 ?_
    refine lv_iload hx hb dL_law_716 (lv_at hl 0 rfl) ?_
    refine lv_i2l hx hb dL_law_718 rfl ?_
    refine W.lcmp hx hb dL_law_719 ?_
    refine lv_if_eq (tgt := 725) hx hb dL_law_720 (by decide) (fun _ => ?_) (fun q => absurd (by rw [ev6, ← (op.2 hok)]; exact lg_cmp_self _) q)
    refine lv_goto (tgt := 1204) hx hb dL_law_725 (by decide) ?_
    refine W.widen (k := cells + 24) (n := slots + 364) (by omega) (by omega) ?_
    exact kk _ _ _ _ _ _ _ _ _ _ _ _ _ _ _ _ _ _ _ _ _ _ _ _ _ _ _ _ _ (W_of hZ) hP hD hS (lv_sub hl [2, 3, 4, 5, 6] rfl)
set_option maxHeartbeats 4000000 in
set_option maxRecDepth 100000 in
theorem lw_op_at {p : Program} {l : Launch} {e : Env} {s : State} {m : MethodId} {below : List Frame} {meth : Method} {c : Code} {dC : Nat → ClassId} {dI : Nat → Nat → Nat} {cI cZ cY cL : ClassId} {b o qo h qx qy ql qs qc h2 qx2 qy2 ql2 qs2 qc2 oq rh rx ry rg rt rs : Nat} {rw : Nat → Nat} {L : Nat} {xs0 : Nat → Int32} {i cells slots : Nat} (hC : lw_C p l s m meth c dC dI cI cZ cY cL b L xs0) (hL : L ≤ 2048) (hi : i + 4 ≤ L) (hc : cells + 24 ≤ 601024) (hs9 : slots + 364 ≤ 7293034) (kk : lw_K p l e s m below meth c dC dI cI cZ cY cL b o qo h qx qy ql qs qc h2 qx2 qy2 ql2 qs2 qc2 oq rh rx ry rg rt rs rw i (cells + 24) (slots + 364) 1204) : lw_K p l e s m below meth c dC dI cI cZ cY cL b o qo h qx qy ql qs qc h2 qx2 qy2 ql2 qs2 qc2 oq rh rx ry rg rt rs rw i cells slots 728 := by
  obtain ⟨⟨hx, hb, hr0, hml, hown, hts0, hX, hbl, hlocks, hgv⟩, hl0, hE, hN, hk, hK⟩ := hC
  have hts : ∀ w ∈ wsL_law, w.before #[Value.ref b] s = true := fun w h => hts0 w (wsL_law_in w h)
  have hA : ∀ q : Nat, s.heap.size ≤ q → (fun q : Nat => s.heap.size ≤ q) q := fun _ h => h
  have hbA : ¬ (fun q : Nat => s.heap.size ≤ q) b := Nat.not_le.mpr hbl
  have F : CallFix p m c cL_law 9 s #[Value.ref b] wsL_law RL := ⟨hx, hb, hml, hown, hts⟩
  intro hs fl0 n0 t0 xs ys lf sy co n2 t2 xs2 ys2 lf2 sy2 co2 lo th n xr yr hr t tb sg fl H locs ls hW hP hD hS hl
  obtain ⟨e1, e2, e3, hZ⟩ := hW
  subst e1 e2 e3
  have hbd := Z_bd hZ
  have op := op_at hZ (xs0 (nI i + 1).toNatClampNeg) (xs0 (nI i + 2).toNatClampNeg)
  refine lv_aload_n hx hb dL_law_728 rfl (lv_at hl 2 rfl) ?_
  refine lv_aload_n hx hb dL_law_729 rfl (lv_at hl 1 rfl) ?_
  refine lv_iload hx hb dL_law_730 (lv_at hl 0 rfl) ?_
  refine lv_iconst (v := 1) hx hb dL_law_732 (by decide) ?_
  refine lv_iadd hx hb dL_law_733 ?_
  refine va_sld hx hb hX hbl hbA hS (sc_in (j := 1) (by omega) hL) dL_law_734 ?_
  refine lv_aload_n hx hb dL_law_735 rfl (lv_at hl 1 rfl) ?_
  refine lv_iload hx hb dL_law_736 (lv_at hl 0 rfl) ?_
  refine lv_iconst (v := 2) hx hb dL_law_738 (by decide) ?_
  refine lv_iadd hx hb dL_law_739 ?_
  refine va_sld hx hb hX hbl hbA hS (sc_in (j := 2) (by omega) hL) dL_law_740 ?_
  refine lv_aload_n hx hb dL_law_741 rfl (lv_at hl 4 rfl) ?_
  refine lw_cS (As := [.ref o, .int (xs0 (nI i + 1).toNatClampNeg), .int (xs0 (nI i + 2).toNatClampNeg), .ref oq]) (rest := []) hE hN F (c_L_at l hl0 dC dI cI cZ cY cL o qo hs fl h qx qy ql qs qc n t xs ys lf sy co h2 qx2 qy2 ql2 qs2 qc2 n2 t2 xs2 ys2 lf2 sy2 co2 oq lo (xs0 (nI i + 1).toNatClampNeg) (xs0 (nI i + 2).toNatClampNeg) H.size (by omega)) (vx_cwSW 4 hts gL_law_L_at rfl rfl rfl hd_L_at.2 ⟨Nat.le_of_ble_eq_true rfl, Nat.le_of_ble_eq_true rfl⟩) hP hK hD hS hA rfl hl.1 rfl (lv_room (Nat.le_of_ble_eq_true rfl)) dL_law_742 ⟨show cells + 1 ≤ 601024 by omega, show slots + 6 ≤ 7293034 by omega⟩ (fun H locs hP hD hS => ?_)
  refine lv_istore (lv' := [(5, .int (x_k (x_place (xs0 (nI i + 1).toNatClampNeg) (xs0 (nI i + 2).toNatClampNeg)) xIAE xIAE)), (4, .int (nI i)), (0, .ref b), (1, .ref o), (2, .ref rh), (3, .ref oq)]) hx hb dL_law_745 hl (by decide) rfl (fun ls hl => ?_)
  refine lv_aload_n hx hb dL_law_747 rfl (lv_at hl 4 rfl) ?_
  refine lv_aload_n hx hb dL_law_748 rfl (lv_at hl 2 rfl) ?_
  refine lv_iload hx hb dL_law_749 (lv_at hl 1 rfl) ?_
  refine lv_iconst (v := 1) hx hb dL_law_751 (by decide) ?_
  refine lv_iadd hx hb dL_law_752 ?_
  refine va_sld hx hb hX hbl hbA hS (sc_in (j := 1) (by omega) hL) dL_law_753 ?_
  refine lv_aload_n hx hb dL_law_754 rfl (lv_at hl 2 rfl) ?_
  refine lv_iload hx hb dL_law_755 (lv_at hl 1 rfl) ?_
  refine lv_iconst (v := 2) hx hb dL_law_757 (by decide) ?_
  refine lv_iadd hx hb dL_law_758 ?_
  refine va_sld hx hb hX hbl hbA hS (sc_in (j := 2) (by omega) hL) dL_law_759 ?_
  refine lw_cR (C := RX2) (As := [.int (xs0 (nI i + 1).toNatClampNeg), .int (xs0 (nI i + 2).toNatClampNeg)]) (rest := []) F (c_X2_at l dC dI cI cZ cY rh rx ry rg rt rs rw th n xr yr hr t tb sg fl (xs0 (nI i + 1).toNatClampNeg) (xs0 (nI i + 2).toNatClampNeg) H.size (by omega) (Z_okT hZ) (fun q => Z_cov hZ q)) (cwV 2 hts gL_law_X2_at rfl rfl rfl hd_X2_at ⟨Nat.le_of_ble_eq_true rfl, Nat.le_of_ble_eq_true rfl⟩) hP hK hD hS hA (va_recv hK hP.comm.left (ci := 2) (q0 := 0) rfl rfl) rfl hl.1 rfl (lv_room (Nat.le_of_ble_eq_true rfl)) dL_law_760 ⟨show cells + 1 + 0 ≤ 601024 by omega, show slots + 6 + 0 ≤ 7293034 by omega⟩ (fun H locs hP hD hS => ?_)
  refine lv_topi (fun v6 ev6 => ?_)
  refine lv_istore (lv' := [(6, .int v6), (5, .int (x_k (x_place (xs0 (nI i + 1).toNatClampNeg) (xs0 (nI i + 2).toNatClampNeg)) xIAE xIAE)), (4, .int (nI i)), (0, .ref b), (1, .ref o), (2, .ref rh), (3, .ref oq)]) hx hb dL_law_763 hl (by decide) rfl (fun ls hl => ?_)
  refine lv_aload_n hx hb dL_law_765 rfl (lv_at hl 5 rfl) ?_
  refine lw_cT (C := RX2) (As := []) (rest := []) F (c_X2_thrown l dC dI cI cZ cY rh rx ry rg rt rs rw ((r_b1 (r_isPlace (xs0 (nI i + 1).toNatClampNeg) (xs0 (nI i + 2).toNatClampNeg)) 0 1)) n xr yr hr t tb sg fl) (cwV 0 hts gL_law_X2_thrown rfl rfl rfl hd_X2_thrown ⟨Nat.le_of_ble_eq_true rfl, Nat.le_of_ble_eq_true rfl⟩) hP hK (va_recv hK hP.comm.left (ci := 2) (q0 := 0) rfl rfl) rfl hl.1 rfl (lv_room (Nat.le_of_ble_eq_true rfl)) dL_law_766 ⟨show cells + 1 + 0 + 0 ≤ 601024 by omega, show slots + 6 + 0 + 0 ≤ 7293034 by omega⟩ ?_
  refine lv_iload hx hb dL_law_769 (lv_at hl 1 rfl) ?_
  refine lv_icmp_eq (tgt := 776) hx hb dL_law_771 (by decide) (fun _ => ?_) (fun q => absurd (op.1).symm q)
  refine lv_iload hx hb dL_law_776 (lv_at hl 1 rfl) ?_
  cases hok : (x_place (xs0 (nI i + 1).toNatClampNeg) (xs0 (nI i + 2).toNatClampNeg)) with
  | false =>
    rw [hok] at hP hD
    refine lv_if_ne (tgt := 793) hx hb dL_law_778 (by decide) (fun _ => ?_) (fun q => absurd (x_k_0 q) (by first | decide | (rw [hok]; decide)))
    refine lv_goto (tgt := 1204) hx hb dL_law_793 (by decide) ?_
    refine W.widen (k := cells + 24) (n := slots + 364) (by omega) (by omega) ?_
    exact kk _ _ _ _ _ _ _ _ _ _ _ _ _ _ _ _ _ _ _ _ _ _ _ _ _ _ _ _ _ (W_of hZ) hP hD hS (lv_sub hl [2, 3, 4, 5, 6] rfl)
  | true =>
    rw [hok] at hP hD
    have hk0 : (x_k (x_place (xs0 (nI i + 1).toNatClampNeg) (xs0 (nI i + 2).toNatClampNeg)) xIAE xIAE) = 0 := by rw [hok]; rfl
    refine lv_if_ne (tgt := 793) hx hb dL_law_778 (by decide) (fun q => absurd (by first | rfl | exact hk0) q) (fun _ => ?_)
    refine lv_aload_n hx hb dL_law_781 rfl (lv_at hl 6 rfl) ?_
    refine lv_iconst (v := 0) hx hb dL_law_782 (by decide) ?_
    refine va_lald (D := (dC, dI)) hx hb hK hP 14 3 rfl rfl (vp_in_nI (n := 0) (N := 1) (by decide) (by decide)) dL_law_783 ?_
    refine lv_iload hx hb dL_law_784 (lv_at hl 0 rfl) ?_
    refine lv_i2l hx hb dL_law_786 rfl ?_
    refine W.lcmp hx hb dL_law_787 ?_
    refine lv_if_eq (tgt := 793) hx hb dL_law_788 (by decide) (fun _ => ?_) (fun q => absurd (by rw [ev6, ← (op.2 hok)]; exact lg_cmp_self _) q)
    refine lv_goto (tgt := 1204) hx hb dL_law_793 (by decide) ?_
    refine W.widen (k := cells + 24) (n := slots + 364) (by omega) (by omega) ?_
    exact kk _ _ _ _ _ _ _ _ _ _ _ _ _ _ _ _ _ _ _ _ _ _ _ _ _ _ _ _ _ (W_of hZ) hP hD hS (lv_sub hl [2, 3, 4, 5, 6] rfl)
