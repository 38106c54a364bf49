set_option maxHeartbeats 4000000 in
set_option maxRecDepth 100000 in
theorem lw_op_height {p : Program} {l : Launch} {e : Env} {s : State} {m : MethodId} {below : List Frame} {meth : Method} {c : Code} {dC : Nat → ClassId} {dI : Nat → Nat → Nat} {cI cZ cY cL : ClassId} {b o qo h qx qy ql qs qc h2 qx2 qy2 ql2 qs2 qc2 oq rh rx ry rg rt rs : Nat} {rw : Nat → Nat} {L : Nat} {xs0 : Nat → Int32} {i cells slots : Nat} (hC : lw_C p l s m meth c dC dI cI cZ cY cL b L xs0) (hL : L ≤ 2048) (hi : i + 4 ≤ L) (hc : cells + 24 ≤ 601024) (hs9 : slots + 364 ≤ 7293034) (kk : lw_K p l e s m below meth c dC dI cI cZ cY cL b o qo h qx qy ql qs qc h2 qx2 qy2 ql2 qs2 qc2 oq rh rx ry rg rt rs rw i (cells + 24) (slots + 364) 1204) : lw_K p l e s m below meth c dC dI cI cZ cY cL b o qo h qx qy ql qs qc h2 qx2 qy2 ql2 qs2 qc2 oq rh rx ry rg rt rs rw i cells slots 796 := by
  obtain ⟨⟨hx, hb, hr0, hml, hown, hts0, hX, hbl, hlocks, hgv⟩, hl0, hE, hN, hk, hK⟩ := hC
  have hts : ∀ w ∈ wsL_law, w.before #[Value.ref b] s = true := fun w h => hts0 w (wsL_law_in w h)
  have hA : ∀ q : Nat, s.heap.size ≤ q → (fun q : Nat => s.heap.size ≤ q) q := fun _ h => h
  have hbA : ¬ (fun q : Nat => s.heap.size ≤ q) b := Nat.not_le.mpr hbl
  have F : CallFix p m c cL_law 9 s #[Value.ref b] wsL_law RL := ⟨hx, hb, hml, hown, hts⟩
  intro hs fl0 n0 t0 xs ys lf sy co n2 t2 xs2 ys2 lf2 sy2 co2 lo th n xr yr hr t tb sg fl H locs ls hW hP hD hS hl
  obtain ⟨e1, e2, e3, hZ⟩ := hW
  subst e1 e2 e3
  have hbd := Z_bd hZ
  have op := op_height hZ (xs0 (nI i + 1).toNatClampNeg) (xs0 (nI i + 2).toNatClampNeg)
  refine lv_aload_n hx hb dL_law_796 rfl (lv_at hl 2 rfl) ?_
  refine lv_aload_n hx hb dL_law_797 rfl (lv_at hl 1 rfl) ?_
  refine lv_iload hx hb dL_law_798 (lv_at hl 0 rfl) ?_
  refine lv_iconst (v := 1) hx hb dL_law_800 (by decide) ?_
  refine lv_iadd hx hb dL_law_801 ?_
  refine va_sld hx hb hX hbl hbA hS (sc_in (j := 1) (by omega) hL) dL_law_802 ?_
  refine lv_aload_n hx hb dL_law_803 rfl (lv_at hl 1 rfl) ?_
  refine lv_iload hx hb dL_law_804 (lv_at hl 0 rfl) ?_
  refine lv_iconst (v := 2) hx hb dL_law_806 (by decide) ?_
  refine lv_iadd hx hb dL_law_807 ?_
  refine va_sld hx hb hX hbl hbA hS (sc_in (j := 2) (by omega) hL) dL_law_808 ?_
  refine lv_aload_n hx hb dL_law_809 rfl (lv_at hl 4 rfl) ?_
  refine lw_cS (As := [.ref o, .int (xs0 (nI i + 1).toNatClampNeg), .int (xs0 (nI i + 2).toNatClampNeg), .ref oq]) (rest := []) hE hN F (c_L_height l hl0 dC dI cI cZ cY cL o qo hs fl h qx qy ql qs qc n t xs ys lf sy co h2 qx2 qy2 ql2 qs2 qc2 n2 t2 xs2 ys2 lf2 sy2 co2 oq lo (xs0 (nI i + 1).toNatClampNeg) (xs0 (nI i + 2).toNatClampNeg) H.size (by omega)) (vx_cwSW 4 hts gL_law_L_height rfl rfl rfl hd_L_height.2 ⟨Nat.le_of_ble_eq_true rfl, Nat.le_of_ble_eq_true rfl⟩) hP hK hD hS hA rfl hl.1 rfl (lv_room (Nat.le_of_ble_eq_true rfl)) dL_law_810 ⟨show cells + 1 ≤ 601024 by omega, show slots + 6 ≤ 7293034 by omega⟩ (fun H locs hP hD hS => ?_)
  refine lv_istore (lv' := [(5, .int (x_k (x_place (xs0 (nI i + 1).toNatClampNeg) (xs0 (nI i + 2).toNatClampNeg)) xIAE xIAE)), (4, .int (nI i)), (0, .ref b), (1, .ref o), (2, .ref rh), (3, .ref oq)]) hx hb dL_law_813 hl (by decide) rfl (fun ls hl => ?_)
  refine lv_aload_n hx hb dL_law_815 rfl (lv_at hl 4 rfl) ?_
  refine lv_aload_n hx hb dL_law_816 rfl (lv_at hl 2 rfl) ?_
  refine lv_iload hx hb dL_law_817 (lv_at hl 1 rfl) ?_
  refine lv_iconst (v := 1) hx hb dL_law_819 (by decide) ?_
  refine lv_iadd hx hb dL_law_820 ?_
  refine va_sld hx hb hX hbl hbA hS (sc_in (j := 1) (by omega) hL) dL_law_821 ?_
  refine lv_aload_n hx hb dL_law_822 rfl (lv_at hl 2 rfl) ?_
  refine lv_iload hx hb dL_law_823 (lv_at hl 1 rfl) ?_
  refine lv_iconst (v := 2) hx hb dL_law_825 (by decide) ?_
  refine lv_iadd hx hb dL_law_826 ?_
  refine va_sld hx hb hX hbl hbA hS (sc_in (j := 2) (by omega) hL) dL_law_827 ?_
  refine lw_cR (C := RX2) (As := [.int (xs0 (nI i + 1).toNatClampNeg), .int (xs0 (nI i + 2).toNatClampNeg)]) (rest := []) F (c_X2_height l dC dI cI cZ cY rh rx ry rg rt rs rw th n xr yr hr t tb sg fl (xs0 (nI i + 1).toNatClampNeg) (xs0 (nI i + 2).toNatClampNeg) H.size (by omega) (Z_okT hZ) (fun q => Z_cov hZ q) op.1) (cwV 2 hts gL_law_X2_height rfl rfl rfl hd_X2_height ⟨Nat.le_of_ble_eq_true rfl, Nat.le_of_ble_eq_true rfl⟩) hP hK hD hS hA (va_recv hK hP.comm.left (ci := 2) (q0 := 0) rfl rfl) rfl hl.1 rfl (lv_room (Nat.le_of_ble_eq_true rfl)) dL_law_828 ⟨show cells + 1 + 0 ≤ 601024 by omega, show slots + 6 + 0 ≤ 7293034 by omega⟩ (fun H locs hP hD hS => ?_)
  refine lv_topi (fun v6 ev6 => ?_)
  refine lv_istore (lv' := [(6, .int v6), (5, .int (x_k (x_place (xs0 (nI i + 1).toNatClampNeg) (xs0 (nI i + 2).toNatClampNeg)) xIAE xIAE)), (4, .int (nI i)), (0, .ref b), (1, .ref o), (2, .ref rh), (3, .ref oq)]) hx hb dL_law_831 hl (by decide) rfl (fun ls hl => ?_)
  refine lv_aload_n hx hb dL_law_833 rfl (lv_at hl 5 rfl) ?_
  refine lw_cT (C := RX2) (As := []) (rest := []) F (c_X2_thrown l dC dI cI cZ cY rh rx ry rg rt rs rw ((r_b1 (r_isPlace (xs0 (nI i + 1).toNatClampNeg) (xs0 (nI i + 2).toNatClampNeg)) 0 1)) n xr yr hr t tb sg fl) (cwV 0 hts gL_law_X2_thrown rfl rfl rfl hd_X2_thrown ⟨Nat.le_of_ble_eq_true rfl, Nat.le_of_ble_eq_true rfl⟩) hP hK (va_recv hK hP.comm.left (ci := 2) (q0 := 0) rfl rfl) rfl hl.1 rfl (lv_room (Nat.le_of_ble_eq_true rfl)) dL_law_834 ⟨show cells + 1 + 0 + 0 ≤ 601024 by omega, show slots + 6 + 0 + 0 ≤ 7293034 by omega⟩ ?_
  refine lv_iload hx hb dL_law_837 (lv_at hl 1 rfl) ?_
  refine lv_icmp_eq (tgt := 844) hx hb dL_law_839 (by decide) (fun _ => ?_) (fun q => absurd (op.2.1).symm q)
  refine lv_iload hx hb dL_law_844 (lv_at hl 1 rfl) ?_
  cases hok : (x_place (xs0 (nI i + 1).toNatClampNeg) (xs0 (nI i + 2).toNatClampNeg)) with
  | false =>
    rw [hok] at hP hD
    refine lv_if_ne (tgt := 861) hx hb dL_law_846 (by decide) (fun _ => ?_) (fun q => absurd (x_k_0 q) (by first | decide | (rw [hok]; decide)))
    refine lv_goto (tgt := 1204) hx hb dL_law_861 (by decide) ?_
    refine W.widen (k := cells + 24) (n := slots + 364) (by omega) (by omega) ?_
    exact kk _ _ _ _ _ _ _ _ _ _ _ _ _ _ _ _ _ _ _ _ _ _ _ _ _ _ _ _ _ (W_of hZ) hP hD hS (lv_sub hl [2, 3, 4, 5, 6] rfl)
  | true =>
    rw [hok] at hP hD
    have hk0 : (x_k (x_place (xs0 (nI i + 1).toNatClampNeg) (xs0 (nI i + 2).toNatClampNeg)) xIAE xIAE) = 0 := by rw [hok]; rfl
    refine lv_if_ne (tgt := 861) hx hb dL_law_846 (by decide) (fun q => absurd (by first | rfl | exact hk0) q) (fun _ => ?_)
    refine lv_aload_n hx hb dL_law_849 rfl (lv_at hl 6 rfl) ?_
    refine lv_iconst (v := 0) hx hb dL_law_850 (by decide) ?_
    refine va_lald (D := (dC, dI)) hx hb hK hP 14 3 rfl rfl (vp_in_nI (n := 0) (N := 1) (by decide) (by decide)) dL_law_851 ?_
    refine lv_iload hx hb dL_law_852 (lv_at hl 0 rfl) ?_
    refine lv_i2l hx hb dL_law_854 rfl ?_
    refine W.lcmp hx hb dL_law_855 ?_
    refine lv_if_eq (tgt := 861) hx hb dL_law_856 (by decide) (fun _ => ?_) (fun q => absurd (by rw [ev6, ← (op.2.2 hok)]; exact lg_cmp_self _) q)
    refine lv_goto (tgt := 1204) hx hb dL_law_861 (by decide) ?_
    refine W.widen (k := cells + 24) (n := slots + 364) (by omega) (by omega) ?_
    exact kk _ _ _ _ _ _ _ _ _ _ _ _ _ _ _ _ _ _ _ _ _ _ _ _ _ _ _ _ _ (W_of hZ) hP hD hS (lv_sub hl [2, 3, 4, 5, 6] rfl)
set_option maxHeartbeats 4000000 in
set_option maxRecDepth 100000 in
theorem lw_op_nearest {p : Program} {l : Launch} {e : Env} {s : State} {m : MethodId} {below : List Frame} {meth : Method} {c : Code} {dC : Nat → ClassId} {dI : Nat → Nat → Nat} {cI cZ cY cL : ClassId} {b o qo h qx qy ql qs qc h2 qx2 qy2 ql2 qs2 qc2 oq rh rx ry rg rt rs : Nat} {rw : Nat → Nat} {L : Nat} {xs0 : Nat → Int32} {i cells slots : Nat} (hC : lw_C p l s m meth c dC dI cI cZ cY cL b L xs0) (hL : L ≤ 2048) (hi : i + 4 ≤ L) (hc : cells + 24 ≤ 601024) (hs9 : slots + 364 ≤ 7293034) (kk : lw_K p l e s m below meth c dC dI cI cZ cY cL b o qo h qx qy ql qs qc h2 qx2 qy2 ql2 qs2 qc2 oq rh rx ry rg rt rs rw i (cells + 24) (slots + 364) 1204) : lw_K p l e s m below meth c dC dI cI cZ cY cL b o qo h qx qy ql qs qc h2 qx2 qy2 ql2 qs2 qc2 oq rh rx ry rg rt rs rw i cells slots 864 := by
  obtain ⟨⟨hx, hb, hr0, hml, hown, hts0, hX, hbl, hlocks, hgv⟩, hl0, hE, hN, hk, hK⟩ := hC
  have hts : ∀ w ∈ wsL_law, w.before #[Value.ref b] s = true := fun w h => hts0 w (wsL_law_in w h)
  have hA : ∀ q : Nat, s.heap.size ≤ q → (fun q : Nat => s.heap.size ≤ q) q := fun _ h => h
  have hbA : ¬ (fun q : Nat => s.heap.size ≤ q) b := Nat.not_le.mpr hbl
  have F : CallFix p m c cL_law 9 s #[Value.ref b] wsL_law RL := ⟨hx, hb, hml, hown, hts⟩
  intro hs fl0 n0 t0 xs ys lf sy co n2 t2 xs2 ys2 lf2 sy2 co2 lo th n xr yr hr t tb sg fl H locs ls hW hP hD hS hl
  obtain ⟨e1, e2, e3, hZ⟩ := hW
  subst e1 e2 e3
  have hbd := Z_bd hZ
  have op := op_nearest hZ (xs0 (nI i + 1).toNatClampNeg) (xs0 (nI i + 2).toNatClampNeg)
  refine lv_aload_n hx hb dL_law_864 rfl (lv_at hl 2 rfl) ?_
  refine lv_aload_n hx hb dL_law_865 rfl (lv_at hl 1 rfl) ?_
  refine lv_iload hx hb dL_law_866 (lv_at hl 0 rfl) ?_
  refine lv_iconst (v := 1) hx hb dL_law_868 (by decide) ?_
  refine lv_iadd hx hb dL_law_869 ?_
  refine va_sld hx hb hX hbl hbA hS (sc_in (j := 1) (by omega) hL) dL_law_870 ?_
  refine lv_aload_n hx hb dL_law_871 rfl (lv_at hl 1 rfl) ?_
  refine lv_iload hx hb dL_law_872 (lv_at hl 0 rfl) ?_
  refine lv_iconst (v := 2) hx hb dL_law_874 (by decide) ?_
  refine lv_iadd hx hb dL_law_875 ?_
  refine va_sld hx hb hX hbl hbA hS (sc_in (j := 2) (by omega) hL) dL_law_876 ?_
  refine lv_aload_n hx hb dL_law_877 rfl (lv_at hl 4 rfl) ?_
  refine lw_cS (As := [.ref o, .int (xs0 (nI i + 1).toNatClampNeg), .int (xs0 (nI i + 2).toNatClampNeg), .ref oq]) (rest := []) hE hN F (c_L_nearest l hl0 dC dI cI cZ cY cL o qo hs fl h qx qy ql qs qc n t xs ys lf sy co h2 qx2 qy2 ql2 qs2 qc2 n2 t2 xs2 ys2 lf2 sy2 co2 oq lo (xs0 (nI i + 1).toNatClampNeg) (xs0 (nI i + 2).toNatClampNeg) H.size (by omega) (by omega)) (vx_cwSW 4 hts gL_law_L_nearest rfl rfl rfl hd_L_nearest.2 ⟨Nat.le_of_ble_eq_true rfl, Nat.le_of_ble_eq_true rfl⟩) hP hK hD hS hA rfl hl.1 rfl (lv_room (Nat.le_of_ble_eq_true rfl)) dL_law_878 ⟨show cells + 1 ≤ 601024 by omega, show slots + 6 ≤ 7293034 by omega⟩ (fun H locs hP hD hS => ?_)
  refine lv_istore (lv' := [(5, .int (x_k (x_place (xs0 (nI i + 1).toNatClampNeg) (xs0 (nI i + 2).toNatClampNeg)) xIAE xIAE)), (4, .int (nI i)), (0, .ref b), (1, .ref o), (2, .ref rh), (3, .ref oq)]) hx hb dL_law_881 hl (by decide) rfl (fun ls hl => ?_)
  refine lv_aload_n hx hb dL_law_883 rfl (lv_at hl 4 rfl) ?_
  refine lv_aload_n hx hb dL_law_884 rfl (lv_at hl 2 rfl) ?_
  refine lv_iload hx hb dL_law_885 (lv_at hl 1 rfl) ?_
  refine lv_iconst (v := 1) hx hb dL_law_887 (by decide) ?_
  refine lv_iadd hx hb dL_law_888 ?_
  refine va_sld hx hb hX hbl hbA hS (sc_in (j := 1) (by omega) hL) dL_law_889 ?_
  refine lv_aload_n hx hb dL_law_890 rfl (lv_at hl 2 rfl) ?_
  refine lv_iload hx hb dL_law_891 (lv_at hl 1 rfl) ?_
  refine lv_iconst (v := 2) hx hb dL_law_893 (by decide) ?_
  refine lv_iadd hx hb dL_law_894 ?_
  refine va_sld hx hb hX hbl hbA hS (sc_in (j := 2) (by omega) hL) dL_law_895 ?_
  refine lw_cR (C := RX2) (As := [.int (xs0 (nI i + 1).toNatClampNeg), .int (xs0 (nI i + 2).toNatClampNeg)]) (rest := []) F (c_X2_nearest l dC dI cI cZ cY rh rx ry rg rt rs rw th n xr yr hr t tb sg fl (xs0 (nI i + 1).toNatClampNeg) (xs0 (nI i + 2).toNatClampNeg) H.size (by omega) (by omega)) (cwV 2 hts gL_law_X2_nearest rfl rfl rfl hd_X2_nearest ⟨Nat.le_of_ble_eq_true rfl, Nat.le_of_ble_eq_true rfl⟩) hP hK hD hS hA (va_recv hK hP.comm.left (ci := 2) (q0 := 0) rfl rfl) rfl hl.1 rfl (lv_room (Nat.le_of_ble_eq_true rfl)) dL_law_896 ⟨show cells + 1 + 0 ≤ 601024 by omega, show slots + 6 + 0 ≤ 7293034 by omega⟩ (fun H locs hP hD hS => ?_)
  refine lv_topi (fun v6 ev6 => ?_)
  refine lv_istore (lv' := [(6, .int v6), (5, .int (x_k (x_place (xs0 (nI i + 1).toNatClampNeg) (xs0 (nI i + 2).toNatClampNeg)) xIAE xIAE)), (4, .int (nI i)), (0, .ref b), (1, .ref o), (2, .ref rh), (3, .ref oq)]) hx hb dL_law_899 hl (by decide) rfl (fun ls hl => ?_)
  refine lv_aload_n hx hb dL_law_901 rfl (lv_at hl 5 rfl) ?_
  refine lw_cT (C := RX2) (As := []) (rest := []) F (c_X2_thrown l dC dI cI cZ cY rh rx ry rg rt rs rw ((r_b1 (r_isPlace (xs0 (nI i + 1).toNatClampNeg) (xs0 (nI i + 2).toNatClampNeg)) 0 1)) n xr yr hr t tb sg fl) (cwV 0 hts gL_law_X2_thrown rfl rfl rfl hd_X2_thrown ⟨Nat.le_of_ble_eq_true rfl, Nat.le_of_ble_eq_true rfl⟩) hP hK (va_recv hK hP.comm.left (ci := 2) (q0 := 0) rfl rfl) rfl hl.1 rfl (lv_room (Nat.le_of_ble_eq_true rfl)) dL_law_902 ⟨show cells + 1 + 0 + 0 ≤ 601024 by omega, show slots + 6 + 0 + 0 ≤ 7293034 by omega⟩ ?_
  refine lv_iload hx hb dL_law_905 (lv_at hl 1 rfl) ?_
  refine lv_icmp_eq (tgt := 912) hx hb dL_law_907 (by decide) (fun _ => ?_) (fun q => absurd (op.1).symm q)
  refine lv_iload hx hb dL_law_912 (lv_at hl 1 rfl) ?_
  cases hok : (x_place (xs0 (nI i + 1).toNatClampNeg) (xs0 (nI i + 2).toNatClampNeg)) with
  | false =>
    rw [hok] at hP hD
    refine lv_if_ne (tgt := 929) hx hb dL_law_914 (by decide) (fun _ => ?_) (fun q => absurd (x_k_0 q) (by first | decide | (rw [hok]; decide)))
    refine lv_goto (tgt := 1204) hx hb dL_law_929 (by decide) ?_
    refine W.widen (k := cells + 24) (n := slots + 364) (by omega) (by omega) ?_
    exact kk _ _ _ _ _ _ _ _ _ _ _ _ _ _ _ _ _ _ _ _ _ _ _ _ _ _ _ _ _ (W_of hZ) hP hD hS (lv_sub hl [2, 3, 4, 5, 6] rfl)
  | true =>
    rw [hok] at hP hD
    have hk0 : (x_k (x_place (xs0 (nI i + 1).toNatClampNeg) (xs0 (nI i + 2).toNatClampNeg)) xIAE xIAE) = 0 := by rw [hok]; rfl
    refine lv_if_ne (tgt := 929) hx hb dL_law_914 (by decide) (fun q => absurd (by first | rfl | exact hk0) q) (fun _ => ?_)
    refine lv_aload_n hx hb dL_law_917 rfl (lv_at hl 6 rfl) ?_
    refine lv_iconst (v := 0) hx hb dL_law_918 (by decide) ?_
    refine va_lald (D := (dC, dI)) hx hb hK hP 14 3 rfl rfl (vp_in_nI (n := 0) (N := 1) (by decide) (by decide)) dL_law_919 ?_
    refine lv_iload hx hb dL_law_920 (lv_at hl 0 rfl) ?_
    refine lv_i2l hx hb dL_law_922 rfl ?_
    refine W.lcmp hx hb dL_law_923 ?_
    refine lv_if_eq (tgt := 929) hx hb dL_law_924 (by decide) (fun _ => ?_) (fun q => absurd (by rw [ev6, ← (op.2 hok)]; exact lg_cmp_self _) q)
    refine lv_goto (tgt := 1204) hx hb dL_law_929 (by decide) ?_
    refine W.widen (k := cells + 24) (n := slots + 364) (by omega) (by omega) ?_
    exact kk _ _ _ _ _ _ _ _ _ _ _ _ _ _ _ _ _ _ _ _ _ _ _ _ _ _ _ _ _ (W_of hZ) hP hD hS (lv_sub hl [2, 3, 4, 5, 6] rfl)
set_option maxHeartbeats 4000000 in
set_option maxRecDepth 100000 in
theorem lw_op_circles {p : Program} {l : Launch} {e : Env} {s : State} {m : MethodId} {below : List Frame} {meth : Method} {c : Code} {dC : Nat → ClassId} {dI : Nat → Nat → Nat} {cI cZ cY cL : ClassId} {b o qo h qx qy ql qs qc h2 qx2 qy2 ql2 qs2 qc2 oq rh rx ry rg rt rs : Nat} {rw : Nat → Nat} {L : Nat} {xs0 : Nat → Int32} {i cells slots : Nat} (hC : lw_C p l s m meth c dC dI cI cZ cY cL b L xs0) (hL : L ≤ 2048) (hi : i + 4 ≤ L) (hc : cells + 24 ≤ 601024) (hs9 : slots + 364 ≤ 7293034) (kk : lw_K p l e s m below meth c dC dI cI cZ cY cL b o qo h qx qy ql qs qc h2 qx2 qy2 ql2 qs2 qc2 oq rh rx ry rg rt rs rw i (cells + 24) (slots + 364) 1204) : lw_K p l e s m below meth c dC dI cI cZ cY cL b o qo h qx qy ql qs qc h2 qx2 qy2 ql2 qs2 qc2 oq rh rx ry rg rt rs rw i cells slots 932 := by
  obtain ⟨⟨hx, hb, hr0, hml, hown, hts0, hX, hbl, hlocks, hgv⟩, hl0, hE, hN, hk, hK⟩ := hC
  have hts : ∀ w ∈ wsL_law, w.before #[Value.ref b] s = true := fun w h => hts0 w (wsL_law_in w h)
  have hA : ∀ q : Nat, s.heap.size ≤ q → (fun q : Nat => s.heap.size ≤ q) q := fun _ h => h
  have hbA : ¬ (fun q : Nat => s.heap.size ≤ q) b := Nat.not_le.mpr hbl
  have F : CallFix p m c cL_law 9 s #[Value.ref b] wsL_law RL := ⟨hx, hb, hml, hown, hts⟩
  intro hs fl0 n0 t0 xs ys lf sy co n2 t2 xs2 ys2 lf2 sy2 co2 lo th n xr yr hr t tb sg fl H locs ls hW hP hD hS hl
  obtain ⟨e1, e2, e3, hZ⟩ := hW
  subst e1 e2 e3
  have hbd := Z_bd hZ
  have op := op_circles hZ (xs0 (nI i + 1).toNatClampNeg) (xs0 (nI i + 2).toNatClampNeg)
  refine lv_aload_n hx hb dL_law_932 rfl (lv_at hl 2 rfl) ?_
  refine lv_aload_n hx hb dL_law_933 rfl (lv_at hl 1 rfl) ?_
  refine lv_iload hx hb dL_law_934 (lv_at hl 0 rfl) ?_
  refine lv_iconst (v := 1) hx hb dL_law_936 (by decide) ?_
  refine lv_iadd hx hb dL_law_937 ?_
  refine va_sld hx hb hX hbl hbA hS (sc_in (j := 1) (by omega) hL) dL_law_938 ?_
  refine lv_aload_n hx hb dL_law_939 rfl (lv_at hl 1 rfl) ?_
  refine lv_iload hx hb dL_law_940 (lv_at hl 0 rfl) ?_
  refine lv_iconst (v := 2) hx hb dL_law_942 (by decide) ?_
  refine lv_iadd hx hb dL_law_943 ?_
  refine va_sld hx hb hX hbl hbA hS (sc_in (j := 2) (by omega) hL) dL_law_944 ?_
  refine lv_aload_n hx hb dL_law_945 rfl (lv_at hl 4 rfl) ?_
  refine lw_cS (As := [.ref o, .int (xs0 (nI i + 1).toNatClampNeg), .int (xs0 (nI i + 2).toNatClampNeg), .ref oq]) (rest := []) hE hN F (c_L_circles l hl0 dC dI cI cZ cY cL o qo hs fl h qx qy ql qs qc n t xs ys lf sy co h2 qx2 qy2 ql2 qs2 qc2 n2 t2 xs2 ys2 lf2 sy2 co2 oq lo (xs0 (nI i + 1).toNatClampNeg) (xs0 (nI i + 2).toNatClampNeg) H.size (by omega)) (vx_cwSW 4 hts gL_law_L_circles rfl rfl rfl hd_L_circles.2 ⟨Nat.le_of_ble_eq_true rfl, Nat.le_of_ble_eq_true rfl⟩) hP hK hD hS hA rfl hl.1 rfl (lv_room (Nat.le_of_ble_eq_true rfl)) dL_law_946 ⟨show cells + 1 ≤ 601024 by omega, show slots + 6 ≤ 7293034 by omega⟩ (fun H locs hP hD hS => ?_)
  refine lv_istore (lv' := [(5, .int (x_k (x_place (xs0 (nI i + 1).toNatClampNeg) (xs0 (nI i + 2).toNatClampNeg)) xIAE xIAE)), (4, .int (nI i)), (0, .ref b), (1, .ref o), (2, .ref rh), (3, .ref oq)]) hx hb dL_law_949 hl (by decide) rfl (fun ls hl => ?_)
  refine lv_aload_n hx hb dL_law_951 rfl (lv_at hl 4 rfl) ?_
  refine lv_aload_n hx hb dL_law_952 rfl (lv_at hl 2 rfl) ?_
  refine lv_iload hx hb dL_law_953 (lv_at hl 1 rfl) ?_
  refine lv_iconst (v := 1) hx hb dL_law_955 (by decide) ?_
  refine lv_iadd hx hb dL_law_956 ?_
  refine va_sld hx hb hX hbl hbA hS (sc_in (j := 1) (by omega) hL) dL_law_957 ?_
  refine lv_aload_n hx hb dL_law_958 rfl (lv_at hl 2 rfl) ?_
  refine lv_iload hx hb dL_law_959 (lv_at hl 1 rfl) ?_
  refine lv_iconst (v := 2) hx hb dL_law_961 (by decide) ?_
  refine lv_iadd hx hb dL_law_962 ?_
  refine va_sld hx hb hX hbl hbA hS (sc_in (j := 2) (by omega) hL) dL_law_963 ?_
  refine lw_cR (C := RX2) (As := [.int (xs0 (nI i + 1).toNatClampNeg), .int (xs0 (nI i + 2).toNatClampNeg)]) (rest := []) F (c_X2_circles l dC dI cI cZ cY rh rx ry rg rt rs rw th n xr yr hr t tb sg fl (xs0 (nI i + 1).toNatClampNeg) (xs0 (nI i + 2).toNatClampNeg) H.size (by omega) (Z_okT hZ)) (cwV 2 hts gL_law_X2_circles rfl rfl rfl hd_X2_circles ⟨Nat.le_of_ble_eq_true rfl, Nat.le_of_ble_eq_true rfl⟩) hP hK hD hS hA (va_recv hK hP.comm.left (ci := 2) (q0 := 0) rfl rfl) rfl hl.1 rfl (lv_room (Nat.le_of_ble_eq_true rfl)) dL_law_964 ⟨show cells + 1 + 0 ≤ 601024 by omega, show slots + 6 + 0 ≤ 7293034 by omega⟩ (fun H locs hP hD hS => ?_)
  refine lv_topi (fun v6 ev6 => ?_)
  refine lv_istore (lv' := [(6, .int v6), (5, .int (x_k (x_place (xs0 (nI i + 1).toNatClampNeg) (xs0 (nI i + 2).toNatClampNeg)) xIAE xIAE)), (4, .int (nI i)), (0, .ref b), (1, .ref o), (2, .ref rh), (3, .ref oq)]) hx hb dL_law_967 hl (by decide) rfl (fun ls hl => ?_)
  refine lv_aload_n hx hb dL_law_969 rfl (lv_at hl 5 rfl) ?_
  refine lw_cT (C := RX2) (As := []) (rest := []) F (c_X2_thrown l dC dI cI cZ cY rh rx ry rg rt rs rw ((r_b1 (r_isPlace (xs0 (nI i + 1).toNatClampNeg) (xs0 (nI i + 2).toNatClampNeg)) 0 1)) n xr yr hr t tb sg fl) (cwV 0 hts gL_law_X2_thrown rfl rfl rfl hd_X2_thrown ⟨Nat.le_of_ble_eq_true rfl, Nat.le_of_ble_eq_true rfl⟩) hP hK (va_recv hK hP.comm.left (ci := 2) (q0 := 0) rfl rfl) rfl hl.1 rfl (lv_room (Nat.le_of_ble_eq_true rfl)) dL_law_970 ⟨show cells + 1 + 0 + 0 ≤ 601024 by omega, show slots + 6 + 0 + 0 ≤ 7293034 by omega⟩ ?_
  refine lv_iload hx hb dL_law_973 (lv_at hl 1 rfl) ?_
  refine lv_icmp_eq (tgt := 980) hx hb dL_law_975 (by decide) (fun _ => ?_) (fun q => absurd (op.1).symm q)
  refine lv_iload hx hb dL_law_980 (lv_at hl 1 rfl) ?_
  cases hok : (x_place (xs0 (nI i + 1).toNatClampNeg) (xs0 (nI i + 2).toNatClampNeg)) with
  | false =>
    rw [hok] at hP hD
    refine lv_if_ne (tgt := 997) hx hb dL_law_982 (by decide) (fun _ => ?_) (fun q => absurd (x_k_0 q) (by first | decide | (rw [hok]; decide)))
    refine lv_goto (tgt := 1204) hx hb dL_law_997 (by decide) ?_
    refine W.widen (k := cells + 24) (n := slots + 364) (by omega) (by omega) ?_
    exact kk _ _ _ _ _ _ _ _ _ _ _ _ _ _ _ _ _ _ _ _ _ _ _ _ _ _ _ _ _ (W_of hZ) hP hD hS (lv_sub hl [2, 3, 4, 5, 6] rfl)
  | true =>
    rw [hok] at hP hD
    have hk0 : (x_k (x_place (xs0 (nI i + 1).toNatClampNeg) (xs0 (nI i + 2).toNatClampNeg)) xIAE xIAE) = 0 := by rw [hok]; rfl
    refine lv_if_ne (tgt := 997) hx hb dL_law_982 (by decide) (fun q => absurd (by first | rfl | exact hk0) q) (fun _ => ?_)
    refine lv_aload_n hx hb dL_law_985 rfl (lv_at hl 6 rfl) ?_
    refine lv_iconst (v := 0) hx hb dL_law_986 (by decide) ?_
    refine va_lald (D := (dC, dI)) hx hb hK hP 14 3 rfl rfl (vp_in_nI (n := 0) (N := 1) (by decide) (by decide)) dL_law_987 ?_
    refine lv_iload hx hb dL_law_988 (lv_at hl 0 rfl) ?_
    refine lv_i2l hx hb dL_law_990 rfl ?_
    refine W.lcmp hx hb dL_law_991 ?_
    refine lv_if_eq (tgt := 997) hx hb dL_law_992 (by decide) (fun _ => ?_) (fun q => absurd (by rw [ev6, ← (op.2 hok)]; exact lg_cmp_self _) q)
    refine lv_goto (tgt := 1204) hx hb dL_law_997 (by decide) ?_
    refine W.widen (k := cells + 24) (n := slots + 364) (by omega) (by omega) ?_
    exact kk _ _ _ _ _ _ _ _ _ _ _ _ _ _ _ _ _ _ _ _ _ _ _ _ _ _ _ _ _ (W_of hZ) hP hD hS (lv_sub hl [2, 3, 4, 5, 6] rfl)
set_option maxHeartbeats 4000000 in
set_option maxRecDepth 100000 in
theorem lw_op_way {p : Program} {l : Launch} {e : Env} {s : State} {m : MethodId} {below : List Frame} {meth : Method} {c : Code} {dC : Nat → ClassId} {dI : Nat → Nat → Nat} {cI cZ cY cL : ClassId} {b o qo h qx qy ql qs qc h2 qx2 qy2 ql2 qs2 qc2 oq rh rx ry rg rt rs : Nat} {rw : Nat → Nat} {L : Nat} {xs0 : Nat → Int32} {i cells slots : Nat} (hC : lw_C p l s m meth c dC dI cI cZ cY cL b L xs0) (hL : L ≤ 2048) (hi : i + 4 ≤ L) (hc : cells + 24 ≤ 601024) (hs9 : slots + 364 ≤ 7293034) (kk : lw_K p l e s m below meth c dC dI cI cZ cY cL b o qo h qx qy ql qs qc h2 qx2 qy2 ql2 qs2 qc2 oq rh rx ry rg rt rs rw i (cells + 24) (slots + 364) 1204) : lw_K p l e s m below meth c dC dI cI cZ cY cL b o qo h qx qy ql qs qc h2 qx2 qy2 ql2 qs2 qc2 oq rh rx ry rg rt rs rw i cells slots 1000 := by
  obtain ⟨⟨hx, hb, hr0, hml, hown, hts0, hX, hbl, hlocks, hgv⟩, hl0, hE, hN, hk, hK⟩ := hC
  have hts : ∀ w ∈ wsL_law, w.before #[Value.ref b] s = true := fun w h => hts0 w (wsL_law_in w h)
  have hA : ∀ q : Nat, s.heap.size ≤ q → (fun q : Nat => s.heap.size ≤ q) q := fun _ h => h
  have hbA : ¬ (fun q : Nat => s.heap.size ≤ q) b := Nat.not_le.mpr hbl
  have F : CallFix p m c cL_law 9 s #[Value.ref b] wsL_law RL := ⟨hx, hb, hml, hown, hts⟩
  intro hs fl0 n0 t0 xs ys lf sy co n2 t2 xs2 ys2 lf2 sy2 co2 lo th n xr yr hr t tb sg fl H locs ls hW hP hD hS hl
  obtain ⟨e1, e2, e3, hZ⟩ := hW
  subst e1 e2 e3
  have hbd := Z_bd hZ
  obtain ⟨KK, op⟩ := op_way hZ (xs0 (nI i + 1).toNatClampNeg) (xs0 (nI i + 2).toNatClampNeg)
  refine lv_aload_n hx hb dL_law_1000 rfl (lv_at hl 2 rfl) ?_
  refine lv_aload_n hx hb dL_law_1001 rfl (lv_at hl 1 rfl) ?_
  refine lv_iload hx hb dL_law_1002 (lv_at hl 0 rfl) ?_
  refine lv_iconst (v := 1) hx hb dL_law_1004 (by decide) ?_
  refine lv_iadd hx hb dL_law_1005 ?_
  refine va_sld hx hb hX hbl hbA hS (sc_in (j := 1) (by omega) hL) dL_law_1006 ?_
  refine lv_aload_n hx hb dL_law_1007 rfl (lv_at hl 1 rfl) ?_
  refine lv_iload hx hb dL_law_1008 (lv_at hl 0 rfl) ?_
  refine lv_iconst (v := 2) hx hb dL_law_1010 (by decide) ?_
  refine lv_iadd hx hb dL_law_1011 ?_
  refine va_sld hx hb hX hbl hbA hS (sc_in (j := 2) (by omega) hL) dL_law_1012 ?_
  refine lv_aload_n hx hb dL_law_1013 rfl (lv_at hl 4 rfl) ?_
  refine lw_cS (As := [.ref o, .int (xs0 (nI i + 1).toNatClampNeg), .int (xs0 (nI i + 2).toNatClampNeg), .ref oq]) (rest := []) hE hN F (c_L_way l hl0 dC dI cI cZ cY cL o qo hs fl h qx qy ql qs qc n t xs ys lf sy co h2 qx2 qy2 ql2 qs2 qc2 n2 t2 xs2 ys2 lf2 sy2 co2 oq lo (xs0 (nI i + 1).toNatClampNeg) (xs0 (nI i + 2).toNatClampNeg) H.size (by omega)) (vx_cwSW 4 hts gL_law_L_way rfl rfl rfl hd_L_way.2 ⟨Nat.le_of_ble_eq_true rfl, Nat.le_of_ble_eq_true rfl⟩) hP hK hD hS hA rfl hl.1 rfl (lv_room (Nat.le_of_ble_eq_true rfl)) dL_law_1014 ⟨show cells + 2 ≤ 601024 by omega, show slots + 12 ≤ 7293034 by omega⟩ (fun H locs hP hD hS => ?_)
  refine lv_istore (lv' := [(5, .int (x_k (x_okWy n (xs0 (nI i + 1).toNatClampNeg) (xs0 (nI i + 2).toNatClampNeg)) xIOB xIOB)), (4, .int (nI i)), (0, .ref b), (1, .ref o), (2, .ref rh), (3, .ref oq)]) hx hb dL_law_1017 hl (by decide) rfl (fun ls hl => ?_)
  refine lv_aload_n hx hb dL_law_1019 rfl (lv_at hl 4 rfl) ?_
  refine lv_aload_n hx hb dL_law_1020 rfl (lv_at hl 2 rfl) ?_
  refine lv_iload hx hb dL_law_1021 (lv_at hl 1 rfl) ?_
  refine lv_iconst (v := 1) hx hb dL_law_1023 (by decide) ?_
  refine lv_iadd hx hb dL_law_1024 ?_
  refine va_sld hx hb hX hbl hbA hS (sc_in (j := 1) (by omega) hL) dL_law_1025 ?_
  refine lv_aload_n hx hb dL_law_1026 rfl (lv_at hl 2 rfl) ?_
  refine lv_iload hx hb dL_law_1027 (lv_at hl 1 rfl) ?_
  refine lv_iconst (v := 2) hx hb dL_law_1029 (by decide) ?_
  refine lv_iadd hx hb dL_law_1030 ?_
  refine va_sld hx hb hX hbl hbA hS (sc_in (j := 2) (by omega) hL) dL_law_1031 ?_
  refine lw_cR (C := RX2) (As := [.int (xs0 (nI i + 1).toNatClampNeg), .int (xs0 (nI i + 2).toNatClampNeg)]) (rest := []) F (c_X2_way l dC dI cI cZ cY rh rx ry rg rt rs rw th n xr yr hr t tb sg fl (xs0 (nI i + 1).toNatClampNeg) (xs0 (nI i + 2).toNatClampNeg) H.size KK (by omega) (by omega) (by omega) op.1) (cwV 2 hts gL_law_X2_way rfl rfl rfl hd_X2_way ⟨Nat.le_of_ble_eq_true rfl, Nat.le_of_ble_eq_true rfl⟩) hP hK hD hS hA (va_recv hK hP.comm.left (ci := 2) (q0 := 0) rfl rfl) rfl hl.1 rfl (lv_room (Nat.le_of_ble_eq_true rfl)) dL_law_1032 ⟨show cells + 2 + 1 ≤ 601024 by omega, show slots + 12 + 16 ≤ 7293034 by omega⟩ (fun H locs hP hD hS => ?_)
  refine lv_topi (fun v6 ev6 => ?_)
  refine lv_istore (lv' := [(6, .int v6), (5, .int (x_k (x_okWy n (xs0 (nI i + 1).toNatClampNeg) (xs0 (nI i + 2).toNatClampNeg)) xIOB xIOB)), (4, .int (nI i)), (0, .ref b), (1, .ref o), (2, .ref rh), (3, .ref oq)]) hx hb dL_law_1035 hl (by decide) rfl (fun ls hl => ?_)
  refine lv_aload_n hx hb dL_law_1037 rfl (lv_at hl 5 rfl) ?_
  refine lw_cT (C := RX2) (As := []) (rest := []) F (c_X2_thrown l dC dI cI cZ cY rh rx ry rg rt rs rw ((r_b2 (r_isIn (xs0 (nI i + 1).toNatClampNeg) 0 (nI n - 1)) (r_isIn (xs0 (nI i + 2).toNatClampNeg) 0 (nI n - 1)) 0 1)) n xr yr hr t tb sg fl) (cwV 0 hts gL_law_X2_thrown rfl rfl rfl hd_X2_thrown ⟨Nat.le_of_ble_eq_true rfl, Nat.le_of_ble_eq_true rfl⟩) hP hK (va_recv hK hP.comm.left (ci := 2) (q0 := 0) rfl rfl) rfl hl.1 rfl (lv_room (Nat.le_of_ble_eq_true rfl)) dL_law_1038 ⟨show cells + 2 + 1 + 0 ≤ 601024 by omega, show slots + 12 + 16 + 0 ≤ 7293034 by omega⟩ ?_
  refine lv_iload hx hb dL_law_1041 (lv_at hl 1 rfl) ?_
  refine lv_icmp_eq (tgt := 1048) hx hb dL_law_1043 (by decide) (fun _ => ?_) (fun q => absurd (op.2.1).symm q)
  refine lv_iload hx hb dL_law_1048 (lv_at hl 1 rfl) ?_
  cases hok : (x_okWy n (xs0 (nI i + 1).toNatClampNeg) (xs0 (nI i + 2).toNatClampNeg)) with
  | false =>
    rw [hok] at hP hD
    refine lv_if_ne (tgt := 1065) hx hb dL_law_1050 (by decide) (fun _ => ?_) (fun q => absurd (x_k_0 q) (by first | decide | (rw [hok]; decide)))
    refine lv_goto (tgt := 1204) hx hb dL_law_1065 (by decide) ?_
    refine W.widen (k := cells + 24) (n := slots + 364) (by omega) (by omega) ?_
    exact kk _ _ _ _ _ _ _ _ _ _ _ _ _ _ _ _ _ _ _ _ _ _ _ _ _ _ _ _ _ (W_of hZ) hP hD hS (lv_sub hl [2, 3, 4, 5, 6] rfl)
  | true =>
    rw [hok] at hP hD
    have hk0 : (x_k (x_okWy n (xs0 (nI i + 1).toNatClampNeg) (xs0 (nI i + 2).toNatClampNeg)) xIOB xIOB) = 0 := by rw [hok]; rfl
    refine lv_if_ne (tgt := 1065) hx hb dL_law_1050 (by decide) (fun q => absurd (by first | rfl | exact hk0) q) (fun _ => ?_)
    refine lv_aload_n hx hb dL_law_1053 rfl (lv_at hl 6 rfl) ?_
    refine lv_iconst (v := 0) hx hb dL_law_1054 (by decide) ?_
    refine va_lald (D := (dC, dI)) hx hb hK hP 14 3 rfl rfl (vp_in_nI (n := 0) (N := 1) (by decide) (by decide)) dL_law_1055 ?_
    refine lv_iload hx hb dL_law_1056 (lv_at hl 0 rfl) ?_
    refine lv_i2l hx hb dL_law_1058 rfl ?_
    refine W.lcmp hx hb dL_law_1059 ?_
    refine lv_if_eq (tgt := 1065) hx hb dL_law_1060 (by decide) (fun _ => ?_) (fun q => absurd (by rw [ev6, ← (op.2.2 hok)]; exact lg_cmp_self _) q)
    refine lv_goto (tgt := 1204) hx hb dL_law_1065 (by decide) ?_
    refine W.widen (k := cells + 24) (n := slots + 364) (by omega) (by omega) ?_
    exact kk _ _ _ _ _ _ _ _ _ _ _ _ _ _ _ _ _ _ _ _ _ _ _ _ _ _ _ _ _ (W_of hZ) hP hD hS (lv_sub hl [2, 3, 4, 5, 6] rfl)
