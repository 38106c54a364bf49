/-! the law's loop (gen_loop.py) -/
set_option maxHeartbeats 4000000 in
set_option maxRecDepth 100000 in
theorem lw_loop {p : Program} {l : Launch} {e : Env} {s : State} {m : MethodId} {below : List Frame} {meth : Method} {c : Code} {dC : Nat → ClassId} {dI : Nat → Nat → Nat} {cI cZ cY cL : ClassId} {b o qo h qx qy ql qs qc h2 qx2 qy2 ql2 qs2 qc2 oq rh rx ry rg rt rs : Nat} {rw : Nat → Nat} {L : Nat} {xs0 : Nat → Int32} (hC : lw_C p l s m meth c dC dI cI cZ cY cL b L xs0) (hL : L ≤ 2048) : ∀ (k i : Nat), L + 4 ≤ i + k → i ≤ L + 3 → lw_K p l e s m below meth c dC dI cI cZ cY cL b o qo h qx qy ql qs qc h2 qx2 qy2 ql2 qs2 qc2 oq rh rx ry rg rt rs rw i (38 + 6 * i) (1829 + 91 * i) 23
  | 0, i, g1, g2 => absurd g1 (by omega)
  | k + 1, i, g1, g2 => by
    obtain ⟨⟨hx, hb, hr0, hml, hown, hts0, hX, hbl, hlocks, hgv⟩, hl0, hE, hN, hk, hK⟩ := id hC
    have hA : ∀ q : Nat, s.heap.size ≤ q → (fun q : Nat => s.heap.size ≤ q) q := fun _ h => h
    have hbA : ¬ (fun q : Nat => s.heap.size ≤ q) b := Nat.not_le.mpr hbl
    intro hs fl n t xs ys lf sy co n2 t2 xs2 ys2 lf2 sy2 co2 lo th n9 xr yr hr t9 tb sg fl9 H locs ls hW hP hD hS hl
    refine lv_iload hx hb dL_law_23 (lv_at hl 0 rfl) ?_
    refine lv_aload_n hx hb dL_law_25 rfl (lv_at hl 1 rfl) ?_
    refine va_slen hx hb hX hbl hbA hS dL_law_26 ?_
    refine lv_iconst (v := 4) hx hb dL_law_27 (by decide) ?_
    refine lv_isub hx hb dL_law_28 ?_
    refine lv_icmp_gt (tgt := 1210) hx hb dL_law_29 (by decide) (fun _ => ?_) (fun hlt => ?_)
    · refine lv_iconst (v := 1) hx hb dL_law_1210 (by decide) ?_
      refine va_forget (fun q hq => hS.2.2 q hq) ?_
      refine W.widen (k := 601024) (n := 7293034) (by omega) (by omega) ?_
      refine W.base ?_
      exact lw_ret (Drawn.sameBut.refl s.drawn lw_cs) hx hb hr0 hlocks dL_law_1211
    · have hi : i + 4 ≤ L := by
        have hlt' : ¬ nI L - nI 4 < nI i := hlt
        rw [Int32.lt_iff_toInt_lt, pk_sub_toInt (by omega) (by omega), nI_toInt (by omega)] at hlt'
        omega
      have kk : lw_K p l e s m below meth c dC dI cI cZ cY cL b o qo h qx qy ql qs qc h2 qx2 qy2 ql2 qs2 qc2 oq rh rx ry rg rt rs rw i (38 + 6 * i + 24) (1829 + 91 * i + 364) 1204 := by
        have e1 : 38 + 6 * i + 24 = 38 + 6 * (i + 4) := by omega
        have e2 : 1829 + 91 * i + 364 = 1829 + 91 * (i + 4) := by omega
        rw [e1, e2]
        intro hs fl n t xs ys lf sy co n2 t2 xs2 ys2 lf2 sy2 co2 lo th n9 xr yr hr t9 tb sg fl9 H locs ls hW hP hD hS hl
        refine lv_iinc (v := nI (i + 4)) (lv' := [(4, .int (nI (i + 4))), (0, .ref b), (1, .ref o), (2, .ref rh), (3, .ref oq)]) hx hb dL_law_1204 hl (k := 0) rfl (nI_add i 4) (by decide) rfl (fun ls hl => ?_)
        refine lv_goto (tgt := 23) hx hb dL_law_1207 (by decide) ?_
        exact lw_loop hC hL k (i + 4) (by omega) (by omega) _ _ _ _ _ _ _ _ _ _ _ _ _ _ _ _ _ _ _ _ _ _ _ _ _ _ _ _ _ hW hP hD hS hl
      have hc : 38 + 6 * i + 24 ≤ 601024 := by omega
      have hs9 : 1829 + 91 * i + 364 ≤ 7293034 := by omega
      refine lv_aload_n hx hb dL_law_32 rfl (lv_at hl 1 rfl) ?_
      refine lv_iload hx hb dL_law_33 (lv_at hl 0 rfl) ?_
      refine va_sld hx hb hX hbl hbA hS (vp_in_nI (n := i) (N := L) (by omega) (by omega)) dL_law_35 ?_
      refine lv_bipush (v := 31) hx hb dL_law_36 (by decide) ?_
      refine lv_iand hx hb dL_law_38 ?_
      obtain ⟨j, hj, ej⟩ := pk_andE (xs0 (nI i).toNatClampNeg) (m := 31) 5 (by decide)
      rw [ej]
      have hj18 : j = 0 ∨ j = 1 ∨ j = 2 ∨ j = 3 ∨ j = 4 ∨ j = 5 ∨ j = 6 ∨ j = 7 ∨ j = 8 ∨ j = 9 ∨ j = 10 ∨ j = 11 ∨ j = 12 ∨ j = 13 ∨ j = 14 ∨ j = 15 ∨ j = 16 ∨ j = 17 ∨ 18 ≤ j := by omega
      rcases hj18 with rfl | rfl | rfl | rfl | rfl | rfl | rfl | rfl | rfl | rfl | rfl | rfl | rfl | rfl | rfl | rfl | rfl | rfl | h18
      · refine lv_tsw (k := nI 0) (off := 85) (tgt := 124) hx hb dL_law_39 rfl (by decide +kernel) (by decide +kernel) (by decide +kernel) (by decide) ?_
        exact lw_op_build hC hL hi hc hs9 kk _ _ _ _ _ _ _ _ _ _ _ _ _ _ _ _ _ _ _ _ _ _ _ _ _ _ _ _ _ hW hP hD hS hl
      · refine lv_tsw (k := nI 1) (off := 165) (tgt := 204) hx hb dL_law_39 rfl (by decide +kernel) (by decide +kernel) (by decide +kernel) (by decide) ?_
        exact lw_op_raise hC hL hi hc hs9 kk _ _ _ _ _ _ _ _ _ _ _ _ _ _ _ _ _ _ _ _ _ _ _ _ _ _ _ _ _ hW hP hD hS hl
      · refine lv_tsw (k := nI 2) (off := 233) (tgt := 272) hx hb dL_law_39 rfl (by decide +kernel) (by decide +kernel) (by decide +kernel) (by decide) ?_
        exact lw_op_fix hC hL hi hc hs9 kk _ _ _ _ _ _ _ _ _ _ _ _ _ _ _ _ _ _ _ _ _ _ _ _ _ _ _ _ _ hW hP hD hS hl
      · refine lv_tsw (k := nI 3) (off := 336) (tgt := 375) hx hb dL_law_39 rfl (by decide +kernel) (by decide +kernel) (by decide +kernel) (by decide) ?_
        exact lw_op_flip hC hL hi hc hs9 kk _ _ _ _ _ _ _ _ _ _ _ _ _ _ _ _ _ _ _ _ _ _ _ _ _ _ _ _ _ hW hP hD hS hl
      · refine lv_tsw (k := nI 4) (off := 404) (tgt := 443) hx hb dL_law_39 rfl (by decide +kernel) (by decide +kernel) (by decide +kernel) (by decide) ?_
        exact lw_op_settle hC hL hi hc hs9 kk _ _ _ _ _ _ _ _ _ _ _ _ _ _ _ _ _ _ _ _ _ _ _ _ _ _ _ _ _ hW hP hD hS hl
      · refine lv_tsw (k := nI 5) (off := 417) (tgt := 456) hx hb dL_law_39 rfl (by decide +kernel) (by decide +kernel) (by decide +kernel) (by decide) ?_
        exact lw_op_told hC hL hi hc hs9 kk _ _ _ _ _ _ _ _ _ _ _ _ _ _ _ _ _ _ _ _ _ _ _ _ _ _ _ _ _ hW hP hD hS hl
      · refine lv_tsw (k := nI 6) (off := 485) (tgt := 524) hx hb dL_law_39 rfl (by decide +kernel) (by decide +kernel) (by decide +kernel) (by decide) ?_
        exact lw_op_triangle hC hL hi hc hs9 kk _ _ _ _ _ _ _ _ _ _ _ _ _ _ _ _ _ _ _ _ _ _ _ _ _ _ _ _ _ hW hP hD hS hl
      · refine lv_tsw (k := nI 7) (off := 553) (tgt := 592) hx hb dL_law_39 rfl (by decide +kernel) (by decide +kernel) (by decide +kernel) (by decide) ?_
        exact lw_op_edge hC hL hi hc hs9 kk _ _ _ _ _ _ _ _ _ _ _ _ _ _ _ _ _ _ _ _ _ _ _ _ _ _ _ _ _ hW hP hD hS hl
      · refine lv_tsw (k := nI 8) (off := 633) (tgt := 672) hx hb dL_law_39 rfl (by decide +kernel) (by decide +kernel) (by decide +kernel) (by decide) ?_
        exact lw_op_count hC hL hi hc hs9 kk _ _ _ _ _ _ _ _ _ _ _ _ _ _ _ _ _ _ _ _ _ _ _ _ _ _ _ _ _ hW hP hD hS hl
      · refine lv_tsw (k := nI 9) (off := 689) (tgt := 728) hx hb dL_law_39 rfl (by decide +kernel) (by decide +kernel) (by decide +kernel) (by decide) ?_
        exact lw_op_at hC hL hi hc hs9 kk _ _ _ _ _ _ _ _ _ _ _ _ _ _ _ _ _ _ _ _ _ _ _ _ _ _ _ _ _ hW hP hD hS hl
      · refine lv_tsw (k := nI 10) (off := 757) (tgt := 796) hx hb dL_law_39 rfl (by decide +kernel) (by decide +kernel) (by decide +kernel) (by decide) ?_
        exact lw_op_height hC hL hi hc hs9 kk _ _ _ _ _ _ _ _ _ _ _ _ _ _ _ _ _ _ _ _ _ _ _ _ _ _ _ _ _ hW hP hD hS hl
      · refine lv_tsw (k := nI 11) (off := 825) (tgt := 864) hx hb dL_law_39 rfl (by decide +kernel) (by decide +kernel) (by decide +kernel) (by decide) ?_
        exact lw_op_nearest hC hL hi hc hs9 kk _ _ _ _ _ _ _ _ _ _ _ _ _ _ _ _ _ _ _ _ _ _ _ _ _ _ _ _ _ hW hP hD hS hl
      · refine lv_tsw (k := nI 12) (off := 893) (tgt := 932) hx hb dL_law_39 rfl (by decide +kernel) (by decide +kernel) (by decide +kernel) (by decide) ?_
        exact lw_op_circles hC hL hi hc hs9 kk _ _ _ _ _ _ _ _ _ _ _ _ _ _ _ _ _ _ _ _ _ _ _ _ _ _ _ _ _ hW hP hD hS hl
      · refine lv_tsw (k := nI 13) (off := 961) (tgt := 1000) hx hb dL_law_39 rfl (by decide +kernel) (by decide +kernel) (by decide +kernel) (by decide) ?_
        exact lw_op_way hC hL hi hc hs9 kk _ _ _ _ _ _ _ _ _ _ _ _ _ _ _ _ _ _ _ _ _ _ _ _ _ _ _ _ _ hW hP hD hS hl
      · refine lv_tsw (k := nI 14) (off := 1029) (tgt := 1068) hx hb dL_law_39 rfl (by decide +kernel) (by decide +kernel) (by decide +kernel) (by decide) ?_
        exact lw_op_settles hC hL hi hc hs9 kk _ _ _ _ _ _ _ _ _ _ _ _ _ _ _ _ _ _ _ _ _ _ _ _ _ _ _ _ _ hW hP hD hS hl
      · refine lv_tsw (k := nI 15) (off := 1042) (tgt := 1081) hx hb dL_law_39 rfl (by decide +kernel) (by decide +kernel) (by decide +kernel) (by decide) ?_
        exact lw_op_would hC hL hi hc hs9 kk _ _ _ _ _ _ _ _ _ _ _ _ _ _ _ _ _ _ _ _ _ _ _ _ _ _ _ _ _ hW hP hD hS hl
      · refine lv_tsw (k := nI 16) (off := 1110) (tgt := 1149) hx hb dL_law_39 rfl (by decide +kernel) (by decide +kernel) (by decide +kernel) (by decide) ?_
        exact lw_op_mean hC hL hi hc hs9 kk _ _ _ _ _ _ _ _ _ _ _ _ _ _ _ _ _ _ _ _ _ _ _ _ _ _ _ _ _ hW hP hD hS hl
      · refine lv_tsw (k := nI 17) (off := 1151) (tgt := 1190) hx hb dL_law_39 rfl (by decide +kernel) (by decide +kernel) (by decide +kernel) (by decide) ?_
        exact lw_op_digest hC hL hi hc hs9 kk _ _ _ _ _ _ _ _ _ _ _ _ _ _ _ _ _ _ _ _ _ _ _ _ _ _ _ _ _ hW hP hD hS hl
      · refine lv_tableOut (tgt := 1204) hx hb dL_law_39 (Or.inr (by rw [nI_toInt (by omega)]; omega)) (by decide) ?_
        refine W.widen (k := 38 + 6 * i + 24) (n := 1829 + 91 * i + 364) (by omega) (by omega) ?_
        exact kk _ _ _ _ _ _ _ _ _ _ _ _ _ _ _ _ _ _ _ _ _ _ _ _ _ _ _ _ _ hW hP hD hS hl
