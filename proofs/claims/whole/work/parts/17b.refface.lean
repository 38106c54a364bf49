theorem in_X2_digest_X2 : ∀ w ∈ wsX20, w ∈ wsX2_digest := by decide +kernel
theorem fl_X2_digest_35 : (Cond.fieldLink RX2 35 "MoorTrianglesModel" "thrown" "I") ∈ wsX2_digest := by decide +kernel
theorem lc189_X2_digest : (Cond.constantLong RX2 189 1433) ∈ wsX2_digest := by decide +kernel
theorem fl_X2_digest_7 : (Cond.fieldLink RX2 7 "MoorTrianglesModel" "cairns" "I") ∈ wsX2_digest := by decide +kernel
theorem fl_X2_digest_55 : (Cond.fieldLink RX2 55 "MoorTrianglesModel" "triangles" "I") ∈ wsX2_digest := by decide +kernel
theorem lc191_X2_digest : (Cond.constantLong RX2 191 31) ∈ wsX2_digest := by decide +kernel
set_option maxHeartbeats 4000000 in
set_option maxRecDepth 100000 in
theorem c_X2_digest (l : Launch) (dC : Nat → ClassId) (dI : Nat → Nat → Nat) (cI cZ cY : ClassId) (h qx qy qh qt qs : Nat) (rw : Nat → Nat) (th : Int32) (n : Nat) (xs ys hs : Nat → Int32) (t : Nat) (tb : Nat → Int32) (sg : Nat → Nat → Int32) (fl : Int32) (sz : Nat) (ht : t ≤ 36) (hn : n ≤ 17) (hok : r_okT t tb) (hFF : ∀ a b, a < n → b < n → r_okF t tb (nI a) (nI b)) : Met l yX2_digest wsX2_digest ({ frames := 8, cells := 0, slots := 0, locals := 188 }) (va_Pc [.ref h] (wrP (dC, dI) (gTY cI cZ cY) (wR cI cZ cY h qx qy qh qt qs rw th n xs ys hs t tb sg fl) sz)) (wrQl (dC, dI) (gTY cI cZ cY) (r_digest n t xs ys hs tb sg fl) (wR cI cZ cY h qx qy qh qt qs rw 0 n xs ys hs t tb sg fl) (va_A (wR cI cZ cY h qx qy qh qt qs rw th n xs ys hs t tb sg fl) sz)) 0 0 (va_A (wR cI cZ cY h qx qy qh qt qs rw th n xs ys hs t tb sg fl) sz) := by
  refine wr_start (cc := cX2_digest) (maxL := 6) (ret := (some .long)) (Q0 := wrQl (dC, dI) (gTY cI cZ cY) (r_digest n t xs ys hs tb sg fl) (wR cI cZ cY h qx qy qh qt qs rw 0 n xs ys hs t tb sg fl)) RX2 (by decide) rfl rfl (Nat.le_of_ble_eq_true rfl) ?_
  intro p e s m below meth c ⟨hx, hb, hr, hml, hown, hts, hlocks, hin⟩ hP hK A hD hA hS ls hl
  have F : CallFix p m c cX2_digest 6 s ([.ref h] : List Value).toArray wsX2_digest RX2 := ⟨hx, hb, hml, hown, hts⟩
  have hl : lv_has ls 6 [(0, .ref h)] := hl
  refine lv_aload_n hx hb dX2_digest_0 rfl (lv_at hl 0 rfl) ?_
  refine lv_iconst (v := 0) hx hb dX2_digest_1 (by decide) ?_
  refine va_put (D := (dC, dI)) (ci := 2) (v := .int 0) (ty := .int) (C := RX2) (T := TX2) (N := 9) hx hb hts in_X2_digest_X2 tyX2 tyX2_ok nmX2 hown hK hP hD hS 0 rfl rfl 0 (by decide) (hts (.fieldLink RX2 35 "MoorTrianglesModel" "thrown" "I") fl_X2_digest_35) (fun _ h9 => h9) rfl (by decide +kernel) rfl rfl (Nat.le_of_ble_eq_true rfl) dX2_digest_2 (fun H locs hP hD hS => ?_)
  have hP : va_P (dC, dI) vwCl (wR cI cZ cY h qx qy qh qt qs rw 0 n xs ys hs t tb sg fl) H := hP
  have hD : va_D A (wR cI cZ cY h qx qy qh qt qs rw 0 n xs ys hs t tb sg fl) := hD
  refine lv_ldc2 hx hb hown (hts _ lc189_X2_digest) dX2_digest_5 ?_
  refine lv_lstore_n (lv' := [(1, .long 1433), (0, .ref h)]) hx hb dX2_digest_8 rfl hl (by decide) rfl (fun ls hl => ?_)
  refine lv_iconst (v := 0) hx hb dX2_digest_9 (by decide) ?_
  refine lv_istore_n (lv' := [(3, .int 0), (1, .long 1433), (0, .ref h)]) hx hb dX2_digest_10 rfl hl (by decide) rfl (fun ls hl => ?_)
  have hL11 : ∀ (k_1 : Nat) (i : Nat), (7 - i) < k_1 → (i ≤ 7) → ∀ ls : Array Slot, lv_has ls 6 [(3, .int (nI i)), (1, .long (dgF (r_dg1 n t xs ys tb sg fl) 1433 i)), (0, .ref h)] → W p l e ({ frames := 8, cells := 0, slots := 0, locals := 188 } : Room) s m ([.ref h] : List Value).toArray below meth c H locs 0 0 (MQ below (wrQl (dC, dI) (gTY cI cZ cY) (r_digest n t xs ys hs tb sg fl) (wR cI cZ cY h qx qy qh qt qs rw 0 n xs ys hs t tb sg fl) A) ([.ref h] : List Value).toArray s 0 0 A) (F0 m 11 ls []) := by
    intro k_1
    induction k_1 with
    | zero => intro i hk; exact absurd hk (Nat.not_lt_zero _)
    | succ k_1 ih_2 =>
      intro i hk_11 hi_i ls hl
      refine lv_iload_n hx hb dX2_digest_11 rfl (lv_at hl 0 rfl) ?_
      refine lv_bipush (v := 7) hx hb dX2_digest_12 (by decide) ?_
      refine lv_icmp_ge (tgt := 36) hx hb dX2_digest_14 (by decide) (fun c_3 => ?_) (fun c_3 => ?_)
      · have hge_i : 7 ≤ i := nI_le_le (by omega) (by omega) c_3
        have heq_i : i = 7 := by omega
        have hl : lv_has ls 6 [(3, .int (nI 7)), (1, .long (dgF (r_dg1 n t xs ys tb sg fl) 1433 7)), (0, .ref h)] := by rw [heq_i] at hl; exact hl
        refine lv_iconst (v := 0) hx hb dX2_digest_36 (by decide) ?_
        refine lv_istore_n (lv' := [(3, .int 0), (1, .long (dgF (r_dg1 n t xs ys tb sg fl) 1433 7)), (0, .ref h)]) hx hb dX2_digest_37 rfl hl (by decide) rfl (fun ls hl => ?_)
        have hL38 : ∀ (k_4 : Nat) (i : Nat), (n - i) < k_4 → (i ≤ n) → ∀ ls : Array Slot, lv_has ls 6 [(3, .int (nI i)), (1, .long (dgO (r_dg2 n t xs ys hs tb) 5 (dgF (r_dg1 n t xs ys tb sg fl) 1433 7) i)), (0, .ref h)] → W p l e ({ frames := 8, cells := 0, slots := 0, locals := 188 } : Room) s m ([.ref h] : List Value).toArray below meth c H locs 0 0 (MQ below (wrQl (dC, dI) (gTY cI cZ cY) (r_digest n t xs ys hs tb sg fl) (wR cI cZ cY h qx qy qh qt qs rw 0 n xs ys hs t tb sg fl) A) ([.ref h] : List Value).toArray s 0 0 A) (F0 m 38 ls []) := by
          intro k_4
          induction k_4 with
          | zero => intro i hk; exact absurd hk (Nat.not_lt_zero _)
          | succ k_4 ih_5 =>
            intro i hk_38 hi_i ls hl
            refine lv_iload_n hx hb dX2_digest_38 rfl (lv_at hl 0 rfl) ?_
            refine lv_aload_n hx hb dX2_digest_39 rfl (lv_at hl 2 rfl) ?_
            refine va_get (D := (dC, dI)) (ci := 2) (v := .int (nI n)) (C := RX2) (T := TX2) (N := 9) hx hb hts in_X2_digest_X2 hown hK hP 0 rfl rfl 1 (by decide) (hts (.fieldLink RX2 7 "MoorTrianglesModel" "cairns" "I") fl_X2_digest_7) (fun _ h9 => h9) rfl dX2_digest_40 ?_
            refine lv_icmp_ge (tgt := 82) hx hb dX2_digest_43 (by decide) (fun c_6 => ?_) (fun c_6 => ?_)
            · have hge_i : n ≤ i := nI_le_le (by omega) (by omega) c_6
              have heq_i : i = n := by omega
              have hl : lv_has ls 6 [(3, .int (nI n)), (1, .long (dgO (r_dg2 n t xs ys hs tb) 5 (dgF (r_dg1 n t xs ys tb sg fl) 1433 7) n)), (0, .ref h)] := by rw [heq_i] at hl; exact hl
              refine lv_iconst (v := 0) hx hb dX2_digest_82 (by decide) ?_
              refine lv_istore_n (lv' := [(3, .int 0), (1, .long (dgO (r_dg2 n t xs ys hs tb) 5 (dgF (r_dg1 n t xs ys tb sg fl) 1433 7) n)), (0, .ref h)]) hx hb dX2_digest_83 rfl hl (by decide) rfl (fun ls hl => ?_)
              have hL84 : ∀ (k_7 : Nat) (i : Nat), (t - i) < k_7 → (i ≤ t) → ∀ ls : Array Slot, lv_has ls 6 [(3, .int (nI i)), (1, .long (dgO (r_dg3 xs ys tb) 4 (dgO (r_dg2 n t xs ys hs tb) 5 (dgF (r_dg1 n t xs ys tb sg fl) 1433 7) n) i)), (0, .ref h)] → W p l e ({ frames := 8, cells := 0, slots := 0, locals := 188 } : Room) s m ([.ref h] : List Value).toArray below meth c H locs 0 0 (MQ below (wrQl (dC, dI) (gTY cI cZ cY) (r_digest n t xs ys hs tb sg fl) (wR cI cZ cY h qx qy qh qt qs rw 0 n xs ys hs t tb sg fl) A) ([.ref h] : List Value).toArray s 0 0 A) (F0 m 84 ls []) := by
                intro k_7
                induction k_7 with
                | zero => intro i hk; exact absurd hk (Nat.not_lt_zero _)
                | succ k_7 ih_8 =>
                  intro i hk_84 hi_i ls hl
                  refine lv_iload_n hx hb dX2_digest_84 rfl (lv_at hl 0 rfl) ?_
                  refine lv_aload_n hx hb dX2_digest_85 rfl (lv_at hl 2 rfl) ?_
                  refine va_get (D := (dC, dI)) (ci := 2) (v := .int (nI t)) (C := RX2) (T := TX2) (N := 9) hx hb hts in_X2_digest_X2 hown hK hP 0 rfl rfl 5 (by decide) (hts (.fieldLink RX2 55 "MoorTrianglesModel" "triangles" "I") fl_X2_digest_55) (fun _ h9 => h9) rfl dX2_digest_86 ?_
                  refine lv_icmp_ge (tgt := 128) hx hb dX2_digest_89 (by decide) (fun c_9 => ?_) (fun c_9 => ?_)
                  · have hge_i : t ≤ i := nI_le_le (by omega) (by omega) c_9
                    have heq_i : i = t := by omega
                    have hl : lv_has ls 6 [(3, .int (nI t)), (1, .long (dgO (r_dg3 xs ys tb) 4 (dgO (r_dg2 n t xs ys hs tb) 5 (dgF (r_dg1 n t xs ys tb sg fl) 1433 7) n) t)), (0, .ref h)] := by rw [heq_i] at hl; exact hl
                    refine lv_iconst (v := 0) hx hb dX2_digest_128 (by decide) ?_
                    refine lv_istore_n (lv' := [(3, .int 0), (1, .long (dgO (r_dg3 xs ys tb) 4 (dgO (r_dg2 n t xs ys hs tb) 5 (dgF (r_dg1 n t xs ys tb sg fl) 1433 7) n) t)), (0, .ref h)]) hx hb dX2_digest_129 rfl hl (by decide) rfl (fun ls hl => ?_)
                    have hL130 : ∀ (k_10 : Nat) (i : Nat), (n - i) < k_10 → (i ≤ n) → ∀ ls : Array Slot, lv_has ls 6 [(3, .int (nI i)), (1, .long (dgE (r_dgH t tb) (r_dg4 t xs ys tb sg) n (dgO (r_dg3 xs ys tb) 4 (dgO (r_dg2 n t xs ys hs tb) 5 (dgF (r_dg1 n t xs ys tb sg fl) 1433 7) n) t) i)), (0, .ref h)] → W p l e ({ frames := 8, cells := 0, slots := 0, locals := 188 } : Room) s m ([.ref h] : List Value).toArray below meth c H locs 0 0 (MQ below (wrQl (dC, dI) (gTY cI cZ cY) (r_digest n t xs ys hs tb sg fl) (wR cI cZ cY h qx qy qh qt qs rw 0 n xs ys hs t tb sg fl) A) ([.ref h] : List Value).toArray s 0 0 A) (F0 m 130 ls []) := by
                      intro k_10
                      induction k_10 with
                      | zero => intro i hk; exact absurd hk (Nat.not_lt_zero _)
                      | succ k_10 ih_11 =>
                        intro i hk_130 hi_i ls hl
                        refine lv_iload_n hx hb dX2_digest_130 rfl (lv_at hl 0 rfl) ?_
                        refine lv_aload_n hx hb dX2_digest_131 rfl (lv_at hl 2 rfl) ?_
                        refine va_get (D := (dC, dI)) (ci := 2) (v := .int (nI n)) (C := RX2) (T := TX2) (N := 9) hx hb hts in_X2_digest_X2 hown hK hP 0 rfl rfl 1 (by decide) (hts (.fieldLink RX2 7 "MoorTrianglesModel" "cairns" "I") fl_X2_digest_7) (fun _ h9 => h9) rfl dX2_digest_132 ?_
                        refine lv_icmp_ge (tgt := 226) hx hb dX2_digest_135 (by decide) (fun c_12 => ?_) (fun c_12 => ?_)
                        · have hge_i : n ≤ i := nI_le_le (by omega) (by omega) c_12
                          have heq_i : i = n := by omega
                          have hl : lv_has ls 6 [(3, .int (nI n)), (1, .long (dgE (r_dgH t tb) (r_dg4 t xs ys tb sg) n (dgO (r_dg3 xs ys tb) 4 (dgO (r_dg2 n t xs ys hs tb) 5 (dgF (r_dg1 n t xs ys tb sg fl) 1433 7) n) t) n)), (0, .ref h)] := by rw [heq_i] at hl; exact hl
                          refine lv_lload_n hx hb dX2_digest_226 rfl (lv_at hl 1 rfl) ?_
                          exact wr_lret hx hb hr hlocks (by rfl) hP hK hD hS dX2_digest_227
                        · have hlt_i : i < n := nI_nle_lt (by omega) (by omega) c_12
                          refine lv_iload_n hx hb dX2_digest_138 rfl (lv_at hl 0 rfl) ?_
                          refine lv_iconst (v := 1) hx hb dX2_digest_139 (by decide) ?_
                          refine lv_iadd hx hb dX2_digest_140 ?_
                          refine lv_istore (lv' := [(4, .int ((nI i) + 1)), (3, .int (nI i)), (1, .long (dgE (r_dgH t tb) (r_dg4 t xs ys tb sg) n (dgO (r_dg3 xs ys tb) 4 (dgO (r_dg2 n t xs ys hs tb) 5 (dgF (r_dg1 n t xs ys tb sg fl) 1433 7) n) t) i)), (0, .ref h)]) hx hb dX2_digest_141 hl (by decide) rfl (fun ls hl => ?_)
                          have hL143 : ∀ (k_13 : Nat) (j : Nat), (n - j) < k_13 → (j ≤ n) → (i < j) → ∀ ls : Array Slot, lv_has ls 6 [(4, .int (nI j)), (1, .long (dgI (r_dgH t tb) (r_dg4 t xs ys tb sg) i (dgE (r_dgH t tb) (r_dg4 t xs ys tb sg) n (dgO (r_dg3 xs ys tb) 4 (dgO (r_dg2 n t xs ys hs tb) 5 (dgF (r_dg1 n t xs ys tb sg fl) 1433 7) n) t) i) j)), (3, .int (nI i)), (0, .ref h)] → W p l e ({ frames := 8, cells := 0, slots := 0, locals := 188 } : Room) s m ([.ref h] : List Value).toArray below meth c H locs 0 0 (MQ below (wrQl (dC, dI) (gTY cI cZ cY) (r_digest n t xs ys hs tb sg fl) (wR cI cZ cY h qx qy qh qt qs rw 0 n xs ys hs t tb sg fl) A) ([.ref h] : List Value).toArray s 0 0 A) (F0 m 143 ls []) := by
                            intro k_13
                            induction k_13 with
                            | zero => intro j hk; exact absurd hk (Nat.not_lt_zero _)
                            | succ k_13 ih_14 =>
                              intro j hk_143 hi_j hij ls hl
                              refine lv_iload hx hb dX2_digest_143 (lv_at hl 0 rfl) ?_
                              refine lv_aload_n hx hb dX2_digest_145 rfl (lv_at hl 3 rfl) ?_
                              refine va_get (D := (dC, dI)) (ci := 2) (v := .int (nI n)) (C := RX2) (T := TX2) (N := 9) hx hb hts in_X2_digest_X2 hown hK hP 0 rfl rfl 1 (by decide) (hts (.fieldLink RX2 7 "MoorTrianglesModel" "cairns" "I") fl_X2_digest_7) (fun _ h9 => h9) rfl dX2_digest_146 ?_
                              refine lv_icmp_ge (tgt := 220) hx hb dX2_digest_149 (by decide) (fun c_15 => ?_) (fun c_15 => ?_)
                              · have hge_j : n ≤ j := nI_le_le (by omega) (by omega) c_15
                                have heq_j : j = n := by omega
                                have hl : lv_has ls 6 [(4, .int (nI n)), (1, .long (dgI (r_dgH t tb) (r_dg4 t xs ys tb sg) i (dgE (r_dgH t tb) (r_dg4 t xs ys tb sg) n (dgO (r_dg3 xs ys tb) 4 (dgO (r_dg2 n t xs ys hs tb) 5 (dgF (r_dg1 n t xs ys tb sg fl) 1433 7) n) t) i) n)), (3, .int (nI i)), (0, .ref h)] := by rw [heq_j] at hl; exact hl
                                refine lv_iinc (v := nI (i + 1)) (lv' := [(3, .int (nI (i + 1))), (4, .int (nI n)), (1, .long (dgI (r_dgH t tb) (r_dg4 t xs ys tb sg) i (dgE (r_dgH t tb) (r_dg4 t xs ys tb sg) n (dgO (r_dg3 xs ys tb) 4 (dgO (r_dg2 n t xs ys hs tb) 5 (dgF (r_dg1 n t xs ys tb sg fl) 1433 7) n) t) i) n)), (0, .ref h)]) hx hb dX2_digest_220 hl (k := 2) rfl (nI_1 _) (by decide) rfl (fun ls hl => ?_)
                                refine lv_goto (tgt := 130) hx hb dX2_digest_223 (by decide) ?_
                                have hl := lv_sub (l' := [(3, .int (nI (i + 1))), (1, .long (dgI (r_dgH t tb) (r_dg4 t xs ys tb sg) i (dgE (r_dgH t tb) (r_dg4 t xs ys tb sg) n (dgO (r_dg3 xs ys tb) 4 (dgO (r_dg2 n t xs ys hs tb) 5 (dgF (r_dg1 n t xs ys tb sg fl) 1433 7) n) t) i) n)), (0, .ref h)]) hl [0, 2, 3] rfl
                                have hl : lv_has ls 6 [(3, .int (nI (i + 1))), (1, .long (dgE (r_dgH t tb) (r_dg4 t xs ys tb sg) n (dgO (r_dg3 xs ys tb) 4 (dgO (r_dg2 n t xs ys hs tb) 5 (dgF (r_dg1 n t xs ys tb sg fl) 1433 7) n) t) (i + 1))), (0, .ref h)] := by
                                  have e9 : [(3, .int (nI (i + 1))), (1, .long (dgI (r_dgH t tb) (r_dg4 t xs ys tb sg) i (dgE (r_dgH t tb) (r_dg4 t xs ys tb sg) n (dgO (r_dg3 xs ys tb) 4 (dgO (r_dg2 n t xs ys hs tb) 5 (dgF (r_dg1 n t xs ys tb sg fl) 1433 7) n) t) i) n)), (0, .ref h)] = ([(3, .int (nI (i + 1))), (1, .long (dgE (r_dgH t tb) (r_dg4 t xs ys tb sg) n (dgO (r_dg3 xs ys tb) 4 (dgO (r_dg2 n t xs ys hs tb) 5 (dgF (r_dg1 n t xs ys tb sg fl) 1433 7) n) t) (i + 1))), (0, .ref h)] : List (Nat × Value)) := by rfl
                                  rw [← e9]; exact hl
                                exact ih_11 (i + 1) (by omega) (by omega) _ hl
                              · have hlt_j : j < n := nI_nle_lt (by omega) (by omega) c_15
                                refine lv_aload_n hx hb dX2_digest_152 rfl (lv_at hl 3 rfl) ?_
                                refine lv_iload_n hx hb dX2_digest_153 rfl (lv_at hl 2 rfl) ?_
                                refine lv_iload hx hb dX2_digest_154 (lv_at hl 0 rfl) ?_
                                refine rd_cVi (As := [.int (nI i), .int (nI j)]) (rest := []) F (c_X2_sides l dC dI cI cZ cY h qx qy qh qt qs rw 0 n xs ys hs t tb sg fl (nI i) (nI j) ht) (cwV 2 hts gX2_digest_X2_sides rfl rfl rfl hd_X2_sides ⟨Nat.le_of_ble_eq_true rfl, Nat.le_of_ble_eq_true rfl⟩) hP hK (va_recv hK hP (ci := 2) (q0 := 0) rfl rfl) rfl hl.1 rfl (lv_room (Nat.le_of_ble_eq_true rfl)) dX2_digest_156 ⟨Nat.zero_le _, Nat.zero_le _⟩ ?_
                                refine lv_if_ne (tgt := 165) hx hb dX2_digest_159 (by decide) (fun c_16 => ?_) (fun c_16 => ?_)
                                · refine lv_lload_n hx hb dX2_digest_165 rfl (lv_at hl 1 rfl) ?_
                                  refine lv_ldc2 hx hb hown (hts _ lc191_X2_digest) dX2_digest_166 ?_
                                  refine lv_lmul hx hb dX2_digest_169 ?_
                                  refine lv_iload_n hx hb dX2_digest_170 rfl (lv_at hl 2 rfl) ?_
                                  refine lv_i2l hx hb dX2_digest_171 rfl ?_
                                  refine lv_ladd hx hb dX2_digest_172 ?_
                                  refine lv_ldc2 hx hb hown (hts _ lc191_X2_digest) dX2_digest_173 ?_
                                  refine lv_lmul hx hb dX2_digest_176 ?_
                                  refine lv_iload hx hb dX2_digest_177 (lv_at hl 0 rfl) ?_
                                  refine lv_i2l hx hb dX2_digest_179 rfl ?_
                                  refine lv_ladd hx hb dX2_digest_180 ?_
                                  refine lv_lstore_n (lv' := [(1, .long (((((dgI (r_dgH t tb) (r_dg4 t xs ys tb sg) i (dgE (r_dgH t tb) (r_dg4 t xs ys tb sg) n (dgO (r_dg3 xs ys tb) 4 (dgO (r_dg2 n t xs ys hs tb) 5 (dgF (r_dg1 n t xs ys tb sg fl) 1433 7) n) t) i) j) * 31) + ((nI i).toInt64)) * 31) + ((nI j).toInt64))), (4, .int (nI j)), (3, .int (nI i)), (0, .ref h)]) hx hb dX2_digest_181 rfl hl (by decide) rfl (fun ls hl => ?_)
                                  refine lv_iconst (v := 2) hx hb dX2_digest_182 (by decide) ?_
                                  refine lv_istore (lv' := [(5, .int 2), (1, .long (((((dgI (r_dgH t tb) (r_dg4 t xs ys tb sg) i (dgE (r_dgH t tb) (r_dg4 t xs ys tb sg) n (dgO (r_dg3 xs ys tb) 4 (dgO (r_dg2 n t xs ys hs tb) 5 (dgF (r_dg1 n t xs ys tb sg fl) 1433 7) n) t) i) j) * 31) + ((nI i).toInt64)) * 31) + ((nI j).toInt64))), (4, .int (nI j)), (3, .int (nI i)), (0, .ref h)]) hx hb dX2_digest_183 hl (by decide) rfl (fun ls hl => ?_)
                                  have hL185 : ∀ (k_17 : Nat) (k : Nat), (3 - k) < k_17 → (k ≤ 3) → ∀ ls : Array Slot, lv_has ls 6 [(5, .int (nI (2 + k))), (1, .long (dgF (r_dg4 t xs ys tb sg i j) (((dgI (r_dgH t tb) (r_dg4 t xs ys tb sg) i (dgE (r_dgH t tb) (r_dg4 t xs ys tb sg) n (dgO (r_dg3 xs ys tb) 4 (dgO (r_dg2 n t xs ys hs tb) 5 (dgF (r_dg1 n t xs ys tb sg fl) 1433 7) n) t) i) j) * 31 + (nI i).toInt64) * 31 + (nI j).toInt64) k)), (4, .int (nI j)), (3, .int (nI i)), (0, .ref h)] → W p l e ({ frames := 8, cells := 0, slots := 0, locals := 188 } : Room) s m ([.ref h] : List Value).toArray below meth c H locs 0 0 (MQ below (wrQl (dC, dI) (gTY cI cZ cY) (r_digest n t xs ys hs tb sg fl) (wR cI cZ cY h qx qy qh qt qs rw 0 n xs ys hs t tb sg fl) A) ([.ref h] : List Value).toArray s 0 0 A) (F0 m 185 ls []) := by
                                    intro k_17
                                    induction k_17 with
                                    | zero => intro k hk; exact absurd hk (Nat.not_lt_zero _)
                                    | succ k_17 ih_18 =>
                                      intro k hk_185 hi_k ls hl
                                      refine lv_iload hx hb dX2_digest_185 (lv_at hl 0 rfl) ?_
                                      refine lv_iconst (v := 5) hx hb dX2_digest_187 (by decide) ?_
                                      refine lv_icmp_ge (tgt := 214) hx hb dX2_digest_188 (by decide) (fun c_19 => ?_) (fun c_19 => ?_)
                                      · have hge : 5 ≤ 2 + k := nI_le_le (by omega) (by omega) c_19
                                        have heq_k : k = 3 := by omega
                                        have hl : lv_has ls 6 [(5, .int (nI (2 + 3))), (1, .long (dgF (r_dg4 t xs ys tb sg i j) (((dgI (r_dgH t tb) (r_dg4 t xs ys tb sg) i (dgE (r_dgH t tb) (r_dg4 t xs ys tb sg) n (dgO (r_dg3 xs ys tb) 4 (dgO (r_dg2 n t xs ys hs tb) 5 (dgF (r_dg1 n t xs ys tb sg fl) 1433 7) n) t) i) j) * 31 + (nI i).toInt64) * 31 + (nI j).toInt64) 3)), (4, .int (nI j)), (3, .int (nI i)), (0, .ref h)] := by rw [heq_k] at hl; exact hl
                                        refine lv_iinc (v := nI (j + 1)) (lv' := [(4, .int (nI (j + 1))), (5, .int (nI (2 + 3))), (1, .long (dgF (r_dg4 t xs ys tb sg i j) (((dgI (r_dgH t tb) (r_dg4 t xs ys tb sg) i (dgE (r_dgH t tb) (r_dg4 t xs ys tb sg) n (dgO (r_dg3 xs ys tb) 4 (dgO (r_dg2 n t xs ys hs tb) 5 (dgF (r_dg1 n t xs ys tb sg fl) 1433 7) n) t) i) j) * 31 + (nI i).toInt64) * 31 + (nI j).toInt64) 3)), (3, .int (nI i)), (0, .ref h)]) hx hb dX2_digest_214 hl (k := 2) rfl (nI_1 _) (by decide) rfl (fun ls hl => ?_)
                                        refine lv_goto (tgt := 143) hx hb dX2_digest_217 (by decide) ?_
                                        have hl := lv_sub (l' := [(4, .int (nI (j + 1))), (1, .long (dgF (r_dg4 t xs ys tb sg i j) (((dgI (r_dgH t tb) (r_dg4 t xs ys tb sg) i (dgE (r_dgH t tb) (r_dg4 t xs ys tb sg) n (dgO (r_dg3 xs ys tb) 4 (dgO (r_dg2 n t xs ys hs tb) 5 (dgF (r_dg1 n t xs ys tb sg fl) 1433 7) n) t) i) j) * 31 + (nI i).toInt64) * 31 + (nI j).toInt64) 3)), (3, .int (nI i)), (0, .ref h)]) hl [0, 2, 3, 4] rfl
                                        have hl : lv_has ls 6 [(4, .int (nI (j + 1))), (1, .long (dgI (r_dgH t tb) (r_dg4 t xs ys tb sg) i (dgE (r_dgH t tb) (r_dg4 t xs ys tb sg) n (dgO (r_dg3 xs ys tb) 4 (dgO (r_dg2 n t xs ys hs tb) 5 (dgF (r_dg1 n t xs ys tb sg fl) 1433 7) n) t) i) (j + 1))), (3, .int (nI i)), (0, .ref h)] := by
                                          have e9 : [(4, .int (nI (j + 1))), (1, .long (dgF (r_dg4 t xs ys tb sg i j) (((dgI (r_dgH t tb) (r_dg4 t xs ys tb sg) i (dgE (r_dgH t tb) (r_dg4 t xs ys tb sg) n (dgO (r_dg3 xs ys tb) 4 (dgO (r_dg2 n t xs ys hs tb) 5 (dgF (r_dg1 n t xs ys tb sg fl) 1433 7) n) t) i) j) * 31 + (nI i).toInt64) * 31 + (nI j).toInt64) 3)), (3, .int (nI i)), (0, .ref h)] = ([(4, .int (nI (j + 1))), (1, .long (dgI (r_dgH t tb) (r_dg4 t xs ys tb sg) i (dgE (r_dgH t tb) (r_dg4 t xs ys tb sg) n (dgO (r_dg3 xs ys tb) 4 (dgO (r_dg2 n t xs ys hs tb) 5 (dgF (r_dg1 n t xs ys tb sg fl) 1433 7) n) t) i) (j + 1))), (3, .int (nI i)), (0, .ref h)] : List (Nat × Value)) := by rw [dgI_hi hij, if_pos (show r_dgH t tb i j = true from by unfold r_dgH r_nz; rw [if_neg c_16])]; try rfl
                                          rw [← e9]; exact hl
                                        exact ih_14 (j + 1) (by omega) (by omega) (by omega) _ hl
                                      · have hlt_k : 2 + k < 5 := nI_nle_lt (by omega) (by omega) c_19
                                        refine lv_lload_n hx hb dX2_digest_191 rfl (lv_at hl 1 rfl) ?_
                                        refine lv_ldc2 hx hb hown (hts _ lc191_X2_digest) dX2_digest_192 ?_
                                        refine lv_lmul hx hb dX2_digest_195 ?_
                                        refine lv_aload_n hx hb dX2_digest_196 rfl (lv_at hl 4 rfl) ?_
                                        refine lv_iload_n hx hb dX2_digest_197 rfl (lv_at hl 3 rfl) ?_
                                        refine lv_iload hx hb dX2_digest_198 (lv_at hl 2 rfl) ?_
                                        refine lv_iload hx hb dX2_digest_200 (lv_at hl 0 rfl) ?_
                                        refine rd_cVi (As := [.int (nI i), .int (nI j), .int (nI (2 + k))]) (rest := [.long ((dgF (r_dg4 t xs ys tb sg i j) (((dgI (r_dgH t tb) (r_dg4 t xs ys tb sg) i (dgE (r_dgH t tb) (r_dg4 t xs ys tb sg) n (dgO (r_dg3 xs ys tb) 4 (dgO (r_dg2 n t xs ys hs tb) 5 (dgF (r_dg1 n t xs ys tb sg fl) 1433 7) n) t) i) j) * 31 + (nI i).toInt64) * 31 + (nI j).toInt64) k) * 31)]) F (c_X2_edgeTold l dC dI cI cZ cY h qx qy qh qt qs rw 0 n xs ys hs t tb sg fl (nI i) (nI j) (nI (2 + k)) ht (vp_in_nI (by omega) (by decide)) (vp_in_nI (by omega) (by decide)) (hFF i j hlt_i hlt_j)) (cwV 3 hts gX2_digest_X2_edgeTold rfl rfl rfl hd_X2_edgeTold ⟨Nat.le_of_ble_eq_true rfl, Nat.le_of_ble_eq_true rfl⟩) hP hK (va_recv hK hP (ci := 2) (q0 := 0) rfl rfl) rfl hl.1 rfl (lv_room (Nat.le_of_ble_eq_true rfl)) dX2_digest_202 ⟨Nat.zero_le _, Nat.zero_le _⟩ ?_
                                        refine lv_i2l hx hb dX2_digest_205 rfl ?_
                                        refine lv_ladd hx hb dX2_digest_206 ?_
                                        refine lv_lstore_n (lv' := [(1, .long (((dgF (r_dg4 t xs ys tb sg i j) (((dgI (r_dgH t tb) (r_dg4 t xs ys tb sg) i (dgE (r_dgH t tb) (r_dg4 t xs ys tb sg) n (dgO (r_dg3 xs ys tb) 4 (dgO (r_dg2 n t xs ys hs tb) 5 (dgF (r_dg1 n t xs ys tb sg fl) 1433 7) n) t) i) j) * 31 + (nI i).toInt64) * 31 + (nI j).toInt64) k) * 31) + ((bI (r_eT t xs ys tb sg (nI i) (nI j) (nI (2 + k)))).toInt64))), (5, .int (nI (2 + k))), (4, .int (nI j)), (3, .int (nI i)), (0, .ref h)]) hx hb dX2_digest_207 rfl hl (by decide) rfl (fun ls hl => ?_)
                                        refine lv_iinc (v := nI ((2 + k) + 1)) (lv' := [(5, .int (nI ((2 + k) + 1))), (1, .long (((dgF (r_dg4 t xs ys tb sg i j) (((dgI (r_dgH t tb) (r_dg4 t xs ys tb sg) i (dgE (r_dgH t tb) (r_dg4 t xs ys tb sg) n (dgO (r_dg3 xs ys tb) 4 (dgO (r_dg2 n t xs ys hs tb) 5 (dgF (r_dg1 n t xs ys tb sg fl) 1433 7) n) t) i) j) * 31 + (nI i).toInt64) * 31 + (nI j).toInt64) k) * 31) + ((bI (r_eT t xs ys tb sg (nI i) (nI j) (nI (2 + k)))).toInt64))), (4, .int (nI j)), (3, .int (nI i)), (0, .ref h)]) hx hb dX2_digest_208 hl (k := 1) rfl (nI_1 _) (by decide) rfl (fun ls hl => ?_)
                                        refine lv_goto (tgt := 185) hx hb dX2_digest_211 (by decide) ?_
                                        have hl := lv_sub (l' := [(5, .int (nI ((2 + k) + 1))), (1, .long (((dgF (r_dg4 t xs ys tb sg i j) (((dgI (r_dgH t tb) (r_dg4 t xs ys tb sg) i (dgE (r_dgH t tb) (r_dg4 t xs ys tb sg) n (dgO (r_dg3 xs ys tb) 4 (dgO (r_dg2 n t xs ys hs tb) 5 (dgF (r_dg1 n t xs ys tb sg fl) 1433 7) n) t) i) j) * 31 + (nI i).toInt64) * 31 + (nI j).toInt64) k) * 31) + ((bI (r_eT t xs ys tb sg (nI i) (nI j) (nI (2 + k)))).toInt64))), (4, .int (nI j)), (3, .int (nI i)), (0, .ref h)]) hl [0, 1, 2, 3, 4] rfl
                                        have hl : lv_has ls 6 [(5, .int (nI (2 + (k + 1)))), (1, .long (dgF (r_dg4 t xs ys tb sg i j) (((dgI (r_dgH t tb) (r_dg4 t xs ys tb sg) i (dgE (r_dgH t tb) (r_dg4 t xs ys tb sg) n (dgO (r_dg3 xs ys tb) 4 (dgO (r_dg2 n t xs ys hs tb) 5 (dgF (r_dg1 n t xs ys tb sg fl) 1433 7) n) t) i) j) * 31 + (nI i).toInt64) * 31 + (nI j).toInt64) (k + 1))), (4, .int (nI j)), (3, .int (nI i)), (0, .ref h)] := by
                                          have e9 : [(5, .int (nI ((2 + k) + 1))), (1, .long (((dgF (r_dg4 t xs ys tb sg i j) (((dgI (r_dgH t tb) (r_dg4 t xs ys tb sg) i (dgE (r_dgH t tb) (r_dg4 t xs ys tb sg) n (dgO (r_dg3 xs ys tb) 4 (dgO (r_dg2 n t xs ys hs tb) 5 (dgF (r_dg1 n t xs ys tb sg fl) 1433 7) n) t) i) j) * 31 + (nI i).toInt64) * 31 + (nI j).toInt64) k) * 31) + ((bI (r_eT t xs ys tb sg (nI i) (nI j) (nI (2 + k)))).toInt64))), (4, .int (nI j)), (3, .int (nI i)), (0, .ref h)] = ([(5, .int (nI (2 + (k + 1)))), (1, .long (dgF (r_dg4 t xs ys tb sg i j) (((dgI (r_dgH t tb) (r_dg4 t xs ys tb sg) i (dgE (r_dgH t tb) (r_dg4 t xs ys tb sg) n (dgO (r_dg3 xs ys tb) 4 (dgO (r_dg2 n t xs ys hs tb) 5 (dgF (r_dg1 n t xs ys tb sg fl) 1433 7) n) t) i) j) * 31 + (nI i).toInt64) * 31 + (nI j).toInt64) (k + 1))), (4, .int (nI j)), (3, .int (nI i)), (0, .ref h)] : List (Nat × Value)) := by rfl
                                          rw [← e9]; exact hl
                                        exact ih_18 (k + 1) (by omega) (by omega) _ hl
                                  have hl := lv_sub (l' := [(5, .int 2), (1, .long (((((dgI (r_dgH t tb) (r_dg4 t xs ys tb sg) i (dgE (r_dgH t tb) (r_dg4 t xs ys tb sg) n (dgO (r_dg3 xs ys tb) 4 (dgO (r_dg2 n t xs ys hs tb) 5 (dgF (r_dg1 n t xs ys tb sg fl) 1433 7) n) t) i) j) * 31) + ((nI i).toInt64)) * 31) + ((nI j).toInt64))), (4, .int (nI j)), (3, .int (nI i)), (0, .ref h)]) hl [0, 1, 2, 3, 4] rfl
                                  have hl : lv_has ls 6 [(5, .int (nI (2 + 0))), (1, .long (dgF (r_dg4 t xs ys tb sg i j) (((dgI (r_dgH t tb) (r_dg4 t xs ys tb sg) i (dgE (r_dgH t tb) (r_dg4 t xs ys tb sg) n (dgO (r_dg3 xs ys tb) 4 (dgO (r_dg2 n t xs ys hs tb) 5 (dgF (r_dg1 n t xs ys tb sg fl) 1433 7) n) t) i) j) * 31 + (nI i).toInt64) * 31 + (nI j).toInt64) 0)), (4, .int (nI j)), (3, .int (nI i)), (0, .ref h)] := by
                                    have e9 : [(5, .int 2), (1, .long (((((dgI (r_dgH t tb) (r_dg4 t xs ys tb sg) i (dgE (r_dgH t tb) (r_dg4 t xs ys tb sg) n (dgO (r_dg3 xs ys tb) 4 (dgO (r_dg2 n t xs ys hs tb) 5 (dgF (r_dg1 n t xs ys tb sg fl) 1433 7) n) t) i) j) * 31) + ((nI i).toInt64)) * 31) + ((nI j).toInt64))), (4, .int (nI j)), (3, .int (nI i)), (0, .ref h)] = ([(5, .int (nI (2 + 0))), (1, .long (dgF (r_dg4 t xs ys tb sg i j) (((dgI (r_dgH t tb) (r_dg4 t xs ys tb sg) i (dgE (r_dgH t tb) (r_dg4 t xs ys tb sg) n (dgO (r_dg3 xs ys tb) 4 (dgO (r_dg2 n t xs ys hs tb) 5 (dgF (r_dg1 n t xs ys tb sg fl) 1433 7) n) t) i) j) * 31 + (nI i).toInt64) * 31 + (nI j).toInt64) 0)), (4, .int (nI j)), (3, .int (nI i)), (0, .ref h)] : List (Nat × Value)) := by rfl
                                    rw [← e9]; exact hl
                                  exact hL185 _ 0 (Nat.lt_succ_self _) (by omega) _ hl
                                · refine lv_goto (tgt := 214) hx hb dX2_digest_162 (by decide) ?_
                                  refine lv_iinc (v := nI (j + 1)) (lv' := [(4, .int (nI (j + 1))), (1, .long (dgI (r_dgH t tb) (r_dg4 t xs ys tb sg) i (dgE (r_dgH t tb) (r_dg4 t xs ys tb sg) n (dgO (r_dg3 xs ys tb) 4 (dgO (r_dg2 n t xs ys hs tb) 5 (dgF (r_dg1 n t xs ys tb sg fl) 1433 7) n) t) i) j)), (3, .int (nI i)), (0, .ref h)]) hx hb dX2_digest_214 hl (k := 0) rfl (nI_1 _) (by decide) rfl (fun ls hl => ?_)
                                  refine lv_goto (tgt := 143) hx hb dX2_digest_217 (by decide) ?_
                                  have hl := lv_sub (l' := [(4, .int (nI (j + 1))), (1, .long (dgI (r_dgH t tb) (r_dg4 t xs ys tb sg) i (dgE (r_dgH t tb) (r_dg4 t xs ys tb sg) n (dgO (r_dg3 xs ys tb) 4 (dgO (r_dg2 n t xs ys hs tb) 5 (dgF (r_dg1 n t xs ys tb sg fl) 1433 7) n) t) i) j)), (3, .int (nI i)), (0, .ref h)]) hl [0, 1, 2, 3] rfl
                                  have hl : lv_has ls 6 [(4, .int (nI (j + 1))), (1, .long (dgI (r_dgH t tb) (r_dg4 t xs ys tb sg) i (dgE (r_dgH t tb) (r_dg4 t xs ys tb sg) n (dgO (r_dg3 xs ys tb) 4 (dgO (r_dg2 n t xs ys hs tb) 5 (dgF (r_dg1 n t xs ys tb sg fl) 1433 7) n) t) i) (j + 1))), (3, .int (nI i)), (0, .ref h)] := by
                                    have e9 : [(4, .int (nI (j + 1))), (1, .long (dgI (r_dgH t tb) (r_dg4 t xs ys tb sg) i (dgE (r_dgH t tb) (r_dg4 t xs ys tb sg) n (dgO (r_dg3 xs ys tb) 4 (dgO (r_dg2 n t xs ys hs tb) 5 (dgF (r_dg1 n t xs ys tb sg fl) 1433 7) n) t) i) j)), (3, .int (nI i)), (0, .ref h)] = ([(4, .int (nI (j + 1))), (1, .long (dgI (r_dgH t tb) (r_dg4 t xs ys tb sg) i (dgE (r_dgH t tb) (r_dg4 t xs ys tb sg) n (dgO (r_dg3 xs ys tb) 4 (dgO (r_dg2 n t xs ys hs tb) 5 (dgF (r_dg1 n t xs ys tb sg fl) 1433 7) n) t) i) (j + 1))), (3, .int (nI i)), (0, .ref h)] : List (Nat × Value)) := by rw [dgI_hi hij, if_neg (show ¬ r_dgH t tb i j = true from by unfold r_dgH r_nz; rw [if_pos c_16]; decide)]; try rfl
                                    rw [← e9]; exact hl
                                  exact ih_14 (j + 1) (by omega) (by omega) (by omega) _ hl
                          have hl := lv_sub (l' := [(4, .int ((nI i) + 1)), (1, .long (dgE (r_dgH t tb) (r_dg4 t xs ys tb sg) n (dgO (r_dg3 xs ys tb) 4 (dgO (r_dg2 n t xs ys hs tb) 5 (dgF (r_dg1 n t xs ys tb sg fl) 1433 7) n) t) i)), (3, .int (nI i)), (0, .ref h)]) hl [0, 2, 1, 3] rfl
                          have hl : lv_has ls 6 [(4, .int (nI (i + 1))), (1, .long (dgI (r_dgH t tb) (r_dg4 t xs ys tb sg) i (dgE (r_dgH t tb) (r_dg4 t xs ys tb sg) n (dgO (r_dg3 xs ys tb) 4 (dgO (r_dg2 n t xs ys hs tb) 5 (dgF (r_dg1 n t xs ys tb sg fl) 1433 7) n) t) i) (i + 1))), (3, .int (nI i)), (0, .ref h)] := by
                            have e9 : [(4, .int ((nI i) + 1)), (1, .long (dgE (r_dgH t tb) (r_dg4 t xs ys tb sg) n (dgO (r_dg3 xs ys tb) 4 (dgO (r_dg2 n t xs ys hs tb) 5 (dgF (r_dg1 n t xs ys tb sg fl) 1433 7) n) t) i)), (3, .int (nI i)), (0, .ref h)] = ([(4, .int (nI (i + 1))), (1, .long (dgI (r_dgH t tb) (r_dg4 t xs ys tb sg) i (dgE (r_dgH t tb) (r_dg4 t xs ys tb sg) n (dgO (r_dg3 xs ys tb) 4 (dgO (r_dg2 n t xs ys hs tb) 5 (dgF (r_dg1 n t xs ys tb sg fl) 1433 7) n) t) i) (i + 1))), (3, .int (nI i)), (0, .ref h)] : List (Nat × Value)) := by rw [dgI_lo (Nat.le_refl _), nI_1]; try rfl
                            rw [← e9]; exact hl
                          exact hL143 _ (i + 1) (Nat.lt_succ_self _) (by omega) (by omega) _ hl
                    have hl := lv_sub (l' := [(3, .int 0), (1, .long (dgO (r_dg3 xs ys tb) 4 (dgO (r_dg2 n t xs ys hs tb) 5 (dgF (r_dg1 n t xs ys tb sg fl) 1433 7) n) t)), (0, .ref h)]) hl [0, 1, 2] rfl
                    have hl : lv_has ls 6 [(3, .int (nI 0)), (1, .long (dgE (r_dgH t tb) (r_dg4 t xs ys tb sg) n (dgO (r_dg3 xs ys tb) 4 (dgO (r_dg2 n t xs ys hs tb) 5 (dgF (r_dg1 n t xs ys tb sg fl) 1433 7) n) t) 0)), (0, .ref h)] := by
                      have e9 : [(3, .int 0), (1, .long (dgO (r_dg3 xs ys tb) 4 (dgO (r_dg2 n t xs ys hs tb) 5 (dgF (r_dg1 n t xs ys tb sg fl) 1433 7) n) t)), (0, .ref h)] = ([(3, .int (nI 0)), (1, .long (dgE (r_dgH t tb) (r_dg4 t xs ys tb sg) n (dgO (r_dg3 xs ys tb) 4 (dgO (r_dg2 n t xs ys hs tb) 5 (dgF (r_dg1 n t xs ys tb sg fl) 1433 7) n) t) 0)), (0, .ref h)] : List (Nat × Value)) := by rfl
                      rw [← e9]; exact hl
                    exact hL130 _ 0 (Nat.lt_succ_self _) (by omega) _ hl
                  · have hlt_i : i < t := nI_nle_lt (by omega) (by omega) c_9
                    refine lv_iconst (v := 0) hx hb dX2_digest_92 (by decide) ?_
                    refine lv_istore (lv' := [(4, .int 0), (3, .int (nI i)), (1, .long (dgO (r_dg3 xs ys tb) 4 (dgO (r_dg2 n t xs ys hs tb) 5 (dgF (r_dg1 n t xs ys tb sg fl) 1433 7) n) i)), (0, .ref h)]) hx hb dX2_digest_93 hl (by decide) rfl (fun ls hl => ?_)
                    have hL95 : ∀ (k_20 : Nat) (j : Nat), (4 - j) < k_20 → (j ≤ 4) → ∀ ls : Array Slot, lv_has ls 6 [(4, .int (nI j)), (1, .long (dgF (r_dg3 xs ys tb i) (dgO (r_dg3 xs ys tb) 4 (dgO (r_dg2 n t xs ys hs tb) 5 (dgF (r_dg1 n t xs ys tb sg fl) 1433 7) n) i) j)), (3, .int (nI i)), (0, .ref h)] → W p l e ({ frames := 8, cells := 0, slots := 0, locals := 188 } : Room) s m ([.ref h] : List Value).toArray below meth c H locs 0 0 (MQ below (wrQl (dC, dI) (gTY cI cZ cY) (r_digest n t xs ys hs tb sg fl) (wR cI cZ cY h qx qy qh qt qs rw 0 n xs ys hs t tb sg fl) A) ([.ref h] : List Value).toArray s 0 0 A) (F0 m 95 ls []) := by
                      intro k_20
                      induction k_20 with
                      | zero => intro j hk; exact absurd hk (Nat.not_lt_zero _)
                      | succ k_20 ih_21 =>
                        intro j hk_95 hi_j ls hl
                        refine lv_iload hx hb dX2_digest_95 (lv_at hl 0 rfl) ?_
                        refine lv_iconst (v := 4) hx hb dX2_digest_97 (by decide) ?_
                        refine lv_icmp_ge (tgt := 122) hx hb dX2_digest_98 (by decide) (fun c_22 => ?_) (fun c_22 => ?_)
                        · have hge_j : 4 ≤ j := nI_le_le (by omega) (by omega) c_22
                          have heq_j : j = 4 := by omega
                          have hl : lv_has ls 6 [(4, .int (nI 4)), (1, .long (dgF (r_dg3 xs ys tb i) (dgO (r_dg3 xs ys tb) 4 (dgO (r_dg2 n t xs ys hs tb) 5 (dgF (r_dg1 n t xs ys tb sg fl) 1433 7) n) i) 4)), (3, .int (nI i)), (0, .ref h)] := by rw [heq_j] at hl; exact hl
                          refine lv_iinc (v := nI (i + 1)) (lv' := [(3, .int (nI (i + 1))), (4, .int (nI 4)), (1, .long (dgF (r_dg3 xs ys tb i) (dgO (r_dg3 xs ys tb) 4 (dgO (r_dg2 n t xs ys hs tb) 5 (dgF (r_dg1 n t xs ys tb sg fl) 1433 7) n) i) 4)), (0, .ref h)]) hx hb dX2_digest_122 hl (k := 2) rfl (nI_1 _) (by decide) rfl (fun ls hl => ?_)
                          refine lv_goto (tgt := 84) hx hb dX2_digest_125 (by decide) ?_
                          have hl := lv_sub (l' := [(3, .int (nI (i + 1))), (1, .long (dgF (r_dg3 xs ys tb i) (dgO (r_dg3 xs ys tb) 4 (dgO (r_dg2 n t xs ys hs tb) 5 (dgF (r_dg1 n t xs ys tb sg fl) 1433 7) n) i) 4)), (0, .ref h)]) hl [0, 2, 3] rfl
                          have hl : lv_has ls 6 [(3, .int (nI (i + 1))), (1, .long (dgO (r_dg3 xs ys tb) 4 (dgO (r_dg2 n t xs ys hs tb) 5 (dgF (r_dg1 n t xs ys tb sg fl) 1433 7) n) (i + 1))), (0, .ref h)] := by
                            have e9 : [(3, .int (nI (i + 1))), (1, .long (dgF (r_dg3 xs ys tb i) (dgO (r_dg3 xs ys tb) 4 (dgO (r_dg2 n t xs ys hs tb) 5 (dgF (r_dg1 n t xs ys tb sg fl) 1433 7) n) i) 4)), (0, .ref h)] = ([(3, .int (nI (i + 1))), (1, .long (dgO (r_dg3 xs ys tb) 4 (dgO (r_dg2 n t xs ys hs tb) 5 (dgF (r_dg1 n t xs ys tb sg fl) 1433 7) n) (i + 1))), (0, .ref h)] : List (Nat × Value)) := by rfl
                            rw [← e9]; exact hl
                          exact ih_8 (i + 1) (by omega) (by omega) _ hl
                        · have hlt_j : j < 4 := nI_nle_lt (by omega) (by omega) c_22
                          refine lv_lload_n hx hb dX2_digest_101 rfl (lv_at hl 1 rfl) ?_
                          refine lv_ldc2 hx hb hown (hts _ lc191_X2_digest) dX2_digest_102 ?_
                          refine lv_lmul hx hb dX2_digest_105 ?_
                          refine lv_aload_n hx hb dX2_digest_106 rfl (lv_at hl 3 rfl) ?_
                          refine lv_iload_n hx hb dX2_digest_107 rfl (lv_at hl 2 rfl) ?_
                          refine lv_iload hx hb dX2_digest_108 (lv_at hl 0 rfl) ?_
                          refine rd_cVi (As := [.int (nI i), .int (nI j)]) (rest := [.long ((dgF (r_dg3 xs ys tb i) (dgO (r_dg3 xs ys tb) 4 (dgO (r_dg2 n t xs ys hs tb) 5 (dgF (r_dg1 n t xs ys tb sg fl) 1433 7) n) i) j) * 31)]) F (c_X2_triangleTold l dC dI cI cZ cY h qx qy qh qt qs rw 0 n xs ys hs t tb sg fl (nI i) (nI j) (vp_in_nI (by omega) (by decide)) (hok i hlt_i).1 (hok i hlt_i).2.1 (hok i hlt_i).2.2) (cwV 2 hts gX2_digest_X2_triangleTold rfl rfl rfl hd_X2_triangleTold ⟨Nat.le_of_ble_eq_true rfl, Nat.le_of_ble_eq_true rfl⟩) hP hK (va_recv hK hP (ci := 2) (q0 := 0) rfl rfl) rfl hl.1 rfl (lv_room (Nat.le_of_ble_eq_true rfl)) dX2_digest_110 ⟨Nat.zero_le _, Nat.zero_le _⟩ ?_
                          refine lv_i2l hx hb dX2_digest_113 rfl ?_
                          refine lv_ladd hx hb dX2_digest_114 ?_
                          refine lv_lstore_n (lv' := [(1, .long (((dgF (r_dg3 xs ys tb i) (dgO (r_dg3 xs ys tb) 4 (dgO (r_dg2 n t xs ys hs tb) 5 (dgF (r_dg1 n t xs ys tb sg fl) 1433 7) n) i) j) * 31) + ((r_triangleTold xs ys tb (nI i) (nI j)).toInt64))), (4, .int (nI j)), (3, .int (nI i)), (0, .ref h)]) hx hb dX2_digest_115 rfl hl (by decide) rfl (fun ls hl => ?_)
                          refine lv_iinc (v := nI (j + 1)) (lv' := [(4, .int (nI (j + 1))), (1, .long (((dgF (r_dg3 xs ys tb i) (dgO (r_dg3 xs ys tb) 4 (dgO (r_dg2 n t xs ys hs tb) 5 (dgF (r_dg1 n t xs ys tb sg fl) 1433 7) n) i) j) * 31) + ((r_triangleTold xs ys tb (nI i) (nI j)).toInt64))), (3, .int (nI i)), (0, .ref h)]) hx hb dX2_digest_116 hl (k := 1) rfl (nI_1 _) (by decide) rfl (fun ls hl => ?_)
                          refine lv_goto (tgt := 95) hx hb dX2_digest_119 (by decide) ?_
                          have hl := lv_sub (l' := [(4, .int (nI (j + 1))), (1, .long (((dgF (r_dg3 xs ys tb i) (dgO (r_dg3 xs ys tb) 4 (dgO (r_dg2 n t xs ys hs tb) 5 (dgF (r_dg1 n t xs ys tb sg fl) 1433 7) n) i) j) * 31) + ((r_triangleTold xs ys tb (nI i) (nI j)).toInt64))), (3, .int (nI i)), (0, .ref h)]) hl [0, 1, 2, 3] rfl
                          have hl : lv_has ls 6 [(4, .int (nI (j + 1))), (1, .long (dgF (r_dg3 xs ys tb i) (dgO (r_dg3 xs ys tb) 4 (dgO (r_dg2 n t xs ys hs tb) 5 (dgF (r_dg1 n t xs ys tb sg fl) 1433 7) n) i) (j + 1))), (3, .int (nI i)), (0, .ref h)] := by
                            have e9 : [(4, .int (nI (j + 1))), (1, .long (((dgF (r_dg3 xs ys tb i) (dgO (r_dg3 xs ys tb) 4 (dgO (r_dg2 n t xs ys hs tb) 5 (dgF (r_dg1 n t xs ys tb sg fl) 1433 7) n) i) j) * 31) + ((r_triangleTold xs ys tb (nI i) (nI j)).toInt64))), (3, .int (nI i)), (0, .ref h)] = ([(4, .int (nI (j + 1))), (1, .long (dgF (r_dg3 xs ys tb i) (dgO (r_dg3 xs ys tb) 4 (dgO (r_dg2 n t xs ys hs tb) 5 (dgF (r_dg1 n t xs ys tb sg fl) 1433 7) n) i) (j + 1))), (3, .int (nI i)), (0, .ref h)] : List (Nat × Value)) := by rfl
                            rw [← e9]; exact hl
                          exact ih_21 (j + 1) (by omega) (by omega) _ hl
                    have hl := lv_sub (l' := [(4, .int 0), (1, .long (dgO (r_dg3 xs ys tb) 4 (dgO (r_dg2 n t xs ys hs tb) 5 (dgF (r_dg1 n t xs ys tb sg fl) 1433 7) n) i)), (3, .int (nI i)), (0, .ref h)]) hl [0, 2, 1, 3] rfl
                    have hl : lv_has ls 6 [(4, .int (nI 0)), (1, .long (dgF (r_dg3 xs ys tb i) (dgO (r_dg3 xs ys tb) 4 (dgO (r_dg2 n t xs ys hs tb) 5 (dgF (r_dg1 n t xs ys tb sg fl) 1433 7) n) i) 0)), (3, .int (nI i)), (0, .ref h)] := by
                      have e9 : [(4, .int 0), (1, .long (dgO (r_dg3 xs ys tb) 4 (dgO (r_dg2 n t xs ys hs tb) 5 (dgF (r_dg1 n t xs ys tb sg fl) 1433 7) n) i)), (3, .int (nI i)), (0, .ref h)] = ([(4, .int (nI 0)), (1, .long (dgF (r_dg3 xs ys tb i) (dgO (r_dg3 xs ys tb) 4 (dgO (r_dg2 n t xs ys hs tb) 5 (dgF (r_dg1 n t xs ys tb sg fl) 1433 7) n) i) 0)), (3, .int (nI i)), (0, .ref h)] : List (Nat × Value)) := by rfl
                      rw [← e9]; exact hl
                    exact hL95 _ 0 (Nat.lt_succ_self _) (by omega) _ hl
              have hl := lv_sub (l' := [(3, .int 0), (1, .long (dgO (r_dg2 n t xs ys hs tb) 5 (dgF (r_dg1 n t xs ys tb sg fl) 1433 7) n)), (0, .ref h)]) hl [0, 1, 2] rfl
              have hl : lv_has ls 6 [(3, .int (nI 0)), (1, .long (dgO (r_dg3 xs ys tb) 4 (dgO (r_dg2 n t xs ys hs tb) 5 (dgF (r_dg1 n t xs ys tb sg fl) 1433 7) n) 0)), (0, .ref h)] := by
                have e9 : [(3, .int 0), (1, .long (dgO (r_dg2 n t xs ys hs tb) 5 (dgF (r_dg1 n t xs ys tb sg fl) 1433 7) n)), (0, .ref h)] = ([(3, .int (nI 0)), (1, .long (dgO (r_dg3 xs ys tb) 4 (dgO (r_dg2 n t xs ys hs tb) 5 (dgF (r_dg1 n t xs ys tb sg fl) 1433 7) n) 0)), (0, .ref h)] : List (Nat × Value)) := by rfl
                rw [← e9]; exact hl
              exact hL84 _ 0 (Nat.lt_succ_self _) (by omega) _ hl
            · have hlt_i : i < n := nI_nle_lt (by omega) (by omega) c_6
              refine lv_iconst (v := 0) hx hb dX2_digest_46 (by decide) ?_
              refine lv_istore (lv' := [(4, .int 0), (3, .int (nI i)), (1, .long (dgO (r_dg2 n t xs ys hs tb) 5 (dgF (r_dg1 n t xs ys tb sg fl) 1433 7) i)), (0, .ref h)]) hx hb dX2_digest_47 hl (by decide) rfl (fun ls hl => ?_)
              have hL49 : ∀ (k_23 : Nat) (j : Nat), (5 - j) < k_23 → (j ≤ 5) → ∀ ls : Array Slot, lv_has ls 6 [(4, .int (nI j)), (1, .long (dgF (r_dg2 n t xs ys hs tb i) (dgO (r_dg2 n t xs ys hs tb) 5 (dgF (r_dg1 n t xs ys tb sg fl) 1433 7) i) j)), (3, .int (nI i)), (0, .ref h)] → W p l e ({ frames := 8, cells := 0, slots := 0, locals := 188 } : Room) s m ([.ref h] : List Value).toArray below meth c H locs 0 0 (MQ below (wrQl (dC, dI) (gTY cI cZ cY) (r_digest n t xs ys hs tb sg fl) (wR cI cZ cY h qx qy qh qt qs rw 0 n xs ys hs t tb sg fl) A) ([.ref h] : List Value).toArray s 0 0 A) (F0 m 49 ls []) := by
                intro k_23
                induction k_23 with
                | zero => intro j hk; exact absurd hk (Nat.not_lt_zero _)
                | succ k_23 ih_24 =>
                  intro j hk_49 hi_j ls hl
                  refine lv_iload hx hb dX2_digest_49 (lv_at hl 0 rfl) ?_
                  refine lv_iconst (v := 5) hx hb dX2_digest_51 (by decide) ?_
                  refine lv_icmp_ge (tgt := 76) hx hb dX2_digest_52 (by decide) (fun c_25 => ?_) (fun c_25 => ?_)
                  · have hge_j : 5 ≤ j := nI_le_le (by omega) (by omega) c_25
                    have heq_j : j = 5 := by omega
                    have hl : lv_has ls 6 [(4, .int (nI 5)), (1, .long (dgF (r_dg2 n t xs ys hs tb i) (dgO (r_dg2 n t xs ys hs tb) 5 (dgF (r_dg1 n t xs ys tb sg fl) 1433 7) i) 5)), (3, .int (nI i)), (0, .ref h)] := by rw [heq_j] at hl; exact hl
                    refine lv_iinc (v := nI (i + 1)) (lv' := [(3, .int (nI (i + 1))), (4, .int (nI 5)), (1, .long (dgF (r_dg2 n t xs ys hs tb i) (dgO (r_dg2 n t xs ys hs tb) 5 (dgF (r_dg1 n t xs ys tb sg fl) 1433 7) i) 5)), (0, .ref h)]) hx hb dX2_digest_76 hl (k := 2) rfl (nI_1 _) (by decide) rfl (fun ls hl => ?_)
                    refine lv_goto (tgt := 38) hx hb dX2_digest_79 (by decide) ?_
                    have hl := lv_sub (l' := [(3, .int (nI (i + 1))), (1, .long (dgF (r_dg2 n t xs ys hs tb i) (dgO (r_dg2 n t xs ys hs tb) 5 (dgF (r_dg1 n t xs ys tb sg fl) 1433 7) i) 5)), (0, .ref h)]) hl [0, 2, 3] rfl
                    have hl : lv_has ls 6 [(3, .int (nI (i + 1))), (1, .long (dgO (r_dg2 n t xs ys hs tb) 5 (dgF (r_dg1 n t xs ys tb sg fl) 1433 7) (i + 1))), (0, .ref h)] := by
                      have e9 : [(3, .int (nI (i + 1))), (1, .long (dgF (r_dg2 n t xs ys hs tb i) (dgO (r_dg2 n t xs ys hs tb) 5 (dgF (r_dg1 n t xs ys tb sg fl) 1433 7) i) 5)), (0, .ref h)] = ([(3, .int (nI (i + 1))), (1, .long (dgO (r_dg2 n t xs ys hs tb) 5 (dgF (r_dg1 n t xs ys tb sg fl) 1433 7) (i + 1))), (0, .ref h)] : List (Nat × Value)) := by rfl
                      rw [← e9]; exact hl
                    exact ih_5 (i + 1) (by omega) (by omega) _ hl
                  · have hlt_j : j < 5 := nI_nle_lt (by omega) (by omega) c_25
                    refine lv_lload_n hx hb dX2_digest_55 rfl (lv_at hl 1 rfl) ?_
                    refine lv_ldc2 hx hb hown (hts _ lc191_X2_digest) dX2_digest_56 ?_
                    refine lv_lmul hx hb dX2_digest_59 ?_
                    refine lv_aload_n hx hb dX2_digest_60 rfl (lv_at hl 3 rfl) ?_
                    refine lv_iload_n hx hb dX2_digest_61 rfl (lv_at hl 2 rfl) ?_
                    refine lv_iload hx hb dX2_digest_62 (lv_at hl 0 rfl) ?_
                    refine rd_cVi (As := [.int (nI i), .int (nI j)]) (rest := [.long ((dgF (r_dg2 n t xs ys hs tb i) (dgO (r_dg2 n t xs ys hs tb) 5 (dgF (r_dg1 n t xs ys tb sg fl) 1433 7) i) j) * 31)]) F (c_X2_cairnTold l dC dI cI cZ cY h qx qy qh qt qs rw 0 n xs ys hs t tb sg fl (nI i) (nI j) ht hn (vp_in_nI (by omega) (by decide))) (cwV 2 hts gX2_digest_X2_cairnTold rfl rfl rfl hd_X2_cairnTold ⟨Nat.le_of_ble_eq_true rfl, Nat.le_of_ble_eq_true rfl⟩) hP hK (va_recv hK hP (ci := 2) (q0 := 0) rfl rfl) rfl hl.1 rfl (lv_room (Nat.le_of_ble_eq_true rfl)) dX2_digest_64 ⟨Nat.zero_le _, Nat.zero_le _⟩ ?_
                    refine lv_i2l hx hb dX2_digest_67 rfl ?_
                    refine lv_ladd hx hb dX2_digest_68 ?_
                    refine lv_lstore_n (lv' := [(1, .long (((dgF (r_dg2 n t xs ys hs tb i) (dgO (r_dg2 n t xs ys hs tb) 5 (dgF (r_dg1 n t xs ys tb sg fl) 1433 7) i) j) * 31) + ((r_cairnTold n t xs ys hs tb (nI i) (nI j)).toInt64))), (4, .int (nI j)), (3, .int (nI i)), (0, .ref h)]) hx hb dX2_digest_69 rfl hl (by decide) rfl (fun ls hl => ?_)
                    refine lv_iinc (v := nI (j + 1)) (lv' := [(4, .int (nI (j + 1))), (1, .long (((dgF (r_dg2 n t xs ys hs tb i) (dgO (r_dg2 n t xs ys hs tb) 5 (dgF (r_dg1 n t xs ys tb sg fl) 1433 7) i) j) * 31) + ((r_cairnTold n t xs ys hs tb (nI i) (nI j)).toInt64))), (3, .int (nI i)), (0, .ref h)]) hx hb dX2_digest_70 hl (k := 1) rfl (nI_1 _) (by decide) rfl (fun ls hl => ?_)
                    refine lv_goto (tgt := 49) hx hb dX2_digest_73 (by decide) ?_
                    have hl := lv_sub (l' := [(4, .int (nI (j + 1))), (1, .long (((dgF (r_dg2 n t xs ys hs tb i) (dgO (r_dg2 n t xs ys hs tb) 5 (dgF (r_dg1 n t xs ys tb sg fl) 1433 7) i) j) * 31) + ((r_cairnTold n t xs ys hs tb (nI i) (nI j)).toInt64))), (3, .int (nI i)), (0, .ref h)]) hl [0, 1, 2, 3] rfl
                    have hl : lv_has ls 6 [(4, .int (nI (j + 1))), (1, .long (dgF (r_dg2 n t xs ys hs tb i) (dgO (r_dg2 n t xs ys hs tb) 5 (dgF (r_dg1 n t xs ys tb sg fl) 1433 7) i) (j + 1))), (3, .int (nI i)), (0, .ref h)] := by
                      have e9 : [(4, .int (nI (j + 1))), (1, .long (((dgF (r_dg2 n t xs ys hs tb i) (dgO (r_dg2 n t xs ys hs tb) 5 (dgF (r_dg1 n t xs ys tb sg fl) 1433 7) i) j) * 31) + ((r_cairnTold n t xs ys hs tb (nI i) (nI j)).toInt64))), (3, .int (nI i)), (0, .ref h)] = ([(4, .int (nI (j + 1))), (1, .long (dgF (r_dg2 n t xs ys hs tb i) (dgO (r_dg2 n t xs ys hs tb) 5 (dgF (r_dg1 n t xs ys tb sg fl) 1433 7) i) (j + 1))), (3, .int (nI i)), (0, .ref h)] : List (Nat × Value)) := by rfl
                      rw [← e9]; exact hl
                    exact ih_24 (j + 1) (by omega) (by omega) _ hl
              have hl := lv_sub (l' := [(4, .int 0), (1, .long (dgO (r_dg2 n t xs ys hs tb) 5 (dgF (r_dg1 n t xs ys tb sg fl) 1433 7) i)), (3, .int (nI i)), (0, .ref h)]) hl [0, 2, 1, 3] rfl
              have hl : lv_has ls 6 [(4, .int (nI 0)), (1, .long (dgF (r_dg2 n t xs ys hs tb i) (dgO (r_dg2 n t xs ys hs tb) 5 (dgF (r_dg1 n t xs ys tb sg fl) 1433 7) i) 0)), (3, .int (nI i)), (0, .ref h)] := by
                have e9 : [(4, .int 0), (1, .long (dgO (r_dg2 n t xs ys hs tb) 5 (dgF (r_dg1 n t xs ys tb sg fl) 1433 7) i)), (3, .int (nI i)), (0, .ref h)] = ([(4, .int (nI 0)), (1, .long (dgF (r_dg2 n t xs ys hs tb i) (dgO (r_dg2 n t xs ys hs tb) 5 (dgF (r_dg1 n t xs ys tb sg fl) 1433 7) i) 0)), (3, .int (nI i)), (0, .ref h)] : List (Nat × Value)) := by rfl
                rw [← e9]; exact hl
              exact hL49 _ 0 (Nat.lt_succ_self _) (by omega) _ hl
        have hl := lv_sub (l' := [(3, .int 0), (1, .long (dgF (r_dg1 n t xs ys tb sg fl) 1433 7)), (0, .ref h)]) hl [0, 1, 2] rfl
        have hl : lv_has ls 6 [(3, .int (nI 0)), (1, .long (dgO (r_dg2 n t xs ys hs tb) 5 (dgF (r_dg1 n t xs ys tb sg fl) 1433 7) 0)), (0, .ref h)] := by
          have e9 : [(3, .int 0), (1, .long (dgF (r_dg1 n t xs ys tb sg fl) 1433 7)), (0, .ref h)] = ([(3, .int (nI 0)), (1, .long (dgO (r_dg2 n t xs ys hs tb) 5 (dgF (r_dg1 n t xs ys tb sg fl) 1433 7) 0)), (0, .ref h)] : List (Nat × Value)) := by rfl
          rw [← e9]; exact hl
        exact hL38 _ 0 (Nat.lt_succ_self _) (by omega) _ hl
      · have hlt_i : i < 7 := nI_nle_lt (by omega) (by omega) c_3
        refine lv_lload_n hx hb dX2_digest_17 rfl (lv_at hl 1 rfl) ?_
        refine lv_ldc2 hx hb hown (hts _ lc191_X2_digest) dX2_digest_18 ?_
        refine lv_lmul hx hb dX2_digest_21 ?_
        refine lv_aload_n hx hb dX2_digest_22 rfl (lv_at hl 2 rfl) ?_
        refine lv_iload_n hx hb dX2_digest_23 rfl (lv_at hl 0 rfl) ?_
        refine rd_cVi (As := [.int (nI i)]) (rest := [.long ((dgF (r_dg1 n t xs ys tb sg fl) 1433 i) * 31)]) F (c_X2_counted l dC dI cI cZ cY h qx qy qh qt qs rw 0 n xs ys hs t tb sg fl (nI i) ht hn hFF) (cwV 1 hts gX2_digest_X2_counted rfl rfl rfl hd_X2_counted ⟨Nat.le_of_ble_eq_true rfl, Nat.le_of_ble_eq_true rfl⟩) hP hK (va_recv hK hP (ci := 2) (q0 := 0) rfl rfl) rfl hl.1 rfl (lv_room (Nat.le_of_ble_eq_true rfl)) dX2_digest_24 ⟨Nat.zero_le _, Nat.zero_le _⟩ ?_
        refine lv_i2l hx hb dX2_digest_27 rfl ?_
        refine lv_ladd hx hb dX2_digest_28 ?_
        refine lv_lstore_n (lv' := [(1, .long (((dgF (r_dg1 n t xs ys tb sg fl) 1433 i) * 31) + ((r_counted n t xs ys tb sg fl (nI i)).toInt64))), (3, .int (nI i)), (0, .ref h)]) hx hb dX2_digest_29 rfl hl (by decide) rfl (fun ls hl => ?_)
        refine lv_iinc (v := nI (i + 1)) (lv' := [(3, .int (nI (i + 1))), (1, .long (((dgF (r_dg1 n t xs ys tb sg fl) 1433 i) * 31) + ((r_counted n t xs ys tb sg fl (nI i)).toInt64))), (0, .ref h)]) hx hb dX2_digest_30 hl (k := 1) rfl (nI_1 _) (by decide) rfl (fun ls hl => ?_)
        refine lv_goto (tgt := 11) hx hb dX2_digest_33 (by decide) ?_
        have hl := lv_sub (l' := [(3, .int (nI (i + 1))), (1, .long (((dgF (r_dg1 n t xs ys tb sg fl) 1433 i) * 31) + ((r_counted n t xs ys tb sg fl (nI i)).toInt64))), (0, .ref h)]) hl [0, 1, 2] rfl
        have hl : lv_has ls 6 [(3, .int (nI (i + 1))), (1, .long (dgF (r_dg1 n t xs ys tb sg fl) 1433 (i + 1))), (0, .ref h)] := by
          have e9 : [(3, .int (nI (i + 1))), (1, .long (((dgF (r_dg1 n t xs ys tb sg fl) 1433 i) * 31) + ((r_counted n t xs ys tb sg fl (nI i)).toInt64))), (0, .ref h)] = ([(3, .int (nI (i + 1))), (1, .long (dgF (r_dg1 n t xs ys tb sg fl) 1433 (i + 1))), (0, .ref h)] : List (Nat × Value)) := by rfl
          rw [← e9]; exact hl
        exact ih_2 (i + 1) (by omega) (by omega) _ hl
  have hl := lv_sub (l' := [(3, .int 0), (1, .long 1433), (0, .ref h)]) hl [0, 1, 2] rfl
  have hl : lv_has ls 6 [(3, .int (nI 0)), (1, .long (dgF (r_dg1 n t xs ys tb sg fl) 1433 0)), (0, .ref h)] := by
    have e9 : [(3, .int 0), (1, .long 1433), (0, .ref h)] = ([(3, .int (nI 0)), (1, .long (dgF (r_dg1 n t xs ys tb sg fl) 1433 0)), (0, .ref h)] : List (Nat × Value)) := by rfl
    rw [← e9]; exact hl
  exact hL11 _ 0 (Nat.lt_succ_self _) (by omega) _ hl
theorem hd_X2_way : yX2_way.cls = RX2 ∧ yX2_way.cls ≠ "java/lang/invoke/MethodHandle" ∧ yX2_way.cls ≠ "java/lang/invoke/VarHandle" ∧ (parseMethodDescriptor yX2_way.desc).map (fun d => d.parameters.length) = some 2 := by decide +kernel
