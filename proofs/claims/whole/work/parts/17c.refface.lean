theorem in_X2_way_X2 : ∀ w ∈ wsX20, w ∈ wsX2_way := by decide +kernel
theorem fl_X2_way_35 : (Cond.fieldLink RX2 35 "MoorTrianglesModel" "thrown" "I") ∈ wsX2_way := by decide +kernel
theorem na_X2_way : (Cond.arrayClass .int) ∈ wsX2_way := by decide +kernel
theorem fl_X2_way_7 : (Cond.fieldLink RX2 7 "MoorTrianglesModel" "cairns" "I") ∈ wsX2_way := by decide +kernel
set_option maxHeartbeats 4000000 in
set_option maxRecDepth 100000 in
theorem c_X2_way (l : Launch) (dC : Nat → ClassId) (dI : Nat → Nat → Nat) (cI cZ cY : ClassId) (h qx qy qh qt qs : Nat) (rw : Nat → Nat) (th : Int32) (n : Nat) (xs ys hs : Nat → Int32) (t : Nat) (tb : Nat → Int32) (sg : Nat → Nat → Int32) (fl : Int32) (a : Int32) (b : Int32) (sz : Nat) (K : Nat) (ht : t ≤ 36) (hn : n ≤ 16) (hn1 : 1 ≤ n) (hKw : r_isIn a 0 (nI n - 1) = true → r_isIn b 0 (nI n - 1) = true → r_okW n t tb a b K) : Met l yX2_way wsX2_way ({ frames := 4, cells := 1, slots := 16, locals := 91 }) (va_Pc [.ref h, .int a, .int b] (wrP (dC, dI) (gTY cI cZ cY) (wR cI cZ cY h qx qy qh qt qs rw th n xs ys hs t tb sg fl) sz)) (wrQi (dC, dI) (gTY cI cZ cY) (r_b2 (r_isIn a 0 (nI n - 1)) (r_isIn b 0 (nI n - 1)) (r_wf t tb n (r_wf0 a 16) K b.toNatClampNeg) 0) (wR cI cZ cY h qx qy qh qt qs rw (r_b2 (r_isIn a 0 (nI n - 1)) (r_isIn b 0 (nI n - 1)) 0 1) n xs ys hs t tb sg fl) (va_A (wR cI cZ cY h qx qy qh qt qs rw th n xs ys hs t tb sg fl) sz)) 1 16 (va_A (wR cI cZ cY h qx qy qh qt qs rw th n xs ys hs t tb sg fl) sz) := by
  refine wr_start (cc := cX2_way) (maxL := 7) (ret := (some .int)) (Q0 := wrQi (dC, dI) (gTY cI cZ cY) (r_b2 (r_isIn a 0 (nI n - 1)) (r_isIn b 0 (nI n - 1)) (r_wf t tb n (r_wf0 a 16) K b.toNatClampNeg) 0) (wR cI cZ cY h qx qy qh qt qs rw (r_b2 (r_isIn a 0 (nI n - 1)) (r_isIn b 0 (nI n - 1)) 0 1) n xs ys hs t tb sg fl)) RX2 (by decide) rfl rfl (Nat.le_of_ble_eq_true rfl) ?_
  intro p e s m below meth c ⟨hx, hb, hr, hml, hown, hts, hlocks, hin⟩ hP hK A hD hA hS ls hl
  have F : CallFix p m c cX2_way 7 s ([.ref h, .int a, .int b] : List Value).toArray wsX2_way RX2 := ⟨hx, hb, hml, hown, hts⟩
  have hl : lv_has ls 7 [(0, .ref h), (1, .int a), (2, .int b)] := hl
  refine lv_aload_n hx hb dX2_way_0 rfl (lv_at hl 0 rfl) ?_
  refine lv_iconst (v := 0) hx hb dX2_way_1 (by decide) ?_
  refine va_put (D := (dC, dI)) (ci := 2) (v := .int 0) (ty := .int) (C := RX2) (T := TX2) (N := 9) hx hb hts in_X2_way_X2 tyX2 tyX2_ok nmX2 hown hK hP hD hS 0 rfl rfl 0 (by decide) (hts (.fieldLink RX2 35 "MoorTrianglesModel" "thrown" "I") fl_X2_way_35) (fun _ h9 => h9) rfl (by decide +kernel) rfl rfl (Nat.le_of_ble_eq_true rfl) dX2_way_2 (fun H locs hP hD hS => ?_)
  have hP : va_P (dC, dI) vwCl (wR cI cZ cY h qx qy qh qt qs rw 0 n xs ys hs t tb sg fl) H := hP
  have hD : va_D A (wR cI cZ cY h qx qy qh qt qs rw 0 n xs ys hs t tb sg fl) := hD
  refine lv_aload_n hx hb dX2_way_5 rfl (lv_at hl 0 rfl) ?_
  refine lv_iload_n hx hb dX2_way_6 rfl (lv_at hl 1 rfl) ?_
  refine rd_cVi (As := [.int a]) (rest := []) F (c_X2_isCairn l dC dI cI cZ cY h qx qy qh qt qs rw 0 n xs ys hs t tb sg fl a) (cwV 1 hts gX2_way_X2_isCairn rfl rfl rfl hd_X2_isCairn ⟨Nat.le_of_ble_eq_true rfl, Nat.le_of_ble_eq_true rfl⟩) hP hK (va_recv hK hP (ci := 2) (q0 := 0) rfl rfl) rfl hl.1 rfl (lv_room (Nat.le_of_ble_eq_true rfl)) dX2_way_7 ⟨Nat.le_of_ble_eq_true rfl, Nat.le_of_ble_eq_true rfl⟩ ?_
  refine lv_if_eqB (tgt := 21) hx hb dX2_way_10 (by decide) (fun c_1 => ?_) (fun c_1 => ?_)
  · refine lv_aload_n hx hb dX2_way_21 rfl (lv_at hl 0 rfl) ?_
    refine lv_iconst (v := 1) hx hb dX2_way_22 (by decide) ?_
    refine wx_cVi (As := [.int 1]) (rest := []) F (c_X2_fail l dC dI cI cZ cY h qx qy qh qt qs rw 0 n xs ys hs t tb sg fl 1 H.size) (cwV 1 hts gX2_way_X2_fail rfl rfl rfl hd_X2_fail ⟨Nat.le_of_ble_eq_true rfl, Nat.le_of_ble_eq_true rfl⟩) hP hK hD hS hA (va_recv hK hP (ci := 2) (q0 := 0) rfl rfl) rfl hl.1 rfl (lv_room (Nat.le_of_ble_eq_true rfl)) dX2_way_23 ⟨Nat.le_of_ble_eq_true rfl, Nat.le_of_ble_eq_true rfl⟩ (fun H locs hP hD hS => ?_)
    have hP : va_P (dC, dI) vwCl (wR cI cZ cY h qx qy qh qt qs rw 1 n xs ys hs t tb sg fl) H := hP
    have hD : va_D A (wR cI cZ cY h qx qy qh qt qs rw 1 n xs ys hs t tb sg fl) := hD
    have e_th : (r_b2 (r_isIn a 0 (nI n - 1)) (r_isIn b 0 (nI n - 1)) 0 1 : Int32) = 1 := by first | (simp only [r_b2, c_1]; done) | (simp only [r_b2, c_1]; rfl) | (simp [r_b2, c_1]; done)
    have hP : va_P (dC, dI) vwCl (wR cI cZ cY h qx qy qh qt qs rw (r_b2 (r_isIn a 0 (nI n - 1)) (r_isIn b 0 (nI n - 1)) 0 1) n xs ys hs t tb sg fl) H := by rw [e_th]; exact hP
    have hD : va_D A (wR cI cZ cY h qx qy qh qt qs rw (r_b2 (r_isIn a 0 (nI n - 1)) (r_isIn b 0 (nI n - 1)) 0 1) n xs ys hs t tb sg fl) := by rw [e_th]; exact hD
    refine W.widen (k := 1) (n := 16) (by omega) (by omega) ?_
    exact wr_iret hx hb hr hlocks (by simp only [r_b2, c_1]; rfl) hP hK hD hS dX2_way_26
  · refine lv_aload_n hx hb dX2_way_13 rfl (lv_at hl 0 rfl) ?_
    refine lv_iload_n hx hb dX2_way_14 rfl (lv_at hl 2 rfl) ?_
    refine rd_cVi (As := [.int b]) (rest := []) F (c_X2_isCairn l dC dI cI cZ cY h qx qy qh qt qs rw 0 n xs ys hs t tb sg fl b) (cwV 1 hts gX2_way_X2_isCairn rfl rfl rfl hd_X2_isCairn ⟨Nat.le_of_ble_eq_true rfl, Nat.le_of_ble_eq_true rfl⟩) hP hK (va_recv hK hP (ci := 2) (q0 := 0) rfl rfl) rfl hl.1 rfl (lv_room (Nat.le_of_ble_eq_true rfl)) dX2_way_15 ⟨Nat.le_of_ble_eq_true rfl, Nat.le_of_ble_eq_true rfl⟩ ?_
    refine lv_if_neB (tgt := 27) hx hb dX2_way_18 (by decide) (fun c_2 => ?_) (fun c_2 => ?_)
    · obtain ⟨hK0, hK1, hK2⟩ := hKw c_1 c_2
      refine lv_bipush (v := 16) hx hb dX2_way_27 (by decide) ?_
      refine rg_newi hx hb (hts _ na_X2_way) hK 0 rfl hP hD hS hA (n := 16) (N' := 16) (by decide) (by rfl) (Nat.le_of_ble_eq_true rfl) (Nat.le_of_ble_eq_true rfl) (Nat.le_of_ble_eq_true rfl) dX2_way_29 (fun q9 H hP hD hS => ?_)
      have hP : va_P (dC, dI) vwCl (wR cI cZ cY h qx qy qh qt qs rw 0 n xs ys hs t tb sg fl ++ [(q9, .inl (cI, 16, .inl (fun _ => 0)))]) H := hP
      have hD : va_D A (wR cI cZ cY h qx qy qh qt qs rw 0 n xs ys hs t tb sg fl ++ [(q9, .inl (cI, 16, .inl (fun _ => 0)))]) := hD
      refine lv_astore_n (lv' := [(3, .ref q9), (0, .ref h), (1, .int a), (2, .int b)]) hx hb dX2_way_31 rfl hl (by decide) rfl (fun ls hl => ?_)
      refine lv_iconst (v := 0) hx hb dX2_way_32 (by decide) ?_
      refine lv_istore (lv' := [(4, .int 0), (3, .ref q9), (0, .ref h), (1, .int a), (2, .int b)]) hx hb dX2_way_33 hl (by decide) rfl (fun ls hl => ?_)
      have hL35 : ∀ (k_3 : Nat) (i : Nat), (16 - i) < k_3 → (i ≤ 16) → ∀ ls : Array Slot, lv_has ls 7 [(4, .int (nI i)), (3, .ref q9), (0, .ref h), (1, .int a), (2, .int b)] → ∀ (H : Heap) (locs : List Loc), va_P (dC, dI) vwCl (wR cI cZ cY h qx qy qh qt qs rw 0 n xs ys hs t tb sg fl ++ [(q9, .inl (cI, 16, .inl (r_wf0 a i)))]) H → va_D A (wR cI cZ cY h qx qy qh qt qs rw 0 n xs ys hs t tb sg fl ++ [(q9, .inl (cI, 16, .inl (r_wf0 a i)))]) → va_S A s.heap H locs → W p l e ({ frames := 4, cells := 1, slots := 16, locals := 91 } : Room) s m ([.ref h, .int a, .int b] : List Value).toArray below meth c H locs (0 + 1) (0 + 16) (MQ below (wrQi (dC, dI) (gTY cI cZ cY) (r_b2 (r_isIn a 0 (nI n - 1)) (r_isIn b 0 (nI n - 1)) (r_wf t tb n (r_wf0 a 16) K b.toNatClampNeg) 0) (wR cI cZ cY h qx qy qh qt qs rw (r_b2 (r_isIn a 0 (nI n - 1)) (r_isIn b 0 (nI n - 1)) 0 1) n xs ys hs t tb sg fl) A) ([.ref h, .int a, .int b] : List Value).toArray s 1 16 A) (F0 m 35 ls []) := by
        intro k_3
        induction k_3 with
        | zero => intro i hk; exact absurd hk (Nat.not_lt_zero _)
        | succ k_3 ih_4 =>
          intro i hk_35 hi_i ls hl H locs hP hD hS
          refine lv_iload hx hb dX2_way_35 (lv_at hl 0 rfl) ?_
          refine lv_bipush (v := 16) hx hb dX2_way_37 (by decide) ?_
          refine lv_icmp_ge (tgt := 63) hx hb dX2_way_39 (by decide) (fun c_5 => ?_) (fun c_5 => ?_)
          · have hge_i : 16 ≤ i := nI_le_le (by omega) (by omega) c_5
            have heq_i : i = 16 := by omega
            have hl : lv_has ls 7 [(4, .int (nI 16)), (3, .ref q9), (0, .ref h), (1, .int a), (2, .int b)] := by rw [heq_i] at hl; exact hl
            have hP : va_P (dC, dI) vwCl (wR cI cZ cY h qx qy qh qt qs rw 0 n xs ys hs t tb sg fl ++ [(q9, .inl (cI, 16, .inl (r_wf0 a 16)))]) H := by rw [heq_i] at hP; exact hP
            have hD : va_D A (wR cI cZ cY h qx qy qh qt qs rw 0 n xs ys hs t tb sg fl ++ [(q9, .inl (cI, 16, .inl (r_wf0 a 16)))]) := by rw [heq_i] at hD; exact hD
            refine lv_iconst (v := 0) hx hb dX2_way_63 (by decide) ?_
            refine lv_istore (lv' := [(4, .int 0), (3, .ref q9), (0, .ref h), (1, .int a), (2, .int b)]) hx hb dX2_way_64 hl (by decide) rfl (fun ls hl => ?_)
            have hL66 : ∀ (k_6 : Nat) (q : Nat), (K - q) < k_6 → (q ≤ K) → ∀ ls : Array Slot, lv_has ls 7 [(4, .int (nI q)), (3, .ref q9), (0, .ref h), (1, .int a), (2, .int b)] → ∀ (H : Heap) (locs : List Loc), va_P (dC, dI) vwCl (wR cI cZ cY h qx qy qh qt qs rw 0 n xs ys hs t tb sg fl ++ [(q9, .inl (cI, 16, .inl (r_wf t tb n (r_wf0 a 16) q)))]) H → va_D A (wR cI cZ cY h qx qy qh qt qs rw 0 n xs ys hs t tb sg fl ++ [(q9, .inl (cI, 16, .inl (r_wf t tb n (r_wf0 a 16) q)))]) → va_S A s.heap H locs → W p l e ({ frames := 4, cells := 1, slots := 16, locals := 91 } : Room) s m ([.ref h, .int a, .int b] : List Value).toArray below meth c H locs (0 + 1) (0 + 16) (MQ below (wrQi (dC, dI) (gTY cI cZ cY) (r_b2 (r_isIn a 0 (nI n - 1)) (r_isIn b 0 (nI n - 1)) (r_wf t tb n (r_wf0 a 16) K b.toNatClampNeg) 0) (wR cI cZ cY h qx qy qh qt qs rw (r_b2 (r_isIn a 0 (nI n - 1)) (r_isIn b 0 (nI n - 1)) 0 1) n xs ys hs t tb sg fl) A) ([.ref h, .int a, .int b] : List Value).toArray s 1 16 A) (F0 m 66 ls []) := by
              intro k_6
              induction k_6 with
              | zero => intro q hk; exact absurd hk (Nat.not_lt_zero _)
              | succ k_6 ih_7 =>
                intro q hk_66 hqK ls hl H locs hP hD hS
                refine lv_aload_n hx hb dX2_way_66 rfl (lv_at hl 1 rfl) ?_
                refine lv_iload_n hx hb dX2_way_67 rfl (lv_at hl 4 rfl) ?_
                refine va_iald (D := (dC, dI)) hx hb hK hP 23 0 wR_ex rfl (in_isIn16 hn hn1 c_2) dX2_way_68 ?_
                refine lv_iconst (v := (-1)) hx hb dX2_way_69 (by decide) ?_
                refine lv_icmp_ne (tgt := 151) hx hb dX2_way_70 (by decide) (fun c_8 => ?_) (fun c_8 => ?_)
                · have hq : q = K := by
                    rcases Nat.lt_or_ge q K with z | z
                    · exact absurd (hK2 q z) c_8
                    · omega
                  have hl : lv_has ls 7 [(4, .int (nI K)), (3, .ref q9), (0, .ref h), (1, .int a), (2, .int b)] := by rw [hq] at hl; exact hl
                  have hP : va_P (dC, dI) vwCl (wR cI cZ cY h qx qy qh qt qs rw 0 n xs ys hs t tb sg fl ++ [(q9, .inl (cI, 16, .inl (r_wf t tb n (r_wf0 a 16) K)))]) H := by rw [hq] at hP; exact hP
                  have hD : va_D A (wR cI cZ cY h qx qy qh qt qs rw 0 n xs ys hs t tb sg fl ++ [(q9, .inl (cI, 16, .inl (r_wf t tb n (r_wf0 a 16) K)))]) := by rw [hq] at hD; exact hD
                  refine lv_aload_n hx hb dX2_way_151 rfl (lv_at hl 1 rfl) ?_
                  refine lv_iload_n hx hb dX2_way_152 rfl (lv_at hl 4 rfl) ?_
                  refine va_iald (D := (dC, dI)) hx hb hK hP 23 0 wR_ex rfl (in_isIn16 hn hn1 c_2) dX2_way_153 ?_
                  have hP : va_P (dC, dI) vwCl (wR cI cZ cY h qx qy qh qt qs rw 0 n xs ys hs t tb sg fl) H := hP.left
                  have hD : va_D A (wR cI cZ cY h qx qy qh qt qs rw 0 n xs ys hs t tb sg fl) := hD.left
                  have e_th : (r_b2 (r_isIn a 0 (nI n - 1)) (r_isIn b 0 (nI n - 1)) 0 1 : Int32) = 0 := by first | (simp only [r_b2, c_1, c_2, c_5, c_8]; done) | (simp only [r_b2, c_1, c_2, c_5, c_8]; rfl) | (simp [r_b2, c_1, c_2, c_5, c_8]; done)
                  have hP : va_P (dC, dI) vwCl (wR cI cZ cY h qx qy qh qt qs rw (r_b2 (r_isIn a 0 (nI n - 1)) (r_isIn b 0 (nI n - 1)) 0 1) n xs ys hs t tb sg fl) H := by rw [e_th]; exact hP
                  have hD : va_D A (wR cI cZ cY h qx qy qh qt qs rw (r_b2 (r_isIn a 0 (nI n - 1)) (r_isIn b 0 (nI n - 1)) 0 1) n xs ys hs t tb sg fl) := by rw [e_th]; exact hD
                  exact wr_iret hx hb hr hlocks (by simp only [r_b2, c_1, c_2]; rfl) hP hK hD hS dX2_way_154
                · have hqlt : q < K := by
                    rcases Nat.lt_or_ge q K with z | z
                    · exact z
                    · have e : q = K := by omega
                      rw [e] at c_8
                      exact absurd c_8 hK1
                  refine lv_iconst (v := 0) hx hb dX2_way_73 (by decide) ?_
                  refine lv_istore (lv' := [(5, .int 0), (4, .int (nI q)), (3, .ref q9), (0, .ref h), (1, .int a), (2, .int b)]) hx hb dX2_way_74 hl (by decide) rfl (fun ls hl => ?_)
                  have hL76 : ∀ (k_9 : Nat) (i : Nat), (n - i) < k_9 → (i ≤ n) → ∀ ls : Array Slot, lv_has ls 7 [(5, .int (nI i)), (3, .ref q9), (4, .int (nI q)), (0, .ref h), (1, .int a), (2, .int b)] → ∀ (H : Heap) (locs : List Loc), va_P (dC, dI) vwCl (wR cI cZ cY h qx qy qh qt qs rw 0 n xs ys hs t tb sg fl ++ [(q9, .inl (cI, 16, .inl (r_wfO t tb n q (r_wf t tb n (r_wf0 a 16) q) i)))]) H → va_D A (wR cI cZ cY h qx qy qh qt qs rw 0 n xs ys hs t tb sg fl ++ [(q9, .inl (cI, 16, .inl (r_wfO t tb n q (r_wf t tb n (r_wf0 a 16) q) i)))]) → va_S A s.heap H locs → W p l e ({ frames := 4, cells := 1, slots := 16, locals := 91 } : Room) s m ([.ref h, .int a, .int b] : List Value).toArray below meth c H locs (0 + 1) (0 + 16) (MQ below (wrQi (dC, dI) (gTY cI cZ cY) (r_b2 (r_isIn a 0 (nI n - 1)) (r_isIn b 0 (nI n - 1)) (r_wf t tb n (r_wf0 a 16) K b.toNatClampNeg) 0) (wR cI cZ cY h qx qy qh qt qs rw (r_b2 (r_isIn a 0 (nI n - 1)) (r_isIn b 0 (nI n - 1)) 0 1) n xs ys hs t tb sg fl) A) ([.ref h, .int a, .int b] : List Value).toArray s 1 16 A) (F0 m 76 ls []) := by
                    intro k_9
                    induction k_9 with
                    | zero => intro i hk; exact absurd hk (Nat.not_lt_zero _)
                    | succ k_9 ih_10 =>
                      intro i hk_76 hi_i ls hl H locs hP hD hS
                      refine lv_iload hx hb dX2_way_76 (lv_at hl 0 rfl) ?_
                      refine lv_aload_n hx hb dX2_way_78 rfl (lv_at hl 3 rfl) ?_
                      refine va_get (D := (dC, dI)) (ci := 2) (v := .int (nI n)) (C := RX2) (T := TX2) (N := 9) hx hb hts in_X2_way_X2 hown hK hP 0 rfl rfl 1 (by decide) (hts (.fieldLink RX2 7 "MoorTrianglesModel" "cairns" "I") fl_X2_way_7) (fun _ h9 => h9) rfl dX2_way_79 ?_
                      refine lv_icmp_ge (tgt := 145) hx hb dX2_way_82 (by decide) (fun c_11 => ?_) (fun c_11 => ?_)
                      · have hge_i : n ≤ i := nI_le_le (by omega) (by omega) c_11
                        have heq_i : i = n := by omega
                        have hl : lv_has ls 7 [(5, .int (nI n)), (3, .ref q9), (4, .int (nI q)), (0, .ref h), (1, .int a), (2, .int b)] := by rw [heq_i] at hl; exact hl
                        have hP : va_P (dC, dI) vwCl (wR cI cZ cY h qx qy qh qt qs rw 0 n xs ys hs t tb sg fl ++ [(q9, .inl (cI, 16, .inl (r_wfO t tb n q (r_wf t tb n (r_wf0 a 16) q) n)))]) H := by rw [heq_i] at hP; exact hP
                        have hD : va_D A (wR cI cZ cY h qx qy qh qt qs rw 0 n xs ys hs t tb sg fl ++ [(q9, .inl (cI, 16, .inl (r_wfO t tb n q (r_wf t tb n (r_wf0 a 16) q) n)))]) := by rw [heq_i] at hD; exact hD
                        refine lv_iinc (v := nI (q + 1)) (lv' := [(4, .int (nI (q + 1))), (5, .int (nI n)), (3, .ref q9), (0, .ref h), (1, .int a), (2, .int b)]) hx hb dX2_way_145 hl (k := 2) rfl (nI_1 _) (by decide) rfl (fun ls hl => ?_)
                        refine lv_goto (tgt := 66) hx hb dX2_way_148 (by decide) ?_
                        have hl := lv_sub (l' := [(4, .int (nI (q + 1))), (3, .ref q9), (0, .ref h), (1, .int a), (2, .int b)]) hl [0, 2, 3, 4, 5] rfl
                        have hl : lv_has ls 7 [(4, .int (nI (q + 1))), (3, .ref q9), (0, .ref h), (1, .int a), (2, .int b)] := by
                          have e9 : [(4, .int (nI (q + 1))), (3, .ref q9), (0, .ref h), (1, .int a), (2, .int b)] = ([(4, .int (nI (q + 1))), (3, .ref q9), (0, .ref h), (1, .int a), (2, .int b)] : List (Nat × Value)) := by rfl
                          rw [← e9]; exact hl
                        have e_ex : ((r_wf t tb n (r_wf0 a 16) (q + 1)) : Nat → Int32) = (r_wfO t tb n q (r_wf t tb n (r_wf0 a 16) q) n) := by rfl
                        have hP : va_P (dC, dI) vwCl (wR cI cZ cY h qx qy qh qt qs rw 0 n xs ys hs t tb sg fl ++ [(q9, .inl (cI, 16, .inl (r_wf t tb n (r_wf0 a 16) (q + 1))))]) H := by rw [e_ex]; exact hP
                        have hD : va_D A (wR cI cZ cY h qx qy qh qt qs rw 0 n xs ys hs t tb sg fl ++ [(q9, .inl (cI, 16, .inl (r_wf t tb n (r_wf0 a 16) (q + 1))))]) := by rw [e_ex]; exact hD
                        exact ih_7 (q + 1) (by omega) (by omega) _ hl _ _ hP hD hS
                      · have hlt_i : i < n := nI_nle_lt (by omega) (by omega) c_11
                        refine lv_iconst (v := 0) hx hb dX2_way_85 (by decide) ?_
                        refine lv_istore (lv' := [(6, .int 0), (5, .int (nI i)), (3, .ref q9), (4, .int (nI q)), (0, .ref h), (1, .int a), (2, .int b)]) hx hb dX2_way_86 hl (by decide) rfl (fun ls hl => ?_)
                        have hL88 : ∀ (k_12 : Nat) (j : Nat), (n - j) < k_12 → (j ≤ n) → ∀ ls : Array Slot, lv_has ls 7 [(6, .int (nI j)), (3, .ref q9), (4, .int (nI q)), (5, .int (nI i)), (0, .ref h), (1, .int a), (2, .int b)] → ∀ (H : Heap) (locs : List Loc), va_P (dC, dI) vwCl (wR cI cZ cY h qx qy qh qt qs rw 0 n xs ys hs t tb sg fl ++ [(q9, .inl (cI, 16, .inl (r_wfI t tb q i (r_wfO t tb n q (r_wf t tb n (r_wf0 a 16) q) i) j)))]) H → va_D A (wR cI cZ cY h qx qy qh qt qs rw 0 n xs ys hs t tb sg fl ++ [(q9, .inl (cI, 16, .inl (r_wfI t tb q i (r_wfO t tb n q (r_wf t tb n (r_wf0 a 16) q) i) j)))]) → va_S A s.heap H locs → W p l e ({ frames := 4, cells := 1, slots := 16, locals := 91 } : Room) s m ([.ref h, .int a, .int b] : List Value).toArray below meth c H locs (0 + 1) (0 + 16) (MQ below (wrQi (dC, dI) (gTY cI cZ cY) (r_b2 (r_isIn a 0 (nI n - 1)) (r_isIn b 0 (nI n - 1)) (r_wf t tb n (r_wf0 a 16) K b.toNatClampNeg) 0) (wR cI cZ cY h qx qy qh qt qs rw (r_b2 (r_isIn a 0 (nI n - 1)) (r_isIn b 0 (nI n - 1)) 0 1) n xs ys hs t tb sg fl) A) ([.ref h, .int a, .int b] : List Value).toArray s 1 16 A) (F0 m 88 ls []) := by
                          intro k_12
                          induction k_12 with
                          | zero => intro j hk; exact absurd hk (Nat.not_lt_zero _)
                          | succ k_12 ih_13 =>
                            intro j hk_88 hi_j ls hl H locs hP hD hS
                            refine lv_iload hx hb dX2_way_88 (lv_at hl 0 rfl) ?_
                            refine lv_aload_n hx hb dX2_way_90 rfl (lv_at hl 4 rfl) ?_
                            refine va_get (D := (dC, dI)) (ci := 2) (v := .int (nI n)) (C := RX2) (T := TX2) (N := 9) hx hb hts in_X2_way_X2 hown hK hP 0 rfl rfl 1 (by decide) (hts (.fieldLink RX2 7 "MoorTrianglesModel" "cairns" "I") fl_X2_way_7) (fun _ h9 => h9) rfl dX2_way_91 ?_
                            refine lv_icmp_ge (tgt := 139) hx hb dX2_way_94 (by decide) (fun c_14 => ?_) (fun c_14 => ?_)
                            · have hge_j : n ≤ j := nI_le_le (by omega) (by omega) c_14
                              have heq_j : j = n := by omega
                              have hl : lv_has ls 7 [(6, .int (nI n)), (3, .ref q9), (4, .int (nI q)), (5, .int (nI i)), (0, .ref h), (1, .int a), (2, .int b)] := by rw [heq_j] at hl; exact hl
                              have hP : va_P (dC, dI) vwCl (wR cI cZ cY h qx qy qh qt qs rw 0 n xs ys hs t tb sg fl ++ [(q9, .inl (cI, 16, .inl (r_wfI t tb q i (r_wfO t tb n q (r_wf t tb n (r_wf0 a 16) q) i) n)))]) H := by rw [heq_j] at hP; exact hP
                              have hD : va_D A (wR cI cZ cY h qx qy qh qt qs rw 0 n xs ys hs t tb sg fl ++ [(q9, .inl (cI, 16, .inl (r_wfI t tb q i (r_wfO t tb n q (r_wf t tb n (r_wf0 a 16) q) i) n)))]) := by rw [heq_j] at hD; exact hD
                              refine lv_iinc (v := nI (i + 1)) (lv' := [(5, .int (nI (i + 1))), (6, .int (nI n)), (3, .ref q9), (4, .int (nI q)), (0, .ref h), (1, .int a), (2, .int b)]) hx hb dX2_way_139 hl (k := 3) rfl (nI_1 _) (by decide) rfl (fun ls hl => ?_)
                              refine lv_goto (tgt := 76) hx hb dX2_way_142 (by decide) ?_
                              have hl := lv_sub (l' := [(5, .int (nI (i + 1))), (3, .ref q9), (4, .int (nI q)), (0, .ref h), (1, .int a), (2, .int b)]) hl [0, 2, 3, 4, 5, 6] rfl
                              have hl : lv_has ls 7 [(5, .int (nI (i + 1))), (3, .ref q9), (4, .int (nI q)), (0, .ref h), (1, .int a), (2, .int b)] := by
                                have e9 : [(5, .int (nI (i + 1))), (3, .ref q9), (4, .int (nI q)), (0, .ref h), (1, .int a), (2, .int b)] = ([(5, .int (nI (i + 1))), (3, .ref q9), (4, .int (nI q)), (0, .ref h), (1, .int a), (2, .int b)] : List (Nat × Value)) := by rfl
                                rw [← e9]; exact hl
                              have e_ex : ((r_wfO t tb n q (r_wf t tb n (r_wf0 a 16) q) (i + 1)) : Nat → Int32) = (r_wfI t tb q i (r_wfO t tb n q (r_wf t tb n (r_wf0 a 16) q) i) n) := by rfl
                              have hP : va_P (dC, dI) vwCl (wR cI cZ cY h qx qy qh qt qs rw 0 n xs ys hs t tb sg fl ++ [(q9, .inl (cI, 16, .inl (r_wfO t tb n q (r_wf t tb n (r_wf0 a 16) q) (i + 1))))]) H := by rw [e_ex]; exact hP
                              have hD : va_D A (wR cI cZ cY h qx qy qh qt qs rw 0 n xs ys hs t tb sg fl ++ [(q9, .inl (cI, 16, .inl (r_wfO t tb n q (r_wf t tb n (r_wf0 a 16) q) (i + 1))))]) := by rw [e_ex]; exact hD
                              exact ih_10 (i + 1) (by omega) (by omega) _ hl _ _ hP hD hS
                            · have hlt_j : j < n := nI_nle_lt (by omega) (by omega) c_14
                              refine lv_aload_n hx hb dX2_way_97 rfl (lv_at hl 1 rfl) ?_
                              refine lv_iload hx hb dX2_way_98 (lv_at hl 3 rfl) ?_
                              refine va_iald (D := (dC, dI)) hx hb hK hP 23 0 wR_ex rfl (vp_in_nI (by omega) (by decide)) dX2_way_100 ?_
                              refine lv_cvi (congrArg (r_wfI t tb q i (r_wfO t tb n q (r_wf t tb n (r_wf0 a 16) q) i) j) (nI_clamp (by omega))) ?_
                              refine lv_iload hx hb dX2_way_101 (lv_at hl 2 rfl) ?_
                              refine lv_icmp_ne (tgt := 133) hx hb dX2_way_103 (by decide) (fun c_15 => ?_) (fun c_15 => ?_)
                              · refine lv_iinc (v := nI (j + 1)) (lv' := [(6, .int (nI (j + 1))), (3, .ref q9), (4, .int (nI q)), (5, .int (nI i)), (0, .ref h), (1, .int a), (2, .int b)]) hx hb dX2_way_133 hl (k := 0) rfl (nI_1 _) (by decide) rfl (fun ls hl => ?_)
                                refine lv_goto (tgt := 88) hx hb dX2_way_136 (by decide) ?_
                                have hl := lv_sub (l' := [(6, .int (nI (j + 1))), (3, .ref q9), (4, .int (nI q)), (5, .int (nI i)), (0, .ref h), (1, .int a), (2, .int b)]) hl [0, 1, 2, 3, 4, 5, 6] rfl
                                have hl : lv_has ls 7 [(6, .int (nI (j + 1))), (3, .ref q9), (4, .int (nI q)), (5, .int (nI i)), (0, .ref h), (1, .int a), (2, .int b)] := by
                                  have e9 : [(6, .int (nI (j + 1))), (3, .ref q9), (4, .int (nI q)), (5, .int (nI i)), (0, .ref h), (1, .int a), (2, .int b)] = ([(6, .int (nI (j + 1))), (3, .ref q9), (4, .int (nI q)), (5, .int (nI i)), (0, .ref h), (1, .int a), (2, .int b)] : List (Nat × Value)) := by rfl
                                  rw [← e9]; exact hl
                                have e_ex : ((r_wfI t tb q i (r_wfO t tb n q (r_wf t tb n (r_wf0 a 16) q) i) (j + 1)) : Nat → Int32) = (r_wfI t tb q i (r_wfO t tb n q (r_wf t tb n (r_wf0 a 16) q) i) j) := by rw [r_wfI, if_neg c_15]
                                have hP : va_P (dC, dI) vwCl (wR cI cZ cY h qx qy qh qt qs rw 0 n xs ys hs t tb sg fl ++ [(q9, .inl (cI, 16, .inl (r_wfI t tb q i (r_wfO t tb n q (r_wf t tb n (r_wf0 a 16) q) i) (j + 1))))]) H := by rw [e_ex]; exact hP
                                have hD : va_D A (wR cI cZ cY h qx qy qh qt qs rw 0 n xs ys hs t tb sg fl ++ [(q9, .inl (cI, 16, .inl (r_wfI t tb q i (r_wfO t tb n q (r_wf t tb n (r_wf0 a 16) q) i) (j + 1))))]) := by rw [e_ex]; exact hD
                                exact ih_13 (j + 1) (by omega) (by omega) _ hl _ _ hP hD hS
                              · refine lv_aload_n hx hb dX2_way_106 rfl (lv_at hl 1 rfl) ?_
                                refine lv_iload hx hb dX2_way_107 (lv_at hl 0 rfl) ?_
                                refine va_iald (D := (dC, dI)) hx hb hK hP 23 0 wR_ex rfl (vp_in_nI (by omega) (by decide)) dX2_way_109 ?_
                                refine lv_cvi (congrArg (r_wfI t tb q i (r_wfO t tb n q (r_wf t tb n (r_wf0 a 16) q) i) j) (nI_clamp (by omega))) ?_
                                refine lv_iconst (v := (-1)) hx hb dX2_way_110 (by decide) ?_
                                refine lv_icmp_ne (tgt := 133) hx hb dX2_way_111 (by decide) (fun c_16 => ?_) (fun c_16 => ?_)
                                · refine lv_iinc (v := nI (j + 1)) (lv' := [(6, .int (nI (j + 1))), (3, .ref q9), (4, .int (nI q)), (5, .int (nI i)), (0, .ref h), (1, .int a), (2, .int b)]) hx hb dX2_way_133 hl (k := 0) rfl (nI_1 _) (by decide) rfl (fun ls hl => ?_)
                                  refine lv_goto (tgt := 88) hx hb dX2_way_136 (by decide) ?_
                                  have hl := lv_sub (l' := [(6, .int (nI (j + 1))), (3, .ref q9), (4, .int (nI q)), (5, .int (nI i)), (0, .ref h), (1, .int a), (2, .int b)]) hl [0, 1, 2, 3, 4, 5, 6] rfl
                                  have hl : lv_has ls 7 [(6, .int (nI (j + 1))), (3, .ref q9), (4, .int (nI q)), (5, .int (nI i)), (0, .ref h), (1, .int a), (2, .int b)] := by
                                    have e9 : [(6, .int (nI (j + 1))), (3, .ref q9), (4, .int (nI q)), (5, .int (nI i)), (0, .ref h), (1, .int a), (2, .int b)] = ([(6, .int (nI (j + 1))), (3, .ref q9), (4, .int (nI q)), (5, .int (nI i)), (0, .ref h), (1, .int a), (2, .int b)] : List (Nat × Value)) := by rfl
                                    rw [← e9]; exact hl
                                  have e_ex : ((r_wfI t tb q i (r_wfO t tb n q (r_wf t tb n (r_wf0 a 16) q) i) (j + 1)) : Nat → Int32) = (r_wfI t tb q i (r_wfO t tb n q (r_wf t tb n (r_wf0 a 16) q) i) j) := by rw [r_wfI, if_pos c_15, if_neg c_16]
                                  have hP : va_P (dC, dI) vwCl (wR cI cZ cY h qx qy qh qt qs rw 0 n xs ys hs t tb sg fl ++ [(q9, .inl (cI, 16, .inl (r_wfI t tb q i (r_wfO t tb n q (r_wf t tb n (r_wf0 a 16) q) i) (j + 1))))]) H := by rw [e_ex]; exact hP
                                  have hD : va_D A (wR cI cZ cY h qx qy qh qt qs rw 0 n xs ys hs t tb sg fl ++ [(q9, .inl (cI, 16, .inl (r_wfI t tb q i (r_wfO t tb n q (r_wf t tb n (r_wf0 a 16) q) i) (j + 1))))]) := by rw [e_ex]; exact hD
                                  exact ih_13 (j + 1) (by omega) (by omega) _ hl _ _ hP hD hS
                                · refine lv_aload_n hx hb dX2_way_114 rfl (lv_at hl 4 rfl) ?_
                                  refine lv_iload hx hb dX2_way_115 (lv_at hl 3 rfl) ?_
                                  refine lv_iload hx hb dX2_way_117 (lv_at hl 0 rfl) ?_
                                  refine rd_cVi (As := [.int (nI i), .int (nI j)]) (rest := []) F (c_X2_sides l dC dI cI cZ cY h qx qy qh qt qs rw 0 n xs ys hs t tb sg fl (nI i) (nI j) ht) (cwV 2 hts gX2_way_X2_sides rfl rfl rfl hd_X2_sides ⟨Nat.le_of_ble_eq_true rfl, Nat.le_of_ble_eq_true rfl⟩) hP.left hK (va_recv hK hP (ci := 2) (q0 := 0) rfl rfl) rfl hl.1 rfl (lv_room (Nat.le_of_ble_eq_true rfl)) dX2_way_119 ⟨Nat.le_of_ble_eq_true rfl, Nat.le_of_ble_eq_true rfl⟩ ?_
                                  refine lv_if_le (tgt := 133) hx hb dX2_way_122 (by decide) (fun c_17 => ?_) (fun c_17 => ?_)
                                  · refine lv_iinc (v := nI (j + 1)) (lv' := [(6, .int (nI (j + 1))), (3, .ref q9), (4, .int (nI q)), (5, .int (nI i)), (0, .ref h), (1, .int a), (2, .int b)]) hx hb dX2_way_133 hl (k := 0) rfl (nI_1 _) (by decide) rfl (fun ls hl => ?_)
                                    refine lv_goto (tgt := 88) hx hb dX2_way_136 (by decide) ?_
                                    have hl := lv_sub (l' := [(6, .int (nI (j + 1))), (3, .ref q9), (4, .int (nI q)), (5, .int (nI i)), (0, .ref h), (1, .int a), (2, .int b)]) hl [0, 1, 2, 3, 4, 5, 6] rfl
                                    have hl : lv_has ls 7 [(6, .int (nI (j + 1))), (3, .ref q9), (4, .int (nI q)), (5, .int (nI i)), (0, .ref h), (1, .int a), (2, .int b)] := by
                                      have e9 : [(6, .int (nI (j + 1))), (3, .ref q9), (4, .int (nI q)), (5, .int (nI i)), (0, .ref h), (1, .int a), (2, .int b)] = ([(6, .int (nI (j + 1))), (3, .ref q9), (4, .int (nI q)), (5, .int (nI i)), (0, .ref h), (1, .int a), (2, .int b)] : List (Nat × Value)) := by rfl
                                      rw [← e9]; exact hl
                                    have e_ex : ((r_wfI t tb q i (r_wfO t tb n q (r_wf t tb n (r_wf0 a 16) q) i) (j + 1)) : Nat → Int32) = (r_wfI t tb q i (r_wfO t tb n q (r_wf t tb n (r_wf0 a 16) q) i) j) := by rw [r_wfI, if_pos c_15, if_pos c_16, if_pos c_17]
                                    have hP : va_P (dC, dI) vwCl (wR cI cZ cY h qx qy qh qt qs rw 0 n xs ys hs t tb sg fl ++ [(q9, .inl (cI, 16, .inl (r_wfI t tb q i (r_wfO t tb n q (r_wf t tb n (r_wf0 a 16) q) i) (j + 1))))]) H := by rw [e_ex]; exact hP
                                    have hD : va_D A (wR cI cZ cY h qx qy qh qt qs rw 0 n xs ys hs t tb sg fl ++ [(q9, .inl (cI, 16, .inl (r_wfI t tb q i (r_wfO t tb n q (r_wf t tb n (r_wf0 a 16) q) i) (j + 1))))]) := by rw [e_ex]; exact hD
                                    exact ih_13 (j + 1) (by omega) (by omega) _ hl _ _ hP hD hS
                                  · refine lv_aload_n hx hb dX2_way_125 rfl (lv_at hl 1 rfl) ?_
                                    refine lv_iload hx hb dX2_way_126 (lv_at hl 0 rfl) ?_
                                    refine lv_iload hx hb dX2_way_128 (lv_at hl 2 rfl) ?_
                                    refine lv_iconst (v := 1) hx hb dX2_way_130 (by decide) ?_
                                    refine lv_iadd hx hb dX2_way_131 ?_
                                    refine va_iast (D := (dC, dI)) hx hb hK hP hD hS 23 0 wR_ex rfl (vp_in_nI (by omega) (by decide)) dX2_way_132 (fun H locs hP hD hS => ?_)
                                    rw [wR_exset] at hP hD
                                    have hP : va_P (dC, dI) vwCl (wR cI cZ cY h qx qy qh qt qs rw 0 n xs ys hs t tb sg fl ++ [(q9, .inl (cI, 16, .inl (upd (r_wfI t tb q i (r_wfO t tb n q (r_wf t tb n (r_wf0 a 16) q) i) j) (nI j).toNatClampNeg ((nI q) + 1))))]) H := hP
                                    have hD : va_D A (wR cI cZ cY h qx qy qh qt qs rw 0 n xs ys hs t tb sg fl ++ [(q9, .inl (cI, 16, .inl (upd (r_wfI t tb q i (r_wfO t tb n q (r_wf t tb n (r_wf0 a 16) q) i) j) (nI j).toNatClampNeg ((nI q) + 1))))]) := hD
                                    refine lv_iinc (v := nI (j + 1)) (lv' := [(6, .int (nI (j + 1))), (3, .ref q9), (4, .int (nI q)), (5, .int (nI i)), (0, .ref h), (1, .int a), (2, .int b)]) hx hb dX2_way_133 hl (k := 0) rfl (nI_1 _) (by decide) rfl (fun ls hl => ?_)
                                    refine lv_goto (tgt := 88) hx hb dX2_way_136 (by decide) ?_
                                    have hl := lv_sub (l' := [(6, .int (nI (j + 1))), (3, .ref q9), (4, .int (nI q)), (5, .int (nI i)), (0, .ref h), (1, .int a), (2, .int b)]) hl [0, 1, 2, 3, 4, 5, 6] rfl
                                    have hl : lv_has ls 7 [(6, .int (nI (j + 1))), (3, .ref q9), (4, .int (nI q)), (5, .int (nI i)), (0, .ref h), (1, .int a), (2, .int b)] := by
                                      have e9 : [(6, .int (nI (j + 1))), (3, .ref q9), (4, .int (nI q)), (5, .int (nI i)), (0, .ref h), (1, .int a), (2, .int b)] = ([(6, .int (nI (j + 1))), (3, .ref q9), (4, .int (nI q)), (5, .int (nI i)), (0, .ref h), (1, .int a), (2, .int b)] : List (Nat × Value)) := by rfl
                                      rw [← e9]; exact hl
                                    have e_ex : ((r_wfI t tb q i (r_wfO t tb n q (r_wf t tb n (r_wf0 a 16) q) i) (j + 1)) : Nat → Int32) = (upd (r_wfI t tb q i (r_wfO t tb n q (r_wf t tb n (r_wf0 a 16) q) i) j) (nI j).toNatClampNeg ((nI q) + 1)) := by rw [nI_clamp (by omega), r_wfI, if_pos c_15, if_pos c_16, if_neg c_17]
                                    have hP : va_P (dC, dI) vwCl (wR cI cZ cY h qx qy qh qt qs rw 0 n xs ys hs t tb sg fl ++ [(q9, .inl (cI, 16, .inl (r_wfI t tb q i (r_wfO t tb n q (r_wf t tb n (r_wf0 a 16) q) i) (j + 1))))]) H := by rw [e_ex]; exact hP
                                    have hD : va_D A (wR cI cZ cY h qx qy qh qt qs rw 0 n xs ys hs t tb sg fl ++ [(q9, .inl (cI, 16, .inl (r_wfI t tb q i (r_wfO t tb n q (r_wf t tb n (r_wf0 a 16) q) i) (j + 1))))]) := by rw [e_ex]; exact hD
                                    exact ih_13 (j + 1) (by omega) (by omega) _ hl _ _ hP hD hS
                        have hl := lv_sub (l' := [(6, .int 0), (3, .ref q9), (4, .int (nI q)), (5, .int (nI i)), (0, .ref h), (1, .int a), (2, .int b)]) hl [0, 2, 3, 1, 4, 5, 6] rfl
                        have hl : lv_has ls 7 [(6, .int (nI 0)), (3, .ref q9), (4, .int (nI q)), (5, .int (nI i)), (0, .ref h), (1, .int a), (2, .int b)] := by
                          have e9 : [(6, .int 0), (3, .ref q9), (4, .int (nI q)), (5, .int (nI i)), (0, .ref h), (1, .int a), (2, .int b)] = ([(6, .int (nI 0)), (3, .ref q9), (4, .int (nI q)), (5, .int (nI i)), (0, .ref h), (1, .int a), (2, .int b)] : List (Nat × Value)) := by rfl
                          rw [← e9]; exact hl
                        have e_ex : ((r_wfI t tb q i (r_wfO t tb n q (r_wf t tb n (r_wf0 a 16) q) i) 0) : Nat → Int32) = (r_wfO t tb n q (r_wf t tb n (r_wf0 a 16) q) i) := by rfl
                        have hP : va_P (dC, dI) vwCl (wR cI cZ cY h qx qy qh qt qs rw 0 n xs ys hs t tb sg fl ++ [(q9, .inl (cI, 16, .inl (r_wfI t tb q i (r_wfO t tb n q (r_wf t tb n (r_wf0 a 16) q) i) 0)))]) H := by rw [e_ex]; exact hP
                        have hD : va_D A (wR cI cZ cY h qx qy qh qt qs rw 0 n xs ys hs t tb sg fl ++ [(q9, .inl (cI, 16, .inl (r_wfI t tb q i (r_wfO t tb n q (r_wf t tb n (r_wf0 a 16) q) i) 0)))]) := by rw [e_ex]; exact hD
                        exact hL88 _ 0 (Nat.lt_succ_self _) (by omega) _ hl _ _ hP hD hS
                  have hl := lv_sub (l' := [(5, .int 0), (3, .ref q9), (4, .int (nI q)), (0, .ref h), (1, .int a), (2, .int b)]) hl [0, 2, 1, 3, 4, 5] rfl
                  have hl : lv_has ls 7 [(5, .int (nI 0)), (3, .ref q9), (4, .int (nI q)), (0, .ref h), (1, .int a), (2, .int b)] := by
                    have e9 : [(5, .int 0), (3, .ref q9), (4, .int (nI q)), (0, .ref h), (1, .int a), (2, .int b)] = ([(5, .int (nI 0)), (3, .ref q9), (4, .int (nI q)), (0, .ref h), (1, .int a), (2, .int b)] : List (Nat × Value)) := by rfl
                    rw [← e9]; exact hl
                  have e_ex : ((r_wfO t tb n q (r_wf t tb n (r_wf0 a 16) q) 0) : Nat → Int32) = (r_wf t tb n (r_wf0 a 16) q) := by rfl
                  have hP : va_P (dC, dI) vwCl (wR cI cZ cY h qx qy qh qt qs rw 0 n xs ys hs t tb sg fl ++ [(q9, .inl (cI, 16, .inl (r_wfO t tb n q (r_wf t tb n (r_wf0 a 16) q) 0)))]) H := by rw [e_ex]; exact hP
                  have hD : va_D A (wR cI cZ cY h qx qy qh qt qs rw 0 n xs ys hs t tb sg fl ++ [(q9, .inl (cI, 16, .inl (r_wfO t tb n q (r_wf t tb n (r_wf0 a 16) q) 0)))]) := by rw [e_ex]; exact hD
                  exact hL76 _ 0 (Nat.lt_succ_self _) (by omega) _ hl _ _ hP hD hS
            have hl := lv_sub (l' := [(4, .int 0), (3, .ref q9), (0, .ref h), (1, .int a), (2, .int b)]) hl [0, 1, 2, 3, 4] rfl
            have hl : lv_has ls 7 [(4, .int (nI 0)), (3, .ref q9), (0, .ref h), (1, .int a), (2, .int b)] := by
              have e9 : [(4, .int 0), (3, .ref q9), (0, .ref h), (1, .int a), (2, .int b)] = ([(4, .int (nI 0)), (3, .ref q9), (0, .ref h), (1, .int a), (2, .int b)] : List (Nat × Value)) := by rfl
              rw [← e9]; exact hl
            have e_ex : ((r_wf t tb n (r_wf0 a 16) 0) : Nat → Int32) = (r_wf0 a 16) := by rfl
            have hP : va_P (dC, dI) vwCl (wR cI cZ cY h qx qy qh qt qs rw 0 n xs ys hs t tb sg fl ++ [(q9, .inl (cI, 16, .inl (r_wf t tb n (r_wf0 a 16) 0)))]) H := by rw [e_ex]; exact hP
            have hD : va_D A (wR cI cZ cY h qx qy qh qt qs rw 0 n xs ys hs t tb sg fl ++ [(q9, .inl (cI, 16, .inl (r_wf t tb n (r_wf0 a 16) 0)))]) := by rw [e_ex]; exact hD
            exact hL66 _ 0 (Nat.lt_succ_self _) (Nat.zero_le _) _ hl _ _ hP hD hS
          · have hlt_i : i < 16 := nI_nle_lt (by omega) (by omega) c_5
            refine lv_aload_n hx hb dX2_way_42 rfl (lv_at hl 1 rfl) ?_
            refine lv_iload hx hb dX2_way_43 (lv_at hl 0 rfl) ?_
            refine lv_iload hx hb dX2_way_45 (lv_at hl 0 rfl) ?_
            refine lv_iload_n hx hb dX2_way_47 rfl (lv_at hl 3 rfl) ?_
            refine lv_icmp_ne (tgt := 55) hx hb dX2_way_48 (by decide) (fun c_18 => ?_) (fun c_18 => ?_)
            · refine lv_iconst (v := (-1)) hx hb dX2_way_55 (by decide) ?_
              refine va_iast (D := (dC, dI)) hx hb hK hP hD hS 23 0 wR_ex rfl (vp_in_nI (by omega) (by decide)) dX2_way_56 (fun H locs hP hD hS => ?_)
              rw [wR_exset] at hP hD
              have hP : va_P (dC, dI) vwCl (wR cI cZ cY h qx qy qh qt qs rw 0 n xs ys hs t tb sg fl ++ [(q9, .inl (cI, 16, .inl (upd (r_wf0 a i) (nI i).toNatClampNeg (-1))))]) H := hP
              have hD : va_D A (wR cI cZ cY h qx qy qh qt qs rw 0 n xs ys hs t tb sg fl ++ [(q9, .inl (cI, 16, .inl (upd (r_wf0 a i) (nI i).toNatClampNeg (-1))))]) := hD
              refine lv_iinc (v := nI (i + 1)) (lv' := [(4, .int (nI (i + 1))), (3, .ref q9), (0, .ref h), (1, .int a), (2, .int b)]) hx hb dX2_way_57 hl (k := 0) rfl (nI_1 _) (by decide) rfl (fun ls hl => ?_)
              refine lv_goto (tgt := 35) hx hb dX2_way_60 (by decide) ?_
              have hl := lv_sub (l' := [(4, .int (nI (i + 1))), (3, .ref q9), (0, .ref h), (1, .int a), (2, .int b)]) hl [0, 1, 2, 3, 4] rfl
              have hl : lv_has ls 7 [(4, .int (nI (i + 1))), (3, .ref q9), (0, .ref h), (1, .int a), (2, .int b)] := by
                have e9 : [(4, .int (nI (i + 1))), (3, .ref q9), (0, .ref h), (1, .int a), (2, .int b)] = ([(4, .int (nI (i + 1))), (3, .ref q9), (0, .ref h), (1, .int a), (2, .int b)] : List (Nat × Value)) := by rfl
                rw [← e9]; exact hl
              have e_ex : ((r_wf0 a (i + 1)) : Nat → Int32) = (upd (r_wf0 a i) (nI i).toNatClampNeg (-1)) := by rw [nI_clamp (by omega)]; show upd _ i (if nI i = a then _ else _) = _; rw [if_neg c_18]
              have hP : va_P (dC, dI) vwCl (wR cI cZ cY h qx qy qh qt qs rw 0 n xs ys hs t tb sg fl ++ [(q9, .inl (cI, 16, .inl (r_wf0 a (i + 1))))]) H := by rw [e_ex]; exact hP
              have hD : va_D A (wR cI cZ cY h qx qy qh qt qs rw 0 n xs ys hs t tb sg fl ++ [(q9, .inl (cI, 16, .inl (r_wf0 a (i + 1))))]) := by rw [e_ex]; exact hD
              exact ih_4 (i + 1) (by omega) (by omega) _ hl _ _ hP hD hS
            · refine lv_iconst (v := 0) hx hb dX2_way_51 (by decide) ?_
              refine lv_goto (tgt := 56) hx hb dX2_way_52 (by decide) ?_
              refine va_iast (D := (dC, dI)) hx hb hK hP hD hS 23 0 wR_ex rfl (vp_in_nI (by omega) (by decide)) dX2_way_56 (fun H locs hP hD hS => ?_)
              rw [wR_exset] at hP hD
              have hP : va_P (dC, dI) vwCl (wR cI cZ cY h qx qy qh qt qs rw 0 n xs ys hs t tb sg fl ++ [(q9, .inl (cI, 16, .inl (upd (r_wf0 a i) (nI i).toNatClampNeg 0)))]) H := hP
              have hD : va_D A (wR cI cZ cY h qx qy qh qt qs rw 0 n xs ys hs t tb sg fl ++ [(q9, .inl (cI, 16, .inl (upd (r_wf0 a i) (nI i).toNatClampNeg 0)))]) := hD
              refine lv_iinc (v := nI (i + 1)) (lv' := [(4, .int (nI (i + 1))), (3, .ref q9), (0, .ref h), (1, .int a), (2, .int b)]) hx hb dX2_way_57 hl (k := 0) rfl (nI_1 _) (by decide) rfl (fun ls hl => ?_)
              refine lv_goto (tgt := 35) hx hb dX2_way_60 (by decide) ?_
              have hl := lv_sub (l' := [(4, .int (nI (i + 1))), (3, .ref q9), (0, .ref h), (1, .int a), (2, .int b)]) hl [0, 1, 2, 3, 4] rfl
              have hl : lv_has ls 7 [(4, .int (nI (i + 1))), (3, .ref q9), (0, .ref h), (1, .int a), (2, .int b)] := by
                have e9 : [(4, .int (nI (i + 1))), (3, .ref q9), (0, .ref h), (1, .int a), (2, .int b)] = ([(4, .int (nI (i + 1))), (3, .ref q9), (0, .ref h), (1, .int a), (2, .int b)] : List (Nat × Value)) := by rfl
                rw [← e9]; exact hl
              have e_ex : ((r_wf0 a (i + 1)) : Nat → Int32) = (upd (r_wf0 a i) (nI i).toNatClampNeg 0) := by rw [nI_clamp (by omega)]; show upd _ i (if nI i = a then _ else _) = _; rw [if_pos c_18]
              have hP : va_P (dC, dI) vwCl (wR cI cZ cY h qx qy qh qt qs rw 0 n xs ys hs t tb sg fl ++ [(q9, .inl (cI, 16, .inl (r_wf0 a (i + 1))))]) H := by rw [e_ex]; exact hP
              have hD : va_D A (wR cI cZ cY h qx qy qh qt qs rw 0 n xs ys hs t tb sg fl ++ [(q9, .inl (cI, 16, .inl (r_wf0 a (i + 1))))]) := by rw [e_ex]; exact hD
              exact ih_4 (i + 1) (by omega) (by omega) _ hl _ _ hP hD hS
      have hl := lv_sub (l' := [(4, .int 0), (3, .ref q9), (0, .ref h), (1, .int a), (2, .int b)]) hl [0, 1, 2, 3, 4] rfl
      have hl : lv_has ls 7 [(4, .int (nI 0)), (3, .ref q9), (0, .ref h), (1, .int a), (2, .int b)] := by
        have e9 : [(4, .int 0), (3, .ref q9), (0, .ref h), (1, .int a), (2, .int b)] = ([(4, .int (nI 0)), (3, .ref q9), (0, .ref h), (1, .int a), (2, .int b)] : List (Nat × Value)) := by rfl
        rw [← e9]; exact hl
      have e_ex : ((r_wf0 a 0) : Nat → Int32) = (fun _ => 0) := by rfl
      have hP : va_P (dC, dI) vwCl (wR cI cZ cY h qx qy qh qt qs rw 0 n xs ys hs t tb sg fl ++ [(q9, .inl (cI, 16, .inl (r_wf0 a 0)))]) H := by rw [e_ex]; exact hP
      have hD : va_D A (wR cI cZ cY h qx qy qh qt qs rw 0 n xs ys hs t tb sg fl ++ [(q9, .inl (cI, 16, .inl (r_wf0 a 0)))]) := by rw [e_ex]; exact hD
      exact hL35 _ 0 (Nat.lt_succ_self _) (by omega) _ hl _ _ hP hD hS
    · refine lv_aload_n hx hb dX2_way_21 rfl (lv_at hl 0 rfl) ?_
      refine lv_iconst (v := 1) hx hb dX2_way_22 (by decide) ?_
      refine wx_cVi (As := [.int 1]) (rest := []) F (c_X2_fail l dC dI cI cZ cY h qx qy qh qt qs rw 0 n xs ys hs t tb sg fl 1 H.size) (cwV 1 hts gX2_way_X2_fail rfl rfl rfl hd_X2_fail ⟨Nat.le_of_ble_eq_true rfl, Nat.le_of_ble_eq_true rfl⟩) hP hK hD hS hA (va_recv hK hP (ci := 2) (q0 := 0) rfl rfl) rfl hl.1 rfl (lv_room (Nat.le_of_ble_eq_true rfl)) dX2_way_23 ⟨Nat.le_of_ble_eq_true rfl, Nat.le_of_ble_eq_true rfl⟩ (fun H locs hP hD hS => ?_)
      have hP : va_P (dC, dI) vwCl (wR cI cZ cY h qx qy qh qt qs rw 1 n xs ys hs t tb sg fl) H := hP
      have hD : va_D A (wR cI cZ cY h qx qy qh qt qs rw 1 n xs ys hs t tb sg fl) := hD
      have e_th : (r_b2 (r_isIn a 0 (nI n - 1)) (r_isIn b 0 (nI n - 1)) 0 1 : Int32) = 1 := by first | (simp only [r_b2, c_1, c_2]; done) | (simp only [r_b2, c_1, c_2]; rfl) | (simp [r_b2, c_1, c_2]; done)
      have hP : va_P (dC, dI) vwCl (wR cI cZ cY h qx qy qh qt qs rw (r_b2 (r_isIn a 0 (nI n - 1)) (r_isIn b 0 (nI n - 1)) 0 1) n xs ys hs t tb sg fl) H := by rw [e_th]; exact hP
      have hD : va_D A (wR cI cZ cY h qx qy qh qt qs rw (r_b2 (r_isIn a 0 (nI n - 1)) (r_isIn b 0 (nI n - 1)) 0 1) n xs ys hs t tb sg fl) := by rw [e_th]; exact hD
      refine W.widen (k := 1) (n := 16) (by omega) (by omega) ?_
      exact wr_iret hx hb hr hlocks (by simp only [r_b2, c_1, c_2]; rfl) hP hK hD hS dX2_way_26
