/-! the law's own moor: tables that grow and shrink, by program (gens.py) -/
theorem hd_X2_more : yX2_more.cls = RX2 ∧ yX2_more.cls ≠ "java/lang/invoke/MethodHandle" ∧ yX2_more.cls ≠ "java/lang/invoke/VarHandle" ∧ (parseMethodDescriptor yX2_more.desc).map (fun d => d.parameters.length) = some 2 := by decide +kernel
theorem cl_more : (Cond.classLink RX2 7 "[I") ∈ wsX2_more := by decide +kernel
set_option maxHeartbeats 4000000 in
set_option maxRecDepth 100000 in
theorem c_X2_more (l : Launch) (dC : Nat → ClassId) (dI : Nat → Nat → Nat) (cI cZ cY : ClassId) (B q x n w : Nat) (F : Nat → Nat → Int32) (f : Nat → Int32) (hn : n ≤ 1100) (sz : Nat) : Met l yX2_more wsX2_more ({ frames := 0, cells := 1, slots := n + 1, locals := 0 }) (va_Pc [.ref q, .ref x] (sPz (dC, dI) cI cZ cY (fun H => hT cI cY B H q n w F ∧ hI cI B H x w f ∧ B ≤ H.size) sz)) (sQr (fun H a => hU cI cY B sz H a (n + 1) w (s_more F n f)) (aN sz)) (1) (n + 1) (aN sz) := by
  refine sa_startZ (cc := cX2_more) (maxL := 4) (ret := (some (.array (.array .int)))) (Q0 := sQr (fun H a => hU cI cY B sz H a (n + 1) w (s_more F n f))) aN aN_ok RX2 (by decide) rfl rfl (Nat.le_of_ble_eq_true rfl) ?_
  intro p e s m below meth c ⟨hx, hb, hr, hml, hown, hts, hlocks, hini⟩ hsz ⟨⟨a, ⟨g0, hg0, hga⟩, hrow⟩, hx0, hB⟩ hK A hAe hA hS ls hl
  subst hsz
  have hl : lv_has ls 4 [(0, .ref q), (1, .ref x)] := hl
  refine lv_aload_n hx hb dX2_more_0 rfl (lv_at hl 0 rfl) ?_
  refine sx_alenG hx hb hK.1 hg0 dX2_more_1 ?_
  refine lv_iconst (v := 1) hx hb dX2_more_2 (by decide) ?_
  refine lv_iadd hx hb dX2_more_3 ?_
  refine lv_cvi (nI_1 n) ?_
  refine sx_anew (N := n + 1) hx hb hown (hts _ cl_more) hK hS hB (ix_nI (by omega)) (by omega) (by first | exact Nat.le_of_ble_eq_true rfl | omega | (dsimp only; omega)) (by first | exact Nat.le_of_ble_eq_true rfl | omega | (dsimp only; omega)) dX2_more_4 (fun q9 H hq9 hE hN hS => ?_)
  refine lv_astore_n (lv' := [(2, .ref q9), (0, .ref q), (1, .ref x)]) hx hb dX2_more_7 rfl hl (by decide) rfl (fun ls hl => ?_)
  refine lv_iconst (v := 0) hx hb dX2_more_8 (by decide) ?_
  refine lv_istore_n (lv' := [(3, .int 0), (2, .ref q9), (0, .ref q), (1, .ref x)]) hx hb dX2_more_9 rfl hl (by decide) rfl (fun ls hl => ?_)
  have hL : ∀ (k i : Nat), n - i < k → i ≤ n → ∀ (H : Heap) (locs : List Loc) (g : Nat → Option Nat), hy 0 s.heap H → va_S A s.heap H locs → hG cY B H q9 (n + 1) g → (∀ j : Nat, j < i → g j = some (a j)) → ∀ ls : Array Slot, lv_has ls 4 [(3, .int (nI i)), (2, .ref q9), (0, .ref q), (1, .ref x)] → W p l e ({ frames := 0, cells := 1, slots := n + 1, locals := 0 } : Room) s m ([.ref q, .ref x] : List Value).toArray below meth c H locs (0 + 1) (0 + (n + 1)) (MQ below (sQr (fun H a => hU cI cY B s.heap.size H a (n + 1) w (s_more F n f)) A) ([.ref q, .ref x] : List Value).toArray s (1) (n + 1) A) (F0 m 10 ls []) := by
    intro k
    induction k with
    | zero => intro i hk; exact absurd hk (Nat.not_lt_zero _)
    | succ k ih =>
      intro i hk hi H locs g hE hS hN hg ls hl
      refine lv_iload_n hx hb dX2_more_10 rfl (lv_at hl 0 rfl) ?_
      refine lv_aload_n hx hb dX2_more_11 rfl (lv_at hl 2 rfl) ?_
      refine sx_alenG hx hb hK.1 (hg0.ext0 hE) dX2_more_12 ?_
      refine lv_icmp_ge (tgt := 28) hx hb dX2_more_13 (by decide) (fun c1 => ?_) (fun c1 => ?_)
      · have h1 := nI_le_le (by omega) (by omega) c1
        have h2 : i = n := by omega
        subst h2
        refine lv_aload_n hx hb dX2_more_28 rfl (lv_at hl 1 rfl) ?_
        refine lv_aload_n hx hb dX2_more_29 rfl (lv_at hl 2 rfl) ?_
        refine sx_alenG hx hb hK.1 (hg0.ext0 hE) dX2_more_30 ?_
        refine lv_aload_n hx hb dX2_more_31 rfl (lv_at hl 3 rfl) ?_
        refine sx_aast hx hb hK hS hN (hx0.ext0 hE) (hA q9 (Nat.le_of_eq hq9.symm)) (ix_nI (by omega)) (by omega) dX2_more_32 (fun H1 locs1 hN1 hz_ ho_ hS1 => ?_)
        have hE1 := hE.wr (Nat.le_of_eq hq9.symm) hz_ ho_
        refine lv_aload_n hx hb dX2_more_33 rfl (lv_at hl 1 rfl) ?_
        refine sa_aret (Pf := _) hx hb hr hlocks ⟨Nat.le_of_eq hq9.symm, s_more a i x, ⟨_, hN1, fun j hj => ?_⟩, fun j hj => ?_⟩ hS1 (Nat.le_refl _) (by omega) dX2_more_34
        · show va_up g i (some x) j = some (s_more a i x j)
          unfold va_up s_more
          by_cases h : j = i
          · rw [if_pos h, if_pos h]
          · rw [if_neg h, if_neg h]; exact hg j (by omega)
        · by_cases h : j = i
          · have e1 : s_more a i x j = x := if_pos h
            rw [e1]
            exact ⟨(hx0.ext0 hE1).cg (fun k _ => by rw [s_more, if_pos h]), hx0.lt⟩
          · have e1 : s_more a i x j = a j := if_neg h
            rw [e1]
            exact ⟨((hrow j (by omega)).ext0 hE1).cg (fun k _ => by rw [s_more, if_neg h]), (hrow j (by omega)).lt⟩
      · have h1 : i < n := nI_nle_lt (by omega) (by omega) c1
        refine lv_aload_n hx hb dX2_more_16 rfl (lv_at hl 1 rfl) ?_
        refine lv_iload_n hx hb dX2_more_17 rfl (lv_at hl 0 rfl) ?_
        refine lv_aload_n hx hb dX2_more_18 rfl (lv_at hl 2 rfl) ?_
        refine lv_iload_n hx hb dX2_more_19 rfl (lv_at hl 0 rfl) ?_
        refine sx_aaldG (x := a i) hx hb hK.1 (hg0.ext0 hE) (hga i h1) (ix_nI (by omega)) h1 dX2_more_20 ?_
        refine sx_aast hx hb hK hS hN ((hrow i h1).ext0 hE) (hA q9 (Nat.le_of_eq hq9.symm)) (ix_nI (by omega)) (by omega) dX2_more_21 (fun H1 locs1 hN1 hz_ ho_ hS1 => ?_)
        refine lv_iinc (v := nI (i + 1)) (lv' := [(3, .int (nI (i + 1))), (2, .ref q9), (0, .ref q), (1, .ref x)]) hx hb dX2_more_22 hl (k := 0) rfl (nI_1 _) (by decide) rfl (fun ls hl => ?_)
        refine lv_goto (tgt := 10) hx hb dX2_more_25 (by decide) ?_
        exact ih (i + 1) (by omega) (by omega) H1 locs1 _ (hE.wr (Nat.le_of_eq hq9.symm) hz_ ho_) hS1 hN1 (hQ.up (cY := cY) (B := B) (H := H) (q := q9) (n := n) hg) _ hl
  exact hL _ 0 (Nat.lt_succ_self _) (Nat.zero_le _) H _ _ hE hS hN (fun j hj => absurd hj (Nat.not_lt_zero _)) _ hl
theorem hd_X2_less : yX2_less.cls = RX2 ∧ yX2_less.cls ≠ "java/lang/invoke/MethodHandle" ∧ yX2_less.cls ≠ "java/lang/invoke/VarHandle" ∧ (parseMethodDescriptor yX2_less.desc).map (fun d => d.parameters.length) = some 2 := by decide +kernel
theorem cl_less : (Cond.classLink RX2 7 "[I") ∈ wsX2_less := by decide +kernel
set_option maxHeartbeats 4000000 in
set_option maxRecDepth 100000 in
theorem c_X2_less (l : Launch) (dC : Nat → ClassId) (dI : Nat → Nat → Nat) (cI cZ cY : ClassId) (B q t n1 w : Nat) (F : Nat → Nat → Int32) (hn : n1 ≤ 1100) (ht : t < n1) (sz : Nat) : Met l yX2_less wsX2_less ({ frames := 0, cells := 1, slots := n1, locals := 0 }) (va_Pc [.ref q, .int (nI t)] (sPz (dC, dI) cI cZ cY (fun H => hT cI cY B H q n1 w F ∧ B ≤ H.size) sz)) (sQr (fun H a => hU cI cY B sz H a (n1 - 1) w (s_less F t)) (aN sz)) (1) (n1) (aN sz) := by
  refine sa_startZ (cc := cX2_less) (maxL := 4) (ret := (some (.array (.array .int)))) (Q0 := sQr (fun H a => hU cI cY B sz H a (n1 - 1) w (s_less F t))) aN aN_ok RX2 (by decide) rfl rfl (Nat.le_of_ble_eq_true rfl) ?_
  intro p e s m below meth c ⟨hx, hb, hr, hml, hown, hts, hlocks, hini⟩ hsz ⟨⟨a, ⟨g0, hg0, hga⟩, hrow⟩, hB⟩ hK A hAe hA hS ls hl
  subst hsz
  have e9 : n1 - 1 + 1 = n1 := by omega
  have hl : lv_has ls 4 [(0, .ref q), (1, .int (nI t))] := hl
  refine lv_aload_n hx hb dX2_less_0 rfl (lv_at hl 0 rfl) ?_
  refine sx_alenG hx hb hK.1 hg0 dX2_less_1 ?_
  refine lv_iconst (v := 1) hx hb dX2_less_2 (by decide) ?_
  refine lv_isub hx hb dX2_less_3 ?_
  refine lv_cvi (show nI n1 - 1 = nI (n1 - 1) from by have := nI_m1 (n1 - 1); rw [e9] at this; exact this) ?_
  refine sx_anew (N := n1 - 1) hx hb hown (hts _ cl_less) hK hS hB (ix_nI (by omega)) (by omega) (by first | exact Nat.le_of_ble_eq_true rfl | omega | (dsimp only; omega)) (by dsimp only; omega) dX2_less_4 (fun q9 H hq9 hE hN hS => ?_)
  refine lv_astore_n (lv' := [(2, .ref q9), (0, .ref q), (1, .int (nI t))]) hx hb dX2_less_7 rfl hl (by decide) rfl (fun ls hl => ?_)
  refine lv_iconst (v := 0) hx hb dX2_less_8 (by decide) ?_
  refine lv_istore_n (lv' := [(3, .int 0), (2, .ref q9), (0, .ref q), (1, .int (nI t))]) hx hb dX2_less_9 rfl hl (by decide) rfl (fun ls hl => ?_)
  have hL : ∀ (k i : Nat), n1 - 1 - i < k → i ≤ n1 - 1 → ∀ (H : Heap) (locs : List Loc) (g : Nat → Option Nat), hy 0 s.heap H → va_S A s.heap H locs → hG cY B H q9 (n1 - 1) g → (∀ j : Nat, j < i → g j = some (s_less a t j)) → ∀ ls : Array Slot, lv_has ls 4 [(3, .int (nI i)), (2, .ref q9), (0, .ref q), (1, .int (nI t))] → W p l e ({ frames := 0, cells := 1, slots := n1, locals := 0 } : Room) s m ([.ref q, .int (nI t)] : List Value).toArray below meth c H locs (0 + 1) (0 + (n1 - 1)) (MQ below (sQr (fun H a => hU cI cY B s.heap.size H a (n1 - 1) w (s_less F t)) A) ([.ref q, .int (nI t)] : List Value).toArray s (1) (n1) A) (F0 m 10 ls []) := by
    intro k
    induction k with
    | zero => intro i hk; exact absurd hk (Nat.not_lt_zero _)
    | succ k ih =>
      intro i hk hi H locs g hE hS hN hg ls hl
      refine lv_iload_n hx hb dX2_less_10 rfl (lv_at hl 0 rfl) ?_
      refine lv_aload_n hx hb dX2_less_11 rfl (lv_at hl 1 rfl) ?_
      refine sx_alenG hx hb hK.1 hN dX2_less_12 ?_
      refine lv_icmp_ge (tgt := 39) hx hb dX2_less_13 (by decide) (fun c1 => ?_) (fun c1 => ?_)
      · have h1 := nI_le_le (by omega) (by omega) c1
        have h2 : i = n1 - 1 := by omega
        refine lv_aload_n hx hb dX2_less_39 rfl (lv_at hl 1 rfl) ?_
        refine sa_aret (Pf := _) hx hb hr hlocks ⟨Nat.le_of_eq hq9.symm, s_less a t, ⟨_, hN, fun j hj => hg j (by omega)⟩, fun j hj => ?_⟩ hS (Nat.le_refl _) (by omega) dX2_less_40
        have hj : j < n1 - 1 := hj
        by_cases h : j < t
        · have e1 : s_less a t j = a j := if_pos h
          rw [e1]
          exact ⟨((hrow j (by omega)).ext0 hE).cg (fun k _ => by rw [s_less, if_pos h]), (hrow j (by omega)).lt⟩
        · have e1 : s_less a t j = a (j + 1) := if_neg h
          rw [e1]
          exact ⟨((hrow (j + 1) (by omega)).ext0 hE).cg (fun k _ => by rw [s_less, if_neg h]), (hrow (j + 1) (by omega)).lt⟩
      · have h1 : i < n1 - 1 := nI_nle_lt (by omega) (by omega) c1
        refine lv_aload_n hx hb dX2_less_16 rfl (lv_at hl 1 rfl) ?_
        refine lv_iload_n hx hb dX2_less_17 rfl (lv_at hl 0 rfl) ?_
        refine lv_aload_n hx hb dX2_less_18 rfl (lv_at hl 2 rfl) ?_
        refine lv_iload_n hx hb dX2_less_19 rfl (lv_at hl 0 rfl) ?_
        refine lv_iload_n hx hb dX2_less_20 rfl (lv_at hl 3 rfl) ?_
        refine lv_icmp_ge (tgt := 28) hx hb dX2_less_21 (by decide) (fun c2 => ?_) (fun c2 => ?_)
        · have h2 := nI_le_le (by omega) (by omega) c2
          refine lv_iload_n hx hb dX2_less_28 rfl (lv_at hl 0 rfl) ?_
          refine lv_iconst (v := 1) hx hb dX2_less_29 (by decide) ?_
          refine lv_iadd hx hb dX2_less_30 ?_
          refine lv_cvi (nI_1 i) ?_
          refine sx_aaldG (x := a (i + 1)) hx hb hK.1 (hg0.ext0 hE) (hga (i + 1) (by omega)) (ix_nI (by omega)) (by omega) dX2_less_31 ?_
          refine sx_aast hx hb hK hS hN ((hrow (i + 1) (by omega)).ext0 hE) (hA q9 (Nat.le_of_eq hq9.symm)) (ix_nI (by omega)) (by omega) dX2_less_32 (fun H1 locs1 hN1 hz_ ho_ hS1 => ?_)
          refine lv_iinc (v := nI (i + 1)) (lv' := [(3, .int (nI (i + 1))), (2, .ref q9), (0, .ref q), (1, .int (nI t))]) hx hb dX2_less_33 hl (k := 0) rfl (nI_1 _) (by decide) rfl (fun ls hl => ?_)
          refine lv_goto (tgt := 10) hx hb dX2_less_36 (by decide) ?_
          have e1 : s_less a t i = a (i + 1) := if_neg (by omega)
          rw [← e1] at hN1
          exact ih (i + 1) (by omega) (by omega) H1 locs1 _ (hE.wr (Nat.le_of_eq hq9.symm) hz_ ho_) hS1 hN1 (hQ.up (cY := cY) (B := B) (H := H) (q := q9) (n := n1 - 1) hg) _ hl
        · have h2 : i < t := nI_nle_lt (by omega) (by omega) c2
          refine lv_iload_n hx hb dX2_less_24 rfl (lv_at hl 0 rfl) ?_
          refine lv_goto (tgt := 31) hx hb dX2_less_25 (by decide) ?_
          refine sx_aaldG (x := a i) hx hb hK.1 (hg0.ext0 hE) (hga i (by omega)) (ix_nI (by omega)) (by omega) dX2_less_31 ?_
          refine sx_aast hx hb hK hS hN ((hrow i (by omega)).ext0 hE) (hA q9 (Nat.le_of_eq hq9.symm)) (ix_nI (by omega)) (by omega) dX2_less_32 (fun H1 locs1 hN1 hz_ ho_ hS1 => ?_)
          refine lv_iinc (v := nI (i + 1)) (lv' := [(3, .int (nI (i + 1))), (2, .ref q9), (0, .ref q), (1, .int (nI t))]) hx hb dX2_less_33 hl (k := 0) rfl (nI_1 _) (by decide) rfl (fun ls hl => ?_)
          refine lv_goto (tgt := 10) hx hb dX2_less_36 (by decide) ?_
          have e1 : s_less a t i = a i := if_pos h2
          rw [← e1] at hN1
          exact ih (i + 1) (by omega) (by omega) H1 locs1 _ (hE.wr (Nat.le_of_eq hq9.symm) hz_ ho_) hS1 hN1 (hQ.up (cY := cY) (B := B) (H := H) (q := q9) (n := n1 - 1) hg) _ hl
  exact hL _ 0 (Nat.lt_succ_self _) (Nat.zero_le _) H _ _ hE hS hN (fun j hj => absurd hj (Nat.not_lt_zero _)) _ hl
