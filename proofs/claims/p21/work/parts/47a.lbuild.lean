/-! the law's build: a moor that cells choose, by program (gens.py) -/
abbrev l_v0 : lS := (4, s_C0, 2, s_T0, 0, fun _ _ => 0, 0)
abbrev l_nest : Cond := .methodLinkNest RL 70 yX2_init "MoorTrianglesLaw"
abbrev bP (D : va_G) (cI cZ cY : ClassId) (a : Nat → Nat) (B0 b L : Nat) (xs : Nat → Int32) (u0 : lX) (sz : Nat) : State → Prop := fun U => U.heap.size = sz ∧ B0 ≤ sz ∧ (va_P D vwCl (lW cI a u0) U.heap ∧ va_D (lB B0 sz) (lW cI a u0)) ∧ kS D cI cZ cY U ∧ xE (fun q => B0 ≤ q) U U.heap ∧ va_X b L xs U U.heap ∧ b < B0 ∧ va_Nw l_nest U
theorem bBlind {As : List Value} {D : va_G} {cI cZ cY : ClassId} {a : Nat → Nat} {B0 b L : Nat} {xs : Nat → Int32} {u0 : lX} {sz : Nat} : FrameBlind (va_Pc As (bP D cI cZ cY a B0 b L xs u0 sz)) := fun a U g mk q => ⟨q.1, q.2.1, q.2.2.1, q.2.2.2.1, kS.moved (u := U) (U := U.calling g mk a) (Vm.Alike.refl U.vm) q.2.2.2.2.1, xE_call g mk a q.2.2.2.2.2.1, va_X.moved (u := U) (U := U.calling g mk a) (Vm.Alike.refl U.vm) q.2.2.2.2.2.2.1, q.2.2.2.2.2.2.2.1, va_Nw.same (u := U) (U := U.calling g mk a) rfl rfl q.2.2.2.2.2.2.2.2⟩
theorem in_L_build_X2 : ∀ w ∈ wsX20, w ∈ wsL_build := by decide +kernel
theorem hd_L_act2 : yL_act.cls ≠ "java/lang/invoke/MethodHandle" ∧ yL_act.cls ≠ "java/lang/invoke/VarHandle" ∧ (parseMethodDescriptor yL_act.desc).map (fun d => d.parameters.length) = some 3 := by decide +kernel
theorem hd_X2_init2 : yX2_init.cls ≠ "java/lang/invoke/MethodHandle" ∧ yX2_init.cls ≠ "java/lang/invoke/VarHandle" ∧ (parseMethodDescriptor yX2_init.desc).map (fun d => d.parameters.length) = some 0 := by decide +kernel
set_option maxHeartbeats 4000000 in
set_option maxRecDepth 100000 in
theorem c_L_build (l : Launch) (hl0 : l.stackTraces = false) (dC : Nat → ClassId) (dI : Nat → Nat → Nat) (cI cZ cY : ClassId) (a : Nat → Nat) (B0 b L : Nat) (xs : Nat → Int32) (hL : L < 100000) (u0 : lX) (R : lX → lS → Prop) (M N : Nat) (hR0 : R u0 l_v0) (hQ : ∀ u v x, R u v → q_act R M N u v x) (sz : Nat) : Met l yL_build wsL_build ({ frames := 9, cells := 10 + 21 * M, slots := 28 + 21 * N, locals := 203 }) (va_Pc [.ref (a 0), .ref b] (bP (dC, dI) cI cZ cY a B0 b L xs u0 sz)) (va_Qr (fun w : lX × lS => R w.1 w.2) (fun w ad t => ad = sz ∧ lJ (dC, dI) cI cY a B0 sz w.1 w.2 t.heap) (fun q => B0 ≤ q)) (10 + 21 * M) (28 + 21 * N) (fun q => B0 ≤ q) := by
  refine Met.ofW (cc := cL_build) (maxL := 5) (ret := (some (.object "MoorTrianglesLaw$Sim"))) (by decide) rfl ?_
  intro p e s m args below meth c s₁ B hml hv
  obtain ⟨rfl, hsz, hB, ⟨hP, hD⟩, hK, hE, hX, hbB, hNest⟩ := hv
  subst hsz
  rw [lg_entry_eq]
  have hx := B.exec
  have hb := B.bytes
  have hr := B.returns
  have hown : s.vm.findClass RL = some m.cls := findClass_of_methodNamed B.named
  have hts := atoms_spec B.pre
  have hlocks := B.notSynchronized
  have hl := lv_entry ([.ref (a 0), .ref b]) (n := 5) (Nat.le_of_ble_eq_true rfl)
  generalize (lg_sl ([.ref (a 0), .ref b]) ++ List.replicate (5 - (lg_sl ([.ref (a 0), .ref b])).length) Slot.unset).toArray = ls at hl ⊢
  have hl : lv_has ls 5 [(0, .ref (a 0)), (1, .ref b)] := hl
  have F : CallFix p m c cL_build 5 s ([.ref (a 0), .ref b] : List Value).toArray wsL_build RL := ⟨hx, hb, hml, hown, hts⟩
  have hS : va_S (fun q => B0 ≤ q) s.heap s.heap [] := va_S.rf
  have hA : ∀ q : Nat, s.heap.size ≤ q → B0 ≤ q := fun q z => Nat.le_trans hB z
  have hbl : b < s.heap.size := Nat.lt_of_lt_of_le hbB hB
  have hbA : ¬ B0 ≤ b := Nat.not_le.mpr hbB
  change W p l e ({ frames := 9, cells := 10 + 21 * M, slots := 28 + 21 * N, locals := 203 } : Room) s m _ below meth c s.heap [] 0 0 _ _
  refine la_new hx hb hts in_L_build_X2 hown (hts (.classLink RL 10 RX2) (by decide +kernel)) (hts (.instantiable RX2 4) (by decide +kernel)) (hts (.initialized RX2) (by decide +kernel)) hK hS (by first | exact Nat.le_of_ble_eq_true rfl | omega | (dsimp only; omega)) (by first | exact Nat.le_of_ble_eq_true rfl | omega | (dsimp only; omega)) dL_build_0 (fun h H hh hE1 hO hS => ?_)
  have hDh : va_D (lB B0 h) (lW cI a u0) := by rw [hh]; exact hD
  have hAh : B0 ≤ h := by rw [hh]; exact hB
  have hP : va_P (dC, dI) vwCl (lW cI a u0) H := hP.hy0 hE1
  refine lv_dup hx hb dL_build_3 rfl ?_
  refine lc_initN (hh := h) (As := []) (rest := [.ref h]) F (c_X2_init l dC dI cI cZ cY h H.size) ⟨va_cnB (host := "MoorTrianglesLaw") 0 hts gL_build_X2_init_n70 rfl rfl rfl hNest (hts (.initialized RX2) (by decide +kernel)) hd_X2_init2 ⟨Nat.le_of_ble_eq_true rfl, Nat.le_of_ble_eq_true rfl⟩, rfl, hts (.instanceMethod yX2_init) (by decide +kernel)⟩ hO hK hS hA hAh rfl hl.1 rfl (lv_room (Nat.le_of_ble_eq_true rfl)) dL_build_4 ⟨(by first | exact Nat.le_of_ble_eq_true rfl | omega | (dsimp only; omega)), (by first | exact Nat.le_of_ble_eq_true rfl | omega | (dsimp only; omega))⟩ (fun H1 locs1 hM hZ hS => ?_)
  have hP : va_P (dC, dI) vwCl (lW cI a u0) H1 := hP.hz9 hDh hZ
  have hJ0 : lJ (dC, dI) cI cY a B0 h u0 l_v0 H1 := ⟨hP, hDh, hM⟩
  refine lv_astore_n (lv' := [(2, .ref h), (0, .ref (a 0)), (1, .ref b)]) hx hb dL_build_7 rfl hl (by decide) rfl (fun ls hl => ?_)
  refine lv_bipush (v := 8) hx hb dL_build_8 (by decide) ?_
  refine lv_cvi (y := nI 8) (by decide) ?_
  refine lv_aload_n hx hb dL_build_10 rfl (lv_at hl 2 rfl) ?_
  refine lv_iconst (v := 0) hx hb dL_build_11 (by decide) ?_
  refine lv_cvi (y := nI 0) (by decide) ?_
  refine lc_cell (As := [.ref b, .int (nI 0)]) (rest := [.int (nI 8)]) F (c_L_cell l dC dI cI cZ cY b L 0 xs (by decide) hL) (va_cwS 2 hts gL_build_L_cell rfl rfl rfl hd_L_cell.2 ⟨Nat.le_of_ble_eq_true rfl, Nat.le_of_ble_eq_true rfl⟩) hX hbl hbA hK hS rfl hl.1 rfl (lv_room (Nat.le_of_ble_eq_true rfl)) dL_build_12 ⟨(by first | exact Nat.le_of_ble_eq_true rfl | omega | (dsimp only; omega)), (by first | exact Nat.le_of_ble_eq_true rfl | omega | (dsimp only; omega))⟩ ?_
  refine lv_bipush (v := 14) hx hb dL_build_15 (by decide) ?_
  refine lv_cvi (y := nI 14) (by decide) ?_
  refine sr_cSi (As := [.int (l_cell xs L 0), .int (nI 14)]) (rest := [.int (nI 8)]) F (c_L_below l dC dI cI cZ cY (l_cell xs L 0) 14 ⟨by omega, by omega⟩) (va_cwS 2 hts gL_build_L_below rfl rfl rfl hd_L_below.2 ⟨Nat.le_of_ble_eq_true rfl, Nat.le_of_ble_eq_true rfl⟩) trivial hK rfl hl.1 rfl (lv_room (Nat.le_of_ble_eq_true rfl)) dL_build_17 ⟨(by first | exact Nat.le_of_ble_eq_true rfl | omega | (dsimp only; omega)), (by first | exact Nat.le_of_ble_eq_true rfl | omega | (dsimp only; omega))⟩ ?_
  have hn9 := l_bel_lt (v := l_cell xs L 0) (n := 14) (by decide)
  generalize l_bel (l_cell xs L 0) 14 = q9 at hn9 ⊢
  refine lv_iadd hx hb dL_build_20 ?_
  refine lv_cvi (y := nI (8 + q9)) (nI_add 8 q9) ?_
  obtain ⟨n9, hn⟩ : ∃ n9, n9 = 8 + q9 := ⟨_, rfl⟩
  rw [← hn]
  refine lv_istore_n (lv' := [(3, .int (nI n9)), (2, .ref h), (0, .ref (a 0)), (1, .ref b)]) hx hb dL_build_21 rfl hl (by decide) rfl (fun ls hl => ?_)
  refine lv_iconst (v := 0) hx hb dL_build_22 (by decide) ?_
  refine lv_cvi (y := nI 0) (by decide) ?_
  refine lv_istore (lv' := [(4, .int (nI 0)), (3, .int (nI n9)), (2, .ref h), (0, .ref (a 0)), (1, .ref b)]) hx hb dL_build_23 hl (by decide) rfl (fun ls hl => ?_)
  have hLoop : ∀ (k i : Nat) (u : lX) (v : lS), n9 - i < k → i ≤ n9 → R u v → ∀ (H : Heap) (locs : List Loc), lJ (dC, dI) cI cY a B0 h u v H → va_S (fun q => B0 ≤ q) s.heap H locs → ∀ ls : Array Slot, lv_has ls 5 [(4, .int (nI i)), (3, .int (nI n9)), (2, .ref h), (0, .ref (a 0)), (1, .ref b)] → W p l e ({ frames := 9, cells := 10 + 21 * M, slots := 28 + 21 * N, locals := 203 } : Room) s m ([.ref (a 0), .ref b] : List Value).toArray below meth c H locs (10 + i * M) (28 + i * N) (MQ below (va_Qr (fun w : lX × lS => R w.1 w.2) (fun w ad t => ad = s.heap.size ∧ lJ (dC, dI) cI cY a B0 s.heap.size w.1 w.2 t.heap) (fun q => B0 ≤ q)) ([.ref (a 0), .ref b] : List Value).toArray s (10 + 21 * M) (28 + 21 * N) (fun q => B0 ≤ q)) (F0 m 25 ls []) := by
    intro k
    induction k with
    | zero => intro i u v hk; exact absurd hk (Nat.not_lt_zero _)
    | succ k ih =>
      intro i u v hk hi hR H locs hJ hS ls hl
      have hm1 : i * M ≤ 21 * M := Nat.mul_le_mul_right _ (by omega)
      have hm2 : i * N ≤ 21 * N := Nat.mul_le_mul_right _ (by omega)
      refine lv_iload hx hb dL_build_25 (lv_at hl 0 rfl) ?_
      refine lv_iload_n hx hb dL_build_27 rfl (lv_at hl 1 rfl) ?_
      refine lv_icmp_ge (tgt := 71) hx hb dL_build_28 (by decide) (fun c1 => ?_) (fun c1 => ?_)
      · refine lv_aload_n hx hb dL_build_71 rfl (lv_at hl 2 rfl) ?_
        refine W.widen (show _ ≤ 10 + 21 * M by omega) (show _ ≤ 28 + 21 * N by omega) (W.aret hx hb hr (Or.inl ⟨_, rfl⟩) (Or.inr ⟨h, rfl⟩) (fun t ht _ => ⟨⟨(u, v), h, rfl, hR, hh, by rw [ht, ← hh]; exact hJ⟩, hS.F ht⟩) hS.2.2 dL_build_72 hlocks)
      · have hlt : i < n9 := nI_nle_lt (by omega) (by omega) c1
        have hm3 : (i + 1) * M ≤ 21 * M := Nat.mul_le_mul_right _ (by omega)
        have hm4 : (i + 1) * N ≤ 21 * N := Nat.mul_le_mul_right _ (by omega)
        have hm5 : (i + 1) * M = i * M + M := Nat.succ_mul i M
        have hm6 : (i + 1) * N = i * N + N := Nat.succ_mul i N
        refine lv_aload_n hx hb dL_build_31 rfl (lv_at hl 3 rfl) ?_
        refine lv_aload_n hx hb dL_build_32 rfl (lv_at hl 2 rfl) ?_
        refine lv_aload_n hx hb dL_build_33 rfl (lv_at hl 4 rfl) ?_
        refine lv_iload hx hb dL_build_34 (lv_at hl 0 rfl) ?_
        refine lv_bipush (v := 16) hx hb dL_build_36 (by decide) ?_
        refine lv_irem hx hb dL_build_38 (by decide) ?_
        refine lv_cvi (y := nI (i % 16)) (pk_rem (d := 16) (by omega) (by decide) (by decide)) ?_
        refine lc_cell (As := [.ref b, .int (nI (i % 16))]) (rest := [.ref h, .ref (a 0)]) F (c_L_cell l dC dI cI cZ cY b L (i % 16) xs (by omega) hL) (va_cwS 2 hts gL_build_L_cell rfl rfl rfl hd_L_cell.2 ⟨Nat.le_of_ble_eq_true rfl, Nat.le_of_ble_eq_true rfl⟩) hX hbl hbA hK hS rfl hl.1 rfl (lv_room (Nat.le_of_ble_eq_true rfl)) dL_build_39 ⟨(by first | exact Nat.le_of_ble_eq_true rfl | omega | (dsimp only; omega)), (by first | exact Nat.le_of_ble_eq_true rfl | omega | (dsimp only; omega))⟩ ?_
        refine lv_iload hx hb dL_build_42 (lv_at hl 0 rfl) ?_
        refine lv_bipush (v := 16) hx hb dL_build_44 (by decide) ?_
        refine lv_idiv hx hb dL_build_46 (by decide) ?_
        refine lv_iconst (v := 4) hx hb dL_build_47 (by decide) ?_
        refine lv_imul hx hb dL_build_48 ?_
        refine lv_ishr hx hb dL_build_49 ?_
        refine lv_sipush (v := 293) hx hb dL_build_50 (by decide) ?_
        refine lv_iload hx hb dL_build_53 (lv_at hl 0 rfl) ?_
        refine lv_imul hx hb dL_build_55 ?_
        refine lv_iadd hx hb dL_build_56 ?_
        refine lc_act (rest := []) F (c_act9 l hl0 dC dI cI cZ cY a B0 h R M N u v _ (hQ u v _ hR) H.size) (va_cwS 3 hts gL_build_L_act rfl rfl rfl hd_L_act2 ⟨Nat.le_of_ble_eq_true rfl, Nat.le_of_ble_eq_true rfl⟩) hJ hK hE hB hS rfl hl.1 rfl (lv_room (Nat.le_of_ble_eq_true rfl)) dL_build_57 ⟨(by first | exact Nat.le_of_ble_eq_true rfl | omega | (dsimp only; omega)), (by first | exact Nat.le_of_ble_eq_true rfl | omega | (dsimp only; omega))⟩ (fun u1 v1 H1 locs1 hR1 hJ1 hS1 => ?_)
        refine lv_if_ne (tgt := 65) hx hb dL_build_60 (by decide) (fun c2 => ?_) (fun c2 => ?_)
        · refine lv_iinc (v := nI (i + 1)) (lv' := [(4, .int (nI (i + 1))), (3, .int (nI n9)), (2, .ref h), (0, .ref (a 0)), (1, .ref b)]) hx hb dL_build_65 hl (k := 0) rfl (nI_1 _) (by decide) rfl (fun ls hl => ?_)
          refine lv_goto (tgt := 25) hx hb dL_build_68 (by decide) ?_
          refine W.widen (show _ ≤ 10 + (i + 1) * M by omega) (show _ ≤ 28 + (i + 1) * N by omega) ?_
          exact ih (i + 1) u1 v1 (by omega) hlt hR1 H1 locs1 hJ1 hS1 _ hl
        · exact absurd c2 (by decide)
  refine W.widen (show _ ≤ 10 + 0 * M by omega) (show _ ≤ 28 + 0 * N by omega) ?_
  exact hLoop (n9 + 1) 0 u0 l_v0 (by omega) (Nat.zero_le _) hR0 H1 locs1 hJ0 hS _ hl
