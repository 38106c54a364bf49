/-! the law's own methods: act, by program (gens.py) -/
def l_z (o : Int32) : Bool := if o ≤ 0 then false else true
def s_fixS (nS : Nat) (S : Nat → Nat → Int32) (a b : Int32) (z : Bool) : Nat × (Nat → Nat → Int32) := if s_stay nS S a b = true then (if z = true then (nS, S) else match rg_fst (s_pS S a b) nS with
  | none => (nS, S)
  | some k => (nS - 1, s_less S k)) else (if z = true then (nS + 1, s_more S nS (s2 a b)) else (nS, S))
theorem s_stay_none {nS : Nat} {S : Nat → Nat → Int32} {a b : Int32} (h : ∀ q, q < nS → s_pS S a b q = false) : s_stay nS S a b = false := by
  unfold s_stay; rw [rg_fst_none h]; rfl
theorem s_stay_some {nS : Nat} {S : Nat → Nat → Int32} {a b : Int32} {j : Nat} (h : s_pS S a b j = true) (hb : ∀ q, q < j → s_pS S a b q = false) (hj : j < nS) : s_stay nS S a b = true := by
  unfold s_stay; rw [rg_fst_some h hb hj]; rfl
theorem s_fixS_l {nS : Nat} {S : Nat → Nat → Int32} {a b : Int32} {z : Bool} {j : Nat} (hz : z = false) (h : s_pS S a b j = true) (hb : ∀ q, q < j → s_pS S a b q = false) (hj : j < nS) : s_fixS nS S a b z = (nS - 1, s_less S j) := by
  subst hz
  unfold s_fixS; rw [if_pos (s_stay_some h hb hj), if_neg (by decide), rg_fst_some h hb hj]
theorem s_fixS_t {nS : Nat} {S : Nat → Nat → Int32} {a b : Int32} {z : Bool} (hz : z = true) (h : s_stay nS S a b = true) : s_fixS nS S a b z = (nS, S) := by
  unfold s_fixS; rw [if_pos h, if_pos hz]
theorem s_fixS_f {nS : Nat} {S : Nat → Nat → Int32} {a b : Int32} {z : Bool} (hz : z = false) (h : s_stay nS S a b = false) : s_fixS nS S a b z = (nS, S) := by
  subst hz
  unfold s_fixS; rw [if_neg (by rw [h]; decide), if_neg (by decide)]
theorem s_fixS_m {nS : Nat} {S : Nat → Nat → Int32} {a b : Int32} {z : Bool} (hz : z = true) (h : s_stay nS S a b = false) : s_fixS nS S a b z = (nS + 1, s_more S nS (s2 a b)) := by
  unfold s_fixS; rw [if_neg (by rw [h]; decide), if_pos hz]
theorem s_flp_2 {C : Nat → Nat → Int32} {nT : Nat} {T : Nat → Nat → Int32} {nS : Nat} {S : Nat → Nat → Int32} {a b : Int32} (h : s_flp C nT T nS S a b = true) : (s_fa T a b nT).1 = 2 := by
  unfold s_flp at h
  by_cases q : nI (s_fa T a b nT).1 < 2
  · rw [if_pos q] at h; cases h
  · exact s_fa_nlt2 q
def s_okSt (nC : Nat) (C : Nat → Nat → Int32) (nT : Nat) (T : Nat → Nat → Int32) (nS : Nat) (S : Nat → Nat → Int32) (K W1 V1 : Nat) : Prop := (∀ k, k < K → (s_fu nC C (s_sq nC C nS S (nT, T) k).1 (s_sq nC C nS S (nT, T) k).2 nS S).isSome = true) ∧ s_fu nC C (s_sq nC C nS S (nT, T) K).1 (s_sq nC C nS S (nT, T) K).2 nS S = none ∧ (∀ k, k ≤ K → (s_sq nC C nS S (nT, T) k).1 ≤ 998 ∧ s_okF nC (s_sq nC C nS S (nT, T) k).1 (s_sq nC C nS S (nT, T) k).2) ∧ (∀ k, k ≤ K → s_dO nC (s_sq nC C nS S (nT, T) k).1 (s_sq nC C nS S (nT, T) k).2 nC + (s_sq nC C nS S (nT, T) k).1 + 10 ≤ W1) ∧ (∀ k, k ≤ K → 2 * s_dO nC (s_sq nC C nS S (nT, T) k).1 (s_sq nC C nS S (nT, T) k).2 nC + 6 * (s_sq nC C nS S (nT, T) k).1 + 20 ≤ V1)
def s_okV (nC : Nat) (C : Nat → Nat → Int32) (nT : Nat) (T : Nat → Nat → Int32) (nS : Nat) (S : Nat → Nat → Int32) (x y z : Int32) (V1 : Nat) : Prop := ∀ i k : Nat, i ≤ nT → k ≤ 3 → (s_bK (T i) (s_side (s_more C nC (s3 x y z)) (T i) x y) (nI nC) (s_b1 (T i) (s_bO (s_more C nC (s3 x y z)) x y (nI nC) T (nT, T, nS, S) i)) k).1 ≤ V1 ∧ (s_bK (T i) (s_side (s_more C nC (s3 x y z)) (T i) x y) (nI nC) (s_b1 (T i) (s_bO (s_more C nC (s3 x y z)) x y (nI nC) T (nT, T, nS, S) i)) k).2.2.1 ≤ V1 ∧ (s_bO (s_more C nC (s3 x y z)) x y (nI nC) T (nT, T, nS, S) i).1 ≤ V1
theorem in_up {i : Int32} {n : Nat} (h : vp_in i n) : vp_in i (n + 1) := fun q => h (q.elim Or.inl (fun z => Or.inr (Nat.le_of_succ_le z)))
theorem hI_ne_hG {cI cY : ClassId} {B B' : Nat} {H : Heap} {q q' n n' : Nat} {f : Nat → Int32} {g : Nat → Option Nat} (x : hI cI B H q n f) (y : hG cY B' H q' n' g) (hn : 0 < n) : q ≠ q' := by
  rintro rfl
  obtain ⟨-, g1, h1, -⟩ := x
  obtain ⟨-, h2⟩ := y
  rw [h1] at h2
  have e := Option.some.inj h2
  rw [vp_cell_i, vp_cell_q] at e
  have e1 : n = n' := by
    have h3 := congrArg (fun c : Cell => c.slots.size) e
    simpa only [arrV_size] using h3
  subst e1
  have e2 := congrArg (fun c : Cell => c.slots[0]?) e
  simp only [arrV_read _ _ hn] at e2
  cases hg : g 0 with
  | none => rw [hg] at e2; cases e2
  | some x => rw [hg] at e2; cases e2
section LST
variable {p : Program} {l : Launch} {e : Env} {R : Room} {s : State} {m : MethodId} {args : Array Value} {below : List Frame} {meth : Method} {c : Code} {H : Heap} {locs : List Loc} {cells slots : Nat} {Q : State → Prop}
variable {cc : ByteArray} {pc : Nat} {ls : Array Slot} {rest : List Value} {D : va_G} {H0 : Heap} {cI cZ cY : ClassId} {B0 h q n w : Nat} {f : Nat → Int32} {F : Nat → Nat → Int32} {i : Int32} {j : Nat}
theorem la_set {x : Nat} (hexec : p.tables.exec = Jvm.exec) (hb : c.code = cc) (hK : kS D cI cZ cY s) (hS : va_S (fun q => B0 ≤ q) H0 H locs) (hT0 : hT cI cY (h + 1) H q n w F) (hx : hI cI (h + 1) H x w f) (hB : B0 ≤ h) (hi : ix i j) (hj : j < n) (hw : 0 < w) (hdg : decode cc pc = .ok (.aastore, 1))
    (kk : ∀ (H1 : Heap) (locs1 : List Loc), hT cI cY (h + 1) H1 q n w (s_more F j f) → H1.size = H.size → (∀ y : Nat, y ≠ q → H1[y]? = H[y]?) → (∀ (q' n' w' : Nat) (F' : Nat → Nat → Int32), hT cI cY (h + 1) H q' n' w' F' → q' ≠ q → 0 < w' → hT cI cY (h + 1) H1 q' n' w' F') → va_S (fun q => B0 ≤ q) H0 H1 locs1 → W p l e R s m args below meth c H1 locs1 cells slots Q (F0 m (pc + 1) ls rest)) : W p l e R s m args below meth c H locs cells slots Q (F0 m pc ls (.ref x :: .int i :: .ref q :: rest)) := by
  obtain ⟨a, ⟨g, hG0, hg⟩, hrow⟩ := hT0
  refine sx_aast hexec hb hK hS hG0 hx (show B0 ≤ q from by have := hG0.1; omega) hi hj hdg fun H1 locs1 hN z o hS1 => ?_
  refine kk H1 locs1 ⟨s_more a j x, ⟨_, hN, fun k hk => ?_⟩, fun k hk => ?_⟩ z o (fun q' n' w' F' ht hne hw' => ?_) hS1
  · show va_up g j (some x) k = some (s_more a j x k)
    unfold va_up s_more
    by_cases h9 : k = j
    · rw [if_pos h9, if_pos h9]
    · rw [if_neg h9, if_neg h9]; exact hg k hk
  · by_cases h9 : k = j
    · have e1 : s_more a j x k = x := if_pos h9
      rw [e1]
      exact (hx.at (o x (hI_ne_hG hx hG0 hw))).cg (fun y _ => by rw [s_more, if_pos h9])
    · have e1 : s_more a j x k = a k := if_neg h9
      rw [e1]
      exact ((hrow k hk).at (o _ (hI_ne_hG (hrow k hk) hG0 hw))).cg (fun y _ => by rw [s_more, if_neg h9])
  · obtain ⟨a', ⟨g', hG', hg'⟩, hrow'⟩ := ht
    exact ⟨a', ⟨g', ⟨hG'.1, (o q' hne).trans hG'.2⟩, hg'⟩, fun k hk => (hrow' k hk).at (o _ (hI_ne_hG (hrow' k hk) hG0 hw'))⟩
end LST
theorem in_L_act_X2 : ∀ w ∈ wsX20, w ∈ wsL_act := by decide +kernel
theorem fl_L_act_9 : (Cond.fieldLink RL 9 "MoorTrianglesLaw$Sim" "cairns" "[[I") ∈ wsL_act := by decide +kernel
theorem fl_L_act_15 : (Cond.fieldLink RL 15 "MoorTrianglesLaw$Sim" "triangles" "[[I") ∈ wsL_act := by decide +kernel
theorem na_L_act : (Cond.arrayClass .int) ∈ wsL_act := by decide +kernel
theorem fl_L_act_33 : (Cond.fieldLink RL 33 "MoorTrianglesLaw$Sim" "stays" "[[I") ∈ wsL_act := by decide +kernel
theorem hd_L_act : yL_act.cls = RL ∧ yL_act.cls ≠ "java/lang/invoke/MethodHandle" ∧ yL_act.cls ≠ "java/lang/invoke/VarHandle" ∧ (parseMethodDescriptor yL_act.desc).map (fun d => d.parameters.length) = some 3 := by decide +kernel
set_option maxHeartbeats 8000000 in
set_option maxRecDepth 100000 in
theorem c_L_act (l : Launch) (hl0 : l.stackTraces = false) (dC : Nat → ClassId) (dI : Nat → Nat → Nat) (cI cZ cY : ClassId) (a : Nat → Nat) (B0 : Nat) (hs : Nat → Int32) (fx : Int32) (n t : Nat) (xs ys lf sy co : Nat → Int32) (n2 t2 : Nat) (xs2 ys2 lf2 sy2 co2 : Nat → Int32) (h : Nat) (nC : Nat) (C : Nat → Nat → Int32) (nT : Nat) (T : Nat → Nat → Int32) (nS : Nat) (S : Nat → Nat → Int32) (fl : Int32) (x : Int32) (kT jT c9 z9 o9 : Nat) (a9 b9 px py : Int32) (R : lX → lS → Prop) (M N W1 V1 : Nat) (hM : 600 ≤ M) (hN : 25000 ≤ N) (hnC : 1 ≤ nC ∧ nC ≤ 16) (hnT : 1 ≤ nT ∧ nT ≤ 30) (hnS : nS ≤ 200) (hn : n ≤ 16) (ht : t ≤ 28) (hF : s_okF nC nT T) (hok : ∀ k : Nat, k < nT → ∀ j : Nat, j < 3 → vp_in (T k j) nC)
    (hkT : kT = l_bel (x >>> (2 &&& 31)) nT) (hjT : jT = l_bel x 3) (ha9 : a9 = T kT jT) (hb9 : b9 = T kT ((jT + 1) % 3)) (hc9 : c9 = l_bel x nC) (hz9 : z9 = l_bel (x >>> (3 &&& 31)) 100) (ho9 : o9 = l_bel (x >>> (4 &&& 31)) 3) (hpx : px = (if nI (l_bel (x >>> (7 &&& 31)) 2) = 0 then (1 : Int32) * nI (l_bel (x >>> (1 &&& 31)) 31) else (5 : Int32) * nI (l_bel (x >>> (1 &&& 31)) 7))) (hpy : py = (if nI (l_bel (x >>> (7 &&& 31)) 2) = 0 then (1 : Int32) * nI (l_bel (x >>> (5 &&& 31)) 31) else (5 : Int32) * nI (l_bel (x >>> (5 &&& 31)) 7)))
    (hWM : ((m_tuN n xs ys sy (t, lf, co)) + 1) * W1 ≤ M) (hVN : ((m_tuN n xs ys sy (t, lf, co)) + 1) * V1 ≤ N)
    (hR0 : R (hs, fx, n, t, xs, ys, lf, sy, co, n2, t2, xs2, ys2, lf2, sy2, co2) (nC, C, nT, T, nS, S, fl))
    (H0 : x_okRs n (nI c9) (nI z9) = true ∧ x_hOf hs (nI c9) = C c9 2 ∧ R (x_setH hs (nI c9) (nI z9), fx, n, t, xs, ys, lf, sy, co, n2, t2, xs2, ys2, lf2, sy2, co2) (nC, s_more C c9 (s3 (C c9 0) (C c9 1) (nI z9)), nT, T, nS, S, fl))
    (H1 : x_okFx n lf a9 b9 = true ∧ m_mustStay n sy a9 b9 = s_stay nS S a9 b9 ∧ R (hs, fx, n, t, xs, ys, lf, m_setSt n sy a9 b9 (bI (l_z (nI o9))), co, n2, t2, xs2, ys2, lf2, sy2, co2) (nC, C, nT, T, (s_fixS nS S a9 b9 (l_z (nI o9))).1, (s_fixS nS S a9 b9 (l_z (nI o9))).2, fl))
    (H2 : s_flp C nT T nS S a9 b9 = true → x_okFl n xs ys lf sy a9 b9 = true ∧ 16 * min32 (m_leftOf lf a9 b9) (m_leftOf lf b9 a9) + max32 (m_leftOf lf a9 b9) (m_leftOf lf b9 a9) = s_edge nT T a9 b9 ∧ R (hs, fx + 1, n, (m_list n (m_tE n xs ys lf a9 b9) co).1, xs, ys, m_tE n xs ys lf a9 b9, sy, (m_list n (m_tE n xs ys lf a9 b9) co).2, n2, t2, xs2, ys2, lf2, sy2, co2) (nC, C, (s_flip nT T a9 b9).1, (s_flip nT T a9 b9).2, nS, S, fl + 1))
    (H5 : s_okSt nC C nT T nS S (m_tuN n xs ys sy (t, lf, co)) W1 V1 ∧ R (hs, fx + nI (m_tuN n xs ys sy (t, lf, co)), n, (m_tuS n xs ys sy (t, lf, co) (m_tuN n xs ys sy (t, lf, co))).1, xs, ys, (m_tuS n xs ys sy (t, lf, co) (m_tuN n xs ys sy (t, lf, co))).2.1, sy, (m_tuS n xs ys sy (t, lf, co) (m_tuN n xs ys sy (t, lf, co))).2.2, n2, t2, xs2, ys2, lf2, sy2, co2) (nC, C, (s_sq nC C nS S (nT, T) (m_tuN n xs ys sy (t, lf, co))).1, (s_sq nC C nS S (nT, T) (m_tuN n xs ys sy (t, lf, co))).2, nS, S, fl + nI (m_tuN n xs ys sy (t, lf, co))))
    (H6 : ¬ 13 ≤ nI nC → s_cat nC C px py < 0 → s_okV nC C nT T nS S px py (nI z9) 60 ∧ x_okBd n xs ys px py (nI z9) = true ∧ (x_place px py = true → ¬ m_find t xs ys co px py = (-1)) ∧ nI n = nI nC ∧ R (x_setH hs (nI n) (nI z9), fx, n + 1, (m_list (n + 1) (m_inLf n (m_ac n xs px) (m_ac n ys py) lf (m_corner co (m_find t xs ys co px py) 0) (m_corner co (m_find t xs ys co px py) 1) (m_corner co (m_find t xs ys co px py) 2) px py) co).1, m_ac n xs px, m_ac n ys py, (m_inLf n (m_ac n xs px) (m_ac n ys py) lf (m_corner co (m_find t xs ys co px py) 0) (m_corner co (m_find t xs ys co px py) 1) (m_corner co (m_find t xs ys co px py) 2) px py), (m_inSy n (m_ac n xs px) (m_ac n ys py) sy (m_corner co (m_find t xs ys co px py) 0) (m_corner co (m_find t xs ys co px py) 1) (m_corner co (m_find t xs ys co px py) 2) px py), (m_list (n + 1) (m_inLf n (m_ac n xs px) (m_ac n ys py) lf (m_corner co (m_find t xs ys co px py) 0) (m_corner co (m_find t xs ys co px py) 1) (m_corner co (m_find t xs ys co px py) 2) px py) co).2, n2, t2, xs2, ys2, lf2, sy2, co2) (nC + 1, (s_more C nC (s3 px py (nI z9))), (s_bO (s_more C nC (s3 px py (nI z9))) px py (nI nC) T (nT, T, nS, S) nT).1, (s_bO (s_more C nC (s3 px py (nI z9))) px py (nI nC) T (nT, T, nS, S) nT).2.1, (s_bO (s_more C nC (s3 px py (nI z9))) px py (nI nC) T (nT, T, nS, S) nT).2.2.1, (s_bO (s_more C nC (s3 px py (nI z9))) px py (nI nC) T (nT, T, nS, S) nT).2.2.2, fl)) (sz : Nat) : Met l yL_act wsL_act ({ frames := 8, cells := M, slots := N, locals := 170 }) (va_Pc [.ref (a 0), .ref h, .int x] (lP (dC, dI) cI cZ cY B0 (lJ (dC, dI) cI cY a B0 h (hs, fx, n, t, xs, ys, lf, sy, co, n2, t2, xs2, ys2, lf2, sy2, co2) (nC, C, nT, T, nS, S, fl)) sz)) (lQi (S := lX × lS) (fun r w => r = 1 ∧ R w.1 w.2) (fun w H => lJ (dC, dI) cI cY a B0 h w.1 w.2 H) B0) M N (fun q => B0 ≤ q) := by
  refine la_start (cc := cL_act) (maxL := 14) (ret := (some .boolean)) RL (by decide) rfl rfl (Nat.le_of_ble_eq_true rfl) ?_
  intro p e s m below meth c ⟨hx, hb, hr, hml, hown, hts, hlocks⟩ hB ⟨hP, hD, qc, qt, qs, hO, hC, hTt, hSt, hn1, hn2⟩ hK hX9 hS ls hl
  have hA : ∀ q : Nat, s.heap.size ≤ q → B0 ≤ q := fun q z => Nat.le_trans hB z
  have F : CallFix p m c cL_act 14 s ([.ref (a 0), .ref h, .int x] : List Value).toArray wsL_act RL := ⟨hx, hb, hml, hown, hts⟩
  have hl : lv_has ls 14 [(0, .ref (a 0)), (1, .ref h), (2, .int x)] := hl
  have hC : hT cI cY (h + 1) s.heap qc nC 3 C := hC
  have hTt : hT cI cY (h + 1) s.heap qt nT 3 T := hTt
  have hSt : hT cI cY (h + 1) s.heap qs nS 2 S := hSt
  have hO : sO (dC, dI) s.heap h qc qt qs fl := hO
  have hAh : B0 ≤ h := Nat.le_trans (hD.2 0 _ rfl).1 (Nat.le_of_lt (hD.2 0 _ rfl).2)
  have hkTl : kT < nT := by rw [hkT]; exact l_bel_lt (by omega)
  have hjTl : jT < 3 := by rw [hjT]; exact l_bel_lt (by omega)
  have hc9l : c9 < nC := by rw [hc9]; exact l_bel_lt (by omega)
  have ia : vp_in a9 nC := by rw [ha9]; exact hok kT hkTl jT hjTl
  have ib : vp_in b9 nC := by rw [hb9]; exact hok kT hkTl _ (Nat.mod_lt _ (by decide))
  have hct := s_ct_le (nT := nT) (T := T) (a := a9) (b := b9)
  have hok1 : ∀ i : Nat, i < nT → ∀ j : Nat, j < 3 → vp_in (T i j) (nC + 1) := fun i hi j hj => in_up (hok i hi j hj)
  refine lv_aload_n hx hb dL_act_0 rfl (lv_at hl 1 rfl) ?_
  refine va_get (D := (dC, dI)) (ci := 2) (v := .ref qc) (C := RX2) (T := TX2) (N := 4) hx hb hts in_L_act_X2 hown hK.1 (va_P.one hO) 0 rfl rfl 0 (by decide) (hts (.fieldLink RL 9 "MoorTrianglesLaw$Sim" "cairns" "[[I") fl_L_act_9) (fun _ h9 => h9) rfl dL_act_1 ?_
  refine sx_alenT hx hb hK.1 hC dL_act_4 ?_
  refine lv_istore_n (lv' := [(3, .int (nI nC)), (0, .ref (a 0)), (1, .ref h), (2, .int x)]) hx hb dL_act_5 rfl hl (by decide) rfl (fun ls hl => ?_)
  refine lv_aload_n hx hb dL_act_6 rfl (lv_at hl 2 rfl) ?_
  refine va_get (D := (dC, dI)) (ci := 2) (v := .ref qt) (C := RX2) (T := TX2) (N := 4) hx hb hts in_L_act_X2 hown hK.1 (va_P.one hO) 0 rfl rfl 1 (by decide) (hts (.fieldLink RL 15 "MoorTrianglesLaw$Sim" "triangles" "[[I") fl_L_act_15) (fun _ h9 => h9) rfl dL_act_7 ?_
  refine lv_iload_n hx hb dL_act_10 rfl (lv_at hl 3 rfl) ?_
  refine lv_iconst (v := 2) hx hb dL_act_11 (by decide) ?_
  refine lv_ishr hx hb dL_act_12 ?_
  refine lv_aload_n hx hb dL_act_13 rfl (lv_at hl 2 rfl) ?_
  refine va_get (D := (dC, dI)) (ci := 2) (v := .ref qt) (C := RX2) (T := TX2) (N := 4) hx hb hts in_L_act_X2 hown hK.1 (va_P.one hO) 0 rfl rfl 1 (by decide) (hts (.fieldLink RL 15 "MoorTrianglesLaw$Sim" "triangles" "[[I") fl_L_act_15) (fun _ h9 => h9) rfl dL_act_14 ?_
  refine sx_alenT hx hb hK.1 hTt dL_act_17 ?_
  refine sr_cSi (As := [.int (x >>> (2 &&& 31)), .int (nI nT)]) (rest := [.ref qt]) F (c_L_below l dC dI cI cZ cY (x >>> (2 &&& 31)) nT ⟨by omega, by omega⟩) (va_cwS 2 hts gL_act_L_below rfl rfl rfl hd_L_below.2 ⟨Nat.le_of_ble_eq_true rfl, Nat.le_of_ble_eq_true rfl⟩) trivial hK rfl hl.1 rfl (lv_room (Nat.le_of_ble_eq_true rfl)) dL_act_18 ⟨(by first | exact Nat.le_of_ble_eq_true rfl | omega | (dsimp only; omega)), (by first | exact Nat.le_of_ble_eq_true rfl | omega | (dsimp only; omega))⟩ ?_
  refine lv_cvi (y := nI kT) (by rw [hkT]) ?_
  refine sx_aald hx hb hK.1 hTt (ix_nI (by omega)) hkTl dL_act_21 (fun xq1 hr2 => ?_)
  refine lv_astore (lv' := [(4, .ref xq1), (3, .int (nI nC)), (0, .ref (a 0)), (1, .ref h), (2, .int x)]) hx hb dL_act_22 hl (by decide) rfl (fun ls hl => ?_)
  refine lv_aload hx hb dL_act_24 (lv_at hl 0 rfl) ?_
  refine lv_iload_n hx hb dL_act_26 rfl (lv_at hl 4 rfl) ?_
  refine lv_iconst (v := 3) hx hb dL_act_27 (by decide) ?_
  refine lv_cvi (y := nI 3) (by decide) ?_
  refine sr_cSi (As := [.int x, .int (nI 3)]) (rest := [.ref xq1]) F (c_L_below l dC dI cI cZ cY x 3 ⟨by omega, by omega⟩) (va_cwS 2 hts gL_act_L_below rfl rfl rfl hd_L_below.2 ⟨Nat.le_of_ble_eq_true rfl, Nat.le_of_ble_eq_true rfl⟩) trivial hK rfl hl.1 rfl (lv_room (Nat.le_of_ble_eq_true rfl)) dL_act_28 ⟨(by first | exact Nat.le_of_ble_eq_true rfl | omega | (dsimp only; omega)), (by first | exact Nat.le_of_ble_eq_true rfl | omega | (dsimp only; omega))⟩ ?_
  refine lv_cvi (y := nI jT) (by rw [hjT]) ?_
  refine sx_iald hx hb hK.1 hr2 (ix_nI (by omega)) hjTl dL_act_31 ?_
  refine lv_cvi (y := a9) ha9.symm ?_
  refine lv_istore (lv' := [(5, .int a9), (4, .ref xq1), (3, .int (nI nC)), (0, .ref (a 0)), (1, .ref h), (2, .int x)]) hx hb dL_act_32 hl (by decide) rfl (fun ls hl => ?_)
  refine lv_aload hx hb dL_act_34 (lv_at hl 1 rfl) ?_
  refine lv_iload_n hx hb dL_act_36 rfl (lv_at hl 5 rfl) ?_
  refine lv_iconst (v := 3) hx hb dL_act_37 (by decide) ?_
  refine lv_cvi (y := nI 3) (by decide) ?_
  refine sr_cSi (As := [.int x, .int (nI 3)]) (rest := [.ref xq1]) F (c_L_below l dC dI cI cZ cY x 3 ⟨by omega, by omega⟩) (va_cwS 2 hts gL_act_L_below rfl rfl rfl hd_L_below.2 ⟨Nat.le_of_ble_eq_true rfl, Nat.le_of_ble_eq_true rfl⟩) trivial hK rfl hl.1 rfl (lv_room (Nat.le_of_ble_eq_true rfl)) dL_act_38 ⟨(by first | exact Nat.le_of_ble_eq_true rfl | omega | (dsimp only; omega)), (by first | exact Nat.le_of_ble_eq_true rfl | omega | (dsimp only; omega))⟩ ?_
  refine lv_cvi (y := nI jT) (by rw [hjT]) ?_
  refine lv_iconst (v := 1) hx hb dL_act_41 (by decide) ?_
  refine lv_iadd hx hb dL_act_42 ?_
  refine lv_iconst (v := 3) hx hb dL_act_43 (by decide) ?_
  refine lv_irem hx hb dL_act_44 (by decide) ?_
  refine lv_cvi (y := nI ((jT + 1) % 3)) (nI_mod3 (by omega)) ?_
  refine sx_iald hx hb hK.1 hr2 (ix_nI (by omega)) (by omega) dL_act_45 ?_
  refine lv_cvi (y := b9) hb9.symm ?_
  refine lv_istore (lv' := [(6, .int b9), (5, .int a9), (4, .ref xq1), (3, .int (nI nC)), (0, .ref (a 0)), (1, .ref h), (2, .int x)]) hx hb dL_act_46 hl (by decide) rfl (fun ls hl => ?_)
  refine lv_iload_n hx hb dL_act_48 rfl (lv_at hl 6 rfl) ?_
  refine lv_bipush (v := 9) hx hb dL_act_49 (by decide) ?_
  refine lv_ishr hx hb dL_act_51 ?_
  refine lv_bipush (v := 12) hx hb dL_act_52 (by decide) ?_
  refine lv_cvi (y := nI 12) (by decide) ?_
  refine sr_cSi (As := [.int (x >>> (9 &&& 31)), .int (nI 12)]) (rest := []) F (c_L_below l dC dI cI cZ cY (x >>> (9 &&& 31)) 12 ⟨by omega, by omega⟩) (va_cwS 2 hts gL_act_L_below rfl rfl rfl hd_L_below.2 ⟨Nat.le_of_ble_eq_true rfl, Nat.le_of_ble_eq_true rfl⟩) trivial hK rfl hl.1 rfl (lv_room (Nat.le_of_ble_eq_true rfl)) dL_act_54 ⟨(by first | exact Nat.le_of_ble_eq_true rfl | omega | (dsimp only; omega)), (by first | exact Nat.le_of_ble_eq_true rfl | omega | (dsimp only; omega))⟩ ?_
  by_cases c_3 : (nI (l_bel (x >>> (9 &&& 31)) 12)) = 0
  · refine lv_tsw (k := 0) (off := 39) (tgt := 96) hx hb dL_act_57 c_3 (by decide +kernel) (by decide +kernel) (by decide +kernel) (by decide) ?_
    refine lv_iload_n hx hb dL_act_96 rfl (lv_at hl 6 rfl) ?_
    refine lv_iload_n hx hb dL_act_97 rfl (lv_at hl 3 rfl) ?_
    refine sr_cSi (As := [.int x, .int (nI nC)]) (rest := []) F (c_L_below l dC dI cI cZ cY x nC ⟨by omega, by omega⟩) (va_cwS 2 hts gL_act_L_below rfl rfl rfl hd_L_below.2 ⟨Nat.le_of_ble_eq_true rfl, Nat.le_of_ble_eq_true rfl⟩) trivial hK rfl hl.1 rfl (lv_room (Nat.le_of_ble_eq_true rfl)) dL_act_98 ⟨(by first | exact Nat.le_of_ble_eq_true rfl | omega | (dsimp only; omega)), (by first | exact Nat.le_of_ble_eq_true rfl | omega | (dsimp only; omega))⟩ ?_
    refine lv_cvi (y := nI c9) (by rw [hc9]) ?_
    refine lv_istore (lv' := [(7, .int (nI c9)), (6, .int b9), (5, .int a9), (4, .ref xq1), (3, .int (nI nC)), (0, .ref (a 0)), (1, .ref h), (2, .int x)]) hx hb dL_act_101 hl (by decide) rfl (fun ls hl => ?_)
    refine lv_aload_n hx hb dL_act_103 rfl (lv_at hl 6 rfl) ?_
    refine va_get (D := (dC, dI)) (ci := 2) (v := .ref qc) (C := RX2) (T := TX2) (N := 4) hx hb hts in_L_act_X2 hown hK.1 (va_P.one hO) 0 rfl rfl 0 (by decide) (hts (.fieldLink RL 9 "MoorTrianglesLaw$Sim" "cairns" "[[I") fl_L_act_9) (fun _ h9 => h9) rfl dL_act_104 ?_
    refine lv_iload hx hb dL_act_107 (lv_at hl 0 rfl) ?_
    refine sx_aald hx hb hK.1 hC (ix_nI (by omega)) hc9l dL_act_109 (fun xq4 hr5 => ?_)
    refine lv_iconst (v := 2) hx hb dL_act_110 (by decide) ?_
    refine sx_iald hx hb hK.1 hr5 ix_2 (by decide) dL_act_111 ?_
    refine lv_istore (lv' := [(8, .int ((C c9) 2)), (7, .int (nI c9)), (6, .int b9), (5, .int a9), (4, .ref xq1), (3, .int (nI nC)), (0, .ref (a 0)), (1, .ref h), (2, .int x)]) hx hb dL_act_112 hl (by decide) rfl (fun ls hl => ?_)
    refine lv_aload_n hx hb dL_act_114 rfl (lv_at hl 7 rfl) ?_
    refine va_get (D := (dC, dI)) (ci := 2) (v := .ref qc) (C := RX2) (T := TX2) (N := 4) hx hb hts in_L_act_X2 hown hK.1 (va_P.one hO) 0 rfl rfl 0 (by decide) (hts (.fieldLink RL 9 "MoorTrianglesLaw$Sim" "cairns" "[[I") fl_L_act_9) (fun _ h9 => h9) rfl dL_act_115 ?_
    refine lv_iload hx hb dL_act_118 (lv_at hl 1 rfl) ?_
    refine lv_iconst (v := 3) hx hb dL_act_120 (by decide) ?_
    have hz09 := hS.1
    refine sx_newi (N := 3) hx hb (hts _ na_L_act) hK.1 hS (Nat.succ_le_of_lt hO.lt) ix_3 (Nat.le_of_ble_eq_true rfl) (by first | exact Nat.le_of_ble_eq_true rfl | omega | (dsimp only; omega)) (by first | exact Nat.le_of_ble_eq_true rfl | omega | (dsimp only; omega)) dL_act_121 (fun q6 H7 hq8 hE hN hS => ?_)
    refine lv_dup hx hb dL_act_123 rfl ?_
    refine lv_iconst (v := 0) hx hb dL_act_124 (by decide) ?_
    refine lv_aload_n hx hb dL_act_125 rfl (lv_at hl 7 rfl) ?_
    refine va_get (D := (dC, dI)) (ci := 2) (v := .ref qc) (C := RX2) (T := TX2) (N := 4) hx hb hts in_L_act_X2 hown hK.1 (va_P.one (hO.ext0 hE)) 0 rfl rfl 0 (by decide) (hts (.fieldLink RL 9 "MoorTrianglesLaw$Sim" "cairns" "[[I") fl_L_act_9) (fun _ h9 => h9) rfl dL_act_126 ?_
    refine lv_iload hx hb dL_act_129 (lv_at hl 1 rfl) ?_
    refine sx_aald hx hb hK.1 (hC.ext0 hE) (ix_nI (by omega)) hc9l dL_act_131 (fun xq10 hr11 => ?_)
    refine lv_iconst (v := 0) hx hb dL_act_132 (by decide) ?_
    refine sx_iald hx hb hK.1 hr11 ix_0 (by decide) dL_act_133 ?_
    refine sx_iast hx hb hK.1 hS hN (hA q6 (by rw [hq8]; exact hz09)) ix_0 (by decide) dL_act_134 (fun H12 locs13 hN hz_ ho_ hS => ?_)
    have hE := hE.wr (Nat.le_of_eq hq8.symm) hz_ ho_
    refine lv_dup hx hb dL_act_135 rfl ?_
    refine lv_iconst (v := 1) hx hb dL_act_136 (by decide) ?_
    refine lv_aload_n hx hb dL_act_137 rfl (lv_at hl 7 rfl) ?_
    refine va_get (D := (dC, dI)) (ci := 2) (v := .ref qc) (C := RX2) (T := TX2) (N := 4) hx hb hts in_L_act_X2 hown hK.1 (va_P.one (hO.ext0 hE)) 0 rfl rfl 0 (by decide) (hts (.fieldLink RL 9 "MoorTrianglesLaw$Sim" "cairns" "[[I") fl_L_act_9) (fun _ h9 => h9) rfl dL_act_138 ?_
    refine lv_iload hx hb dL_act_141 (lv_at hl 1 rfl) ?_
    refine sx_aald hx hb hK.1 (hC.ext0 hE) (ix_nI (by omega)) hc9l dL_act_143 (fun xq14 hr15 => ?_)
    refine lv_iconst (v := 1) hx hb dL_act_144 (by decide) ?_
    refine sx_iald hx hb hK.1 hr15 ix_1 (by decide) dL_act_145 ?_
    refine sx_iast hx hb hK.1 hS hN (hA q6 (by rw [hq8]; exact hz09)) ix_1 (by decide) dL_act_146 (fun H16 locs17 hN hz_ ho_ hS => ?_)
    have hE := hE.wr (Nat.le_of_eq hq8.symm) hz_ ho_
    refine lv_dup hx hb dL_act_147 rfl ?_
    refine lv_iconst (v := 2) hx hb dL_act_148 (by decide) ?_
    refine lv_iload_n hx hb dL_act_149 rfl (lv_at hl 8 rfl) ?_
    refine lv_iconst (v := 3) hx hb dL_act_150 (by decide) ?_
    refine lv_ishr hx hb dL_act_151 ?_
    refine lv_bipush (v := 100) hx hb dL_act_152 (by decide) ?_
    refine lv_cvi (y := nI 100) (by decide) ?_
    refine sr_cSi (As := [.int (x >>> (3 &&& 31)), .int (nI 100)]) (rest := [.int 2, .ref q6, .ref q6, .int (nI c9), .ref qc]) F (c_L_below l dC dI cI cZ cY (x >>> (3 &&& 31)) 100 ⟨by omega, by omega⟩) (va_cwS 2 hts gL_act_L_below rfl rfl rfl hd_L_below.2 ⟨Nat.le_of_ble_eq_true rfl, Nat.le_of_ble_eq_true rfl⟩) trivial hK rfl hl.1 rfl (lv_room (Nat.le_of_ble_eq_true rfl)) dL_act_154 ⟨(by first | exact Nat.le_of_ble_eq_true rfl | omega | (dsimp only; omega)), (by first | exact Nat.le_of_ble_eq_true rfl | omega | (dsimp only; omega))⟩ ?_
    refine lv_cvi (y := nI z9) (by rw [hz9]) ?_
    refine sx_iast hx hb hK.1 hS hN (hA q6 (by rw [hq8]; exact hz09)) ix_2 (by decide) dL_act_157 (fun H18 locs19 hN hz_ ho_ hS => ?_)
    have hE := hE.wr (Nat.le_of_eq hq8.symm) hz_ ho_
    have hC := hC.ext0 hE
    have hTt := hTt.ext0 hE
    have hSt := hSt.ext0 hE
    have hr2 := hr2.ext0 hE
    have hr5 := hr5.ext0 hE
    have hO := hO.ext0 hE
    have hP := hP.hy0 hE
    have hr20 : hI cI _ H18 q6 3 (s3 ((C c9) 0) ((C c9) 1) (nI z9)) := hN.cg s3_upd
    refine la_set hx hb hK hS hC hr20 hAh (ix_nI (by omega)) hc9l (by decide) dL_act_158 (fun H21 locs22 hnew hz_ ho_ hTs hS => ?_)
    have hP := hP.kept fun k q hk => ho_ q.1 (by have h9 : q.1 < h := (hD.2 k q hk).2; have := hC.le; omega)
    have hO : sO (dC, dI) H21 h qc qt qs fl := va_at.kept hO (ho_ h (by have := hC.le; omega))
    have hTt := hTs _ _ _ _ hTt (fun e => hn1 e.symm) (by decide)
    have hSt := hTs _ _ _ _ hSt (fun e => hn2 e.symm) (by decide)
    have hC := hnew
    refine lv_aload_n hx hb dL_act_159 rfl (lv_at hl 6 rfl) ?_
    refine lv_iload hx hb dL_act_160 (lv_at hl 1 rfl) ?_
    refine lv_aload_n hx hb dL_act_162 rfl (lv_at hl 7 rfl) ?_
    refine va_get (D := (dC, dI)) (ci := 2) (v := .ref qc) (C := RX2) (T := TX2) (N := 4) hx hb hts in_L_act_X2 hown hK.1 (va_P.one hO) 0 rfl rfl 0 (by decide) (hts (.fieldLink RL 9 "MoorTrianglesLaw$Sim" "cairns" "[[I") fl_L_act_9) (fun _ h9 => h9) rfl dL_act_163 ?_
    refine lv_iload hx hb dL_act_166 (lv_at hl 1 rfl) ?_
    refine sx_aald hx hb hK.1 hC (ix_nI (by omega)) hc9l dL_act_168 (fun xq23 hr24 => ?_)
    refine lv_iconst (v := 2) hx hb dL_act_169 (by decide) ?_
    refine sx_iald hx hb hK.1 hr24 ix_2 (by decide) dL_act_170 ?_
    refine lv_cvi (y := nI z9) (by rw [s_more, if_pos rfl]; rfl) ?_
    refine lc_xi (As := [.int (nI c9), .int (nI z9)]) (rest := []) hX9 F (c_X1_raise l hl0 dC dI cI cZ cY (a 0) (a 1) hs fx (a 2) (a 3) (a 4) (a 5) (a 6) (a 7) n t xs ys lf sy co (a 8) (a 9) (a 10) (a 11) (a 12) (a 13) n2 t2 xs2 ys2 lf2 sy2 co2 (nI c9) (nI z9) H21.size ) (cwV 2 hts gL_act_X1_raise rfl rfl rfl hd_X1_raise ⟨Nat.le_of_ble_eq_true rfl, Nat.le_of_ble_eq_true rfl⟩) H0.1 rfl hP hK hD hS hB (lW_recv hK.1 hP) rfl hl.1 rfl (lv_room (Nat.le_of_ble_eq_true rfl)) dL_act_171 ⟨(by first | exact Nat.le_of_ble_eq_true rfl | omega | (dsimp only; omega)), (by first | exact Nat.le_of_ble_eq_true rfl | omega | (dsimp only; omega))⟩ (fun H25 locs26 hP hD hY hS => ?_)
    have hP : va_P (dC, dI) vwCl (lW cI a (x_setH hs (nI c9) (nI z9), fx, n, t, xs, ys, lf, sy, co, n2, t2, xs2, ys2, lf2, sy2, co2)) H25 := hP
    have hD : va_D (lB B0 h) (lW cI a (x_setH hs (nI c9) (nI z9), fx, n, t, xs, ys, lf, sy, co, n2, t2, xs2, ys2, lf2, sy2, co2)) := hD
    have hC := hC.ext (hY.up (Nat.le_succ h))
    have hTt := hTt.ext (hY.up (Nat.le_succ h))
    have hSt := hSt.ext (hY.up (Nat.le_succ h))
    have hr24 := hr24.ext (hY.up (Nat.le_succ h))
    have hO := hO.ext hY
    refine lv_iload hx hb dL_act_174 (lv_at hl 0 rfl) ?_
    refine lv_icmp_ne (tgt := 183) hx hb dL_act_176 (by decide) (fun c_27 => ?_) (fun c_27 => ?_)
    · exact absurd H0.2.1 c_27
    · refine lv_iconst (v := 1) hx hb dL_act_179 (by decide) ?_
      refine lv_goto (tgt := 184) hx hb dL_act_180 (by decide) ?_
      exact la_zret (S := lX × lS) ((x_setH hs (nI c9) (nI z9), fx, n, t, xs, ys, lf, sy, co, n2, t2, xs2, ys2, lf2, sy2, co2), (nC, (s_more C c9 (s3 ((C c9) 0) ((C c9) 1) (nI z9))), nT, T, nS, S, fl)) (b := true) hx hb hr hlocks rfl ⟨rfl, H0.2.2⟩ ⟨hP, hD, ⟨qc, qt, qs, hO, hC, hTt, hSt, hn1, hn2⟩⟩ hS (by first | exact Nat.le_of_ble_eq_true rfl | omega | (dsimp only; omega)) (by first | exact Nat.le_of_ble_eq_true rfl | omega | (dsimp only; omega)) dL_act_184
  by_cases c_28 : (nI (l_bel (x >>> (9 &&& 31)) 12)) = 1
  · refine lv_tsw (k := 1) (off := 128) (tgt := 185) hx hb dL_act_57 c_28 (by decide +kernel) (by decide +kernel) (by decide +kernel) (by decide) ?_
    refine lv_iload_n hx hb dL_act_185 rfl (lv_at hl 6 rfl) ?_
    refine lv_iconst (v := 4) hx hb dL_act_186 (by decide) ?_
    refine lv_ishr hx hb dL_act_187 ?_
    refine lv_iconst (v := 3) hx hb dL_act_188 (by decide) ?_
    refine lv_cvi (y := nI 3) (by decide) ?_
    refine sr_cSi (As := [.int (x >>> (4 &&& 31)), .int (nI 3)]) (rest := []) F (c_L_below l dC dI cI cZ cY (x >>> (4 &&& 31)) 3 ⟨by omega, by omega⟩) (va_cwS 2 hts gL_act_L_below rfl rfl rfl hd_L_below.2 ⟨Nat.le_of_ble_eq_true rfl, Nat.le_of_ble_eq_true rfl⟩) trivial hK rfl hl.1 rfl (lv_room (Nat.le_of_ble_eq_true rfl)) dL_act_189 ⟨(by first | exact Nat.le_of_ble_eq_true rfl | omega | (dsimp only; omega)), (by first | exact Nat.le_of_ble_eq_true rfl | omega | (dsimp only; omega))⟩ ?_
    refine lv_cvi (y := nI o9) (by rw [ho9]) ?_
    have hj192 : W p l e ({ frames := 8, cells := M, slots := N, locals := 170 } : Room) s m ([.ref (a 0), .ref h, .int x] : List Value).toArray below meth c s.heap [] 0 0 (MQ below (lQi (S := lX × lS) (fun r w => r = 1 ∧ R w.1 w.2) (fun w H => lJ (dC, dI) cI cY a B0 h w.1 w.2 H) B0) ([.ref (a 0), .ref h, .int x] : List Value).toArray s M N (fun q => B0 ≤ q)) (F0 m 200 ls [.int (bI (l_z (nI o9)))]) := by
      refine lv_istore (lv' := [(9, .int (bI (l_z (nI o9)))), (6, .int b9), (5, .int a9), (4, .ref xq1), (3, .int (nI nC)), (0, .ref (a 0)), (1, .ref h), (2, .int x)]) hx hb dL_act_200 hl (by decide) rfl (fun ls hl => ?_)
      refine lv_aload_n hx hb dL_act_202 rfl (lv_at hl 6 rfl) ?_
      refine lv_iload hx hb dL_act_203 (lv_at hl 2 rfl) ?_
      refine lv_iload hx hb dL_act_205 (lv_at hl 1 rfl) ?_
      refine sr_cVi (As := [.int a9, .int b9]) (rest := []) F (c_X2_isStaying l dC dI cI cZ cY h nC C nT T nS S fl a9 b9 (by omega)) (cwV 2 hts gL_act_X2_isStaying rfl rfl rfl hd_X2_isStaying ⟨Nat.le_of_ble_eq_true rfl, Nat.le_of_ble_eq_true rfl⟩) ⟨qc, qt, qs, hO, hC, hTt, hSt, hn1, hn2⟩ hK (sM.recv hK.1 ⟨qc, qt, qs, hO, hC, hTt, hSt, hn1, hn2⟩) rfl hl.1 rfl (lv_room (Nat.le_of_ble_eq_true rfl)) dL_act_207 ⟨(by first | exact Nat.le_of_ble_eq_true rfl | omega | (dsimp only; omega)), (by first | exact Nat.le_of_ble_eq_true rfl | omega | (dsimp only; omega))⟩ ?_
      refine lv_istore (lv' := [(10, .int (bI (s_stay nS S a9 b9))), (9, .int (bI (l_z (nI o9)))), (6, .int b9), (5, .int a9), (4, .ref xq1), (3, .int (nI nC)), (0, .ref (a 0)), (1, .ref h), (2, .int x)]) hx hb dL_act_210 hl (by decide) rfl (fun ls hl => ?_)
      refine lv_iload hx hb dL_act_212 (lv_at hl 0 rfl) ?_
      refine lv_if_eqB (tgt := 305) hx hb dL_act_214 (by decide) (fun c_29 => ?_) (fun c_29 => ?_)
      · refine lv_iload hx hb dL_act_305 (lv_at hl 0 rfl) ?_
        refine lv_if_neB (tgt := 339) hx hb dL_act_307 (by decide) (fun c_30 => ?_) (fun c_30 => ?_)
        · exact absurd (c_29.symm.trans c_30) (by decide)
        · refine lv_iload hx hb dL_act_310 (lv_at hl 1 rfl) ?_
          refine lv_if_eqB (tgt := 339) hx hb dL_act_312 (by decide) (fun c_31 => ?_) (fun c_31 => ?_)
          · refine lv_aload_n hx hb dL_act_339 rfl (lv_at hl 6 rfl) ?_
            refine lv_iload hx hb dL_act_340 (lv_at hl 3 rfl) ?_
            refine lv_iload hx hb dL_act_342 (lv_at hl 2 rfl) ?_
            refine lv_iload hx hb dL_act_344 (lv_at hl 1 rfl) ?_
            refine lc_xi (As := [.int a9, .int b9, .int (bI (l_z (nI o9)))]) (rest := []) hX9 F (c_X1_fix l hl0 dC dI cI cZ cY (a 0) (a 1) hs fx (a 2) (a 3) (a 4) (a 5) (a 6) (a 7) n t xs ys lf sy co (a 8) (a 9) (a 10) (a 11) (a 12) (a 13) n2 t2 xs2 ys2 lf2 sy2 co2 a9 b9 (bI (l_z (nI o9))) s.heap.size ) (cwV 3 hts gL_act_X1_fix rfl rfl rfl hd_X1_fix ⟨Nat.le_of_ble_eq_true rfl, Nat.le_of_ble_eq_true rfl⟩) H1.1 rfl hP hK hD hS hB (lW_recv hK.1 hP) rfl hl.1 rfl (lv_room (Nat.le_of_ble_eq_true rfl)) dL_act_346 ⟨(by first | exact Nat.le_of_ble_eq_true rfl | omega | (dsimp only; omega)), (by first | exact Nat.le_of_ble_eq_true rfl | omega | (dsimp only; omega))⟩ (fun H32 locs33 hP hD hY hS => ?_)
            have hP : va_P (dC, dI) vwCl (lW cI a (hs, fx, n, t, xs, ys, lf, m_setSt n sy a9 b9 (bI (l_z (nI o9))), co, n2, t2, xs2, ys2, lf2, sy2, co2)) H32 := hP
            have hD : va_D (lB B0 h) (lW cI a (hs, fx, n, t, xs, ys, lf, m_setSt n sy a9 b9 (bI (l_z (nI o9))), co, n2, t2, xs2, ys2, lf2, sy2, co2)) := hD
            have hC := hC.ext (hY.up (Nat.le_succ h))
            have hTt := hTt.ext (hY.up (Nat.le_succ h))
            have hSt := hSt.ext (hY.up (Nat.le_succ h))
            have hr2 := hr2.ext (hY.up (Nat.le_succ h))
            have hO := hO.ext hY
            refine lv_iload hx hb dL_act_349 (lv_at hl 0 rfl) ?_
            refine lv_icmp_ne (tgt := 358) hx hb dL_act_351 (by decide) (fun c_34 => ?_) (fun c_34 => ?_)
            · exact absurd (by rw [H1.2.1]) c_34
            · refine lv_iconst (v := 1) hx hb dL_act_354 (by decide) ?_
              refine lv_goto (tgt := 359) hx hb dL_act_355 (by decide) ?_
              exact la_zret (S := lX × lS) ((hs, fx, n, t, xs, ys, lf, m_setSt n sy a9 b9 (bI (l_z (nI o9))), co, n2, t2, xs2, ys2, lf2, sy2, co2), (nC, C, nT, T, nS, S, fl)) (b := true) hx hb hr hlocks rfl ⟨rfl, (by have h9 := H1.2.2; rw [s_fixS_f c_31 c_29] at h9; exact h9)⟩ ⟨hP, hD, ⟨qc, qt, qs, hO, hC, hTt, hSt, hn1, hn2⟩⟩ hS (by first | exact Nat.le_of_ble_eq_true rfl | omega | (dsimp only; omega)) (by first | exact Nat.le_of_ble_eq_true rfl | omega | (dsimp only; omega)) dL_act_359
          · refine lv_aload_n hx hb dL_act_315 rfl (lv_at hl 7 rfl) ?_
            refine lv_aload_n hx hb dL_act_316 rfl (lv_at hl 7 rfl) ?_
            refine va_get (D := (dC, dI)) (ci := 2) (v := .ref qs) (C := RX2) (T := TX2) (N := 4) hx hb hts in_L_act_X2 hown hK.1 (va_P.one hO) 0 rfl rfl 2 (by decide) (hts (.fieldLink RL 33 "MoorTrianglesLaw$Sim" "stays" "[[I") fl_L_act_33) (fun _ h9 => h9) rfl dL_act_317 ?_
            refine lv_iconst (v := 2) hx hb dL_act_320 (by decide) ?_
            have hz038 := hS.1
            refine sx_newi (N := 2) hx hb (hts _ na_L_act) hK.1 hS (Nat.succ_le_of_lt hO.lt) ix_2 (Nat.le_of_ble_eq_true rfl) (by first | exact Nat.le_of_ble_eq_true rfl | omega | (dsimp only; omega)) (by first | exact Nat.le_of_ble_eq_true rfl | omega | (dsimp only; omega)) dL_act_321 (fun q35 H36 hq37 hE hN hS => ?_)
            refine lv_dup hx hb dL_act_323 rfl ?_
            refine lv_iconst (v := 0) hx hb dL_act_324 (by decide) ?_
            refine lv_iload hx hb dL_act_325 (lv_at hl 3 rfl) ?_
            refine sx_iast hx hb hK.1 hS hN (hA q35 (by rw [hq37]; exact hz038)) ix_0 (by decide) dL_act_327 (fun H39 locs40 hN hz_ ho_ hS => ?_)
            have hE := hE.wr (Nat.le_of_eq hq37.symm) hz_ ho_
            refine lv_dup hx hb dL_act_328 rfl ?_
            refine lv_iconst (v := 1) hx hb dL_act_329 (by decide) ?_
            refine lv_iload hx hb dL_act_330 (lv_at hl 2 rfl) ?_
            refine sx_iast hx hb hK.1 hS hN (hA q35 (by rw [hq37]; exact hz038)) ix_1 (by decide) dL_act_332 (fun H41 locs42 hN hz_ ho_ hS => ?_)
            have hE := hE.wr (Nat.le_of_eq hq37.symm) hz_ ho_
            have hC := hC.ext0 hE
            have hTt := hTt.ext0 hE
            have hSt := hSt.ext0 hE
            have hr2 := hr2.ext0 hE
            have hO := hO.ext0 hE
            have hP := hP.hy0 hE
            have hr43 : hI cI _ H41 q35 2 (s2 a9 b9) := hN.cg s2_upd
            have lt9 := hC.lt
            have lt7 := hTt.lt
            have lt8 := hSt.lt
            refine sc_cSNr (As := [.ref qs, .ref q35]) (rest := [.ref h]) F (c_X2_more l dC dI cI cZ cY (h + 1) qs q35 nS 2 S (s2 a9 b9) (by omega) H41.size) (va_cwS 2 hts gL_act_X2_more rfl rfl rfl hd_X2_more.2 ⟨Nat.le_of_ble_eq_true rfl, Nat.le_of_ble_eq_true rfl⟩) ⟨hSt, hr43, (Nat.succ_le_of_lt hO.lt)⟩ hK hS hA rfl hl.1 rfl (lv_room (Nat.le_of_ble_eq_true rfl)) dL_act_333 ⟨(by first | exact Nat.le_of_ble_eq_true rfl | omega | (dsimp only; omega)), (by first | exact Nat.le_of_ble_eq_true rfl | omega | (dsimp only; omega))⟩ (fun q47 H44 locs45 hf46 hE hS => ?_)
            have hC := hC.ext0 hE
            have hTt := hTt.ext0 hE
            have hSt := hSt.ext0 hE
            have hr2 := hr2.ext0 hE
            have hr43 := hr43.ext0 hE
            have hO := hO.ext0 hE
            have hP := hP.hy0 hE
            have hf46T := hf46.T
            refine sx_put (k := 2) (v := .ref q47) (ty := .array (.array .int)) hx hb hts in_L_act_X2 hown hK.1 hO hS hAh (hts (.fieldLink RL 33 "MoorTrianglesLaw$Sim" "stays" "[[I") fl_L_act_33) (by decide) rfl rfl (by rfl) (by rfl) rfl rfl dL_act_336 (fun H48 locs49 hO hZ hS => ?_)
            have hO : sO (dC, dI) H48 h qc qt q47 fl := hO
            have hC := hC.extZ hZ
            have hTt := hTt.extZ hZ
            have hSt := hSt.extZ hZ
            have hr2 := hr2.extZ hZ
            have hr43 := hr43.extZ hZ
            have hf46T := hf46T.extZ hZ
            have hP := hP.hz9 hD hZ
            have hn2 : qc ≠ q47 := fun e => by have := hf46.1; omega
            refine lv_aload_n hx hb dL_act_339 rfl (lv_at hl 6 rfl) ?_
            refine lv_iload hx hb dL_act_340 (lv_at hl 3 rfl) ?_
            refine lv_iload hx hb dL_act_342 (lv_at hl 2 rfl) ?_
            refine lv_iload hx hb dL_act_344 (lv_at hl 1 rfl) ?_
            refine lc_xi (As := [.int a9, .int b9, .int (bI (l_z (nI o9)))]) (rest := []) hX9 F (c_X1_fix l hl0 dC dI cI cZ cY (a 0) (a 1) hs fx (a 2) (a 3) (a 4) (a 5) (a 6) (a 7) n t xs ys lf sy co (a 8) (a 9) (a 10) (a 11) (a 12) (a 13) n2 t2 xs2 ys2 lf2 sy2 co2 a9 b9 (bI (l_z (nI o9))) H48.size ) (cwV 3 hts gL_act_X1_fix rfl rfl rfl hd_X1_fix ⟨Nat.le_of_ble_eq_true rfl, Nat.le_of_ble_eq_true rfl⟩) H1.1 rfl hP hK hD hS hB (lW_recv hK.1 hP) rfl hl.1 rfl (lv_room (Nat.le_of_ble_eq_true rfl)) dL_act_346 ⟨(by first | exact Nat.le_of_ble_eq_true rfl | omega | (dsimp only; omega)), (by first | exact Nat.le_of_ble_eq_true rfl | omega | (dsimp only; omega))⟩ (fun H50 locs51 hP hD hY hS => ?_)
            have hP : va_P (dC, dI) vwCl (lW cI a (hs, fx, n, t, xs, ys, lf, m_setSt n sy a9 b9 (bI (l_z (nI o9))), co, n2, t2, xs2, ys2, lf2, sy2, co2)) H50 := hP
            have hD : va_D (lB B0 h) (lW cI a (hs, fx, n, t, xs, ys, lf, m_setSt n sy a9 b9 (bI (l_z (nI o9))), co, n2, t2, xs2, ys2, lf2, sy2, co2)) := hD
            have hC := hC.ext (hY.up (Nat.le_succ h))
            have hTt := hTt.ext (hY.up (Nat.le_succ h))
            have hSt := hSt.ext (hY.up (Nat.le_succ h))
            have hr2 := hr2.ext (hY.up (Nat.le_succ h))
            have hr43 := hr43.ext (hY.up (Nat.le_succ h))
            have hf46T := hf46T.ext (hY.up (Nat.le_succ h))
            have hO := hO.ext hY
            refine lv_iload hx hb dL_act_349 (lv_at hl 0 rfl) ?_
            refine lv_icmp_ne (tgt := 358) hx hb dL_act_351 (by decide) (fun c_52 => ?_) (fun c_52 => ?_)
            · exact absurd (by rw [H1.2.1]) c_52
            · refine lv_iconst (v := 1) hx hb dL_act_354 (by decide) ?_
              refine lv_goto (tgt := 359) hx hb dL_act_355 (by decide) ?_
              exact la_zret (S := lX × lS) ((hs, fx, n, t, xs, ys, lf, m_setSt n sy a9 b9 (bI (l_z (nI o9))), co, n2, t2, xs2, ys2, lf2, sy2, co2), (nC, C, nT, T, nS + 1, s_more S nS (s2 a9 b9), fl)) (b := true) hx hb hr hlocks rfl ⟨rfl, (by have h9 := H1.2.2; rw [s_fixS_m c_31 c_29] at h9; exact h9)⟩ ⟨hP, hD, ⟨qc, qt, q47, hO, hC, hTt, hf46T, hn1, hn2⟩⟩ hS (by first | exact Nat.le_of_ble_eq_true rfl | omega | (dsimp only; omega)) (by first | exact Nat.le_of_ble_eq_true rfl | omega | (dsimp only; omega)) dL_act_359
      · refine lv_iload hx hb dL_act_217 (lv_at hl 1 rfl) ?_
        refine lv_if_neB (tgt := 305) hx hb dL_act_219 (by decide) (fun c_53 => ?_) (fun c_53 => ?_)
        · refine lv_iload hx hb dL_act_305 (lv_at hl 0 rfl) ?_
          refine lv_if_neB (tgt := 339) hx hb dL_act_307 (by decide) (fun c_54 => ?_) (fun c_54 => ?_)
          · refine lv_aload_n hx hb dL_act_339 rfl (lv_at hl 6 rfl) ?_
            refine lv_iload hx hb dL_act_340 (lv_at hl 3 rfl) ?_
            refine lv_iload hx hb dL_act_342 (lv_at hl 2 rfl) ?_
            refine lv_iload hx hb dL_act_344 (lv_at hl 1 rfl) ?_
            refine lc_xi (As := [.int a9, .int b9, .int (bI (l_z (nI o9)))]) (rest := []) hX9 F (c_X1_fix l hl0 dC dI cI cZ cY (a 0) (a 1) hs fx (a 2) (a 3) (a 4) (a 5) (a 6) (a 7) n t xs ys lf sy co (a 8) (a 9) (a 10) (a 11) (a 12) (a 13) n2 t2 xs2 ys2 lf2 sy2 co2 a9 b9 (bI (l_z (nI o9))) s.heap.size ) (cwV 3 hts gL_act_X1_fix rfl rfl rfl hd_X1_fix ⟨Nat.le_of_ble_eq_true rfl, Nat.le_of_ble_eq_true rfl⟩) H1.1 rfl hP hK hD hS hB (lW_recv hK.1 hP) rfl hl.1 rfl (lv_room (Nat.le_of_ble_eq_true rfl)) dL_act_346 ⟨(by first | exact Nat.le_of_ble_eq_true rfl | omega | (dsimp only; omega)), (by first | exact Nat.le_of_ble_eq_true rfl | omega | (dsimp only; omega))⟩ (fun H55 locs56 hP hD hY hS => ?_)
            have hP : va_P (dC, dI) vwCl (lW cI a (hs, fx, n, t, xs, ys, lf, m_setSt n sy a9 b9 (bI (l_z (nI o9))), co, n2, t2, xs2, ys2, lf2, sy2, co2)) H55 := hP
            have hD : va_D (lB B0 h) (lW cI a (hs, fx, n, t, xs, ys, lf, m_setSt n sy a9 b9 (bI (l_z (nI o9))), co, n2, t2, xs2, ys2, lf2, sy2, co2)) := hD
            have hC := hC.ext (hY.up (Nat.le_succ h))
            have hTt := hTt.ext (hY.up (Nat.le_succ h))
            have hSt := hSt.ext (hY.up (Nat.le_succ h))
            have hr2 := hr2.ext (hY.up (Nat.le_succ h))
            have hO := hO.ext hY
            refine lv_iload hx hb dL_act_349 (lv_at hl 0 rfl) ?_
            refine lv_icmp_ne (tgt := 358) hx hb dL_act_351 (by decide) (fun c_57 => ?_) (fun c_57 => ?_)
            · exact absurd (by rw [H1.2.1]) c_57
            · refine lv_iconst (v := 1) hx hb dL_act_354 (by decide) ?_
              refine lv_goto (tgt := 359) hx hb dL_act_355 (by decide) ?_
              exact la_zret (S := lX × lS) ((hs, fx, n, t, xs, ys, lf, m_setSt n sy a9 b9 (bI (l_z (nI o9))), co, n2, t2, xs2, ys2, lf2, sy2, co2), (nC, C, nT, T, nS, S, fl)) (b := true) hx hb hr hlocks rfl ⟨rfl, (by have h9 := H1.2.2; rw [s_fixS_t c_53 c_29] at h9; exact h9)⟩ ⟨hP, hD, ⟨qc, qt, qs, hO, hC, hTt, hSt, hn1, hn2⟩⟩ hS (by first | exact Nat.le_of_ble_eq_true rfl | omega | (dsimp only; omega)) (by first | exact Nat.le_of_ble_eq_true rfl | omega | (dsimp only; omega)) dL_act_359
          · exact absurd (c_54.symm.trans c_29) (by decide)
        · refine lv_iconst (v := 0) hx hb dL_act_222 (by decide) ?_
          refine lv_istore (lv' := [(11, .int 0), (10, .int (bI (s_stay nS S a9 b9))), (9, .int (bI (l_z (nI o9)))), (6, .int b9), (5, .int a9), (4, .ref xq1), (3, .int (nI nC)), (0, .ref (a 0)), (1, .ref h), (2, .int x)]) hx hb dL_act_223 hl (by decide) rfl (fun ls hl => ?_)
          have hL225 : ∀ (k_58 : Nat) (j : Nat), (nS - j) < k_58 → (j ≤ nS) → (∀ q, q < j → s_pS S a9 b9 q = false) → ∀ ls : Array Slot, lv_has ls 14 [(11, .int (nI j)), (10, .int (bI (s_stay nS S a9 b9))), (9, .int (bI (l_z (nI o9)))), (6, .int b9), (5, .int a9), (4, .ref xq1), (3, .int (nI nC)), (0, .ref (a 0)), (1, .ref h), (2, .int x)] → W p l e ({ frames := 8, cells := M, slots := N, locals := 170 } : Room) s m ([.ref (a 0), .ref h, .int x] : List Value).toArray below meth c s.heap [] 0 0 (MQ below (lQi (S := lX × lS) (fun r w => r = 1 ∧ R w.1 w.2) (fun w H => lJ (dC, dI) cI cY a B0 h w.1 w.2 H) B0) ([.ref (a 0), .ref h, .int x] : List Value).toArray s M N (fun q => B0 ≤ q)) (F0 m 225 ls []) := by
            intro k_58
            induction k_58 with
            | zero => intro j hk; exact absurd hk (Nat.not_lt_zero _)
            | succ k_58 ih_59 =>
              intro j hk_225 hi_j hbj ls hl
              refine lv_iload hx hb dL_act_225 (lv_at hl 0 rfl) ?_
              refine lv_aload_n hx hb dL_act_227 rfl (lv_at hl 8 rfl) ?_
              refine va_get (D := (dC, dI)) (ci := 2) (v := .ref qs) (C := RX2) (T := TX2) (N := 4) hx hb hts in_L_act_X2 hown hK.1 (va_P.one hO) 0 rfl rfl 2 (by decide) (hts (.fieldLink RL 33 "MoorTrianglesLaw$Sim" "stays" "[[I") fl_L_act_33) (fun _ h9 => h9) rfl dL_act_228 ?_
              refine sx_alenT hx hb hK.1 hSt dL_act_231 ?_
              refine lv_icmp_ge (tgt := 305) hx hb dL_act_232 (by decide) (fun c_60 => ?_) (fun c_60 => ?_)
              · have hge_j : nS ≤ j := nI_le_le (by omega) (by omega) c_60
                have heq_j : j = nS := by omega
                have hl : lv_has ls 14 [(11, .int (nI nS)), (10, .int (bI (s_stay nS S a9 b9))), (9, .int (bI (l_z (nI o9)))), (6, .int b9), (5, .int a9), (4, .ref xq1), (3, .int (nI nC)), (0, .ref (a 0)), (1, .ref h), (2, .int x)] := by rw [heq_j] at hl; exact hl
                rw [heq_j] at hbj
                exact absurd ((s_stay_none hbj).symm.trans c_29) (by decide)
              · have hlt_j : j < nS := nI_nle_lt (by omega) (by omega) c_60
                refine lv_aload_n hx hb dL_act_235 rfl (lv_at hl 8 rfl) ?_
                refine va_get (D := (dC, dI)) (ci := 2) (v := .ref qs) (C := RX2) (T := TX2) (N := 4) hx hb hts in_L_act_X2 hown hK.1 (va_P.one hO) 0 rfl rfl 2 (by decide) (hts (.fieldLink RL 33 "MoorTrianglesLaw$Sim" "stays" "[[I") fl_L_act_33) (fun _ h9 => h9) rfl dL_act_236 ?_
                refine lv_iload hx hb dL_act_239 (lv_at hl 0 rfl) ?_
                refine sx_aald hx hb hK.1 hSt (ix_nI (by omega)) hlt_j dL_act_241 (fun xq61 hr62 => ?_)
                refine lv_astore (lv' := [(12, .ref xq61), (11, .int (nI j)), (10, .int (bI (s_stay nS S a9 b9))), (9, .int (bI (l_z (nI o9)))), (6, .int b9), (5, .int a9), (4, .ref xq1), (3, .int (nI nC)), (0, .ref (a 0)), (1, .ref h), (2, .int x)]) hx hb dL_act_242 hl (by decide) rfl (fun ls hl => ?_)
                refine lv_aload hx hb dL_act_244 (lv_at hl 0 rfl) ?_
                refine lv_iconst (v := 0) hx hb dL_act_246 (by decide) ?_
                refine sx_iald hx hb hK.1 hr62 ix_0 (by decide) dL_act_247 ?_
                refine lv_iload hx hb dL_act_248 (lv_at hl 5 rfl) ?_
                refine lv_icmp_ne (tgt := 262) hx hb dL_act_250 (by decide) (fun c_63 => ?_) (fun c_63 => ?_)
                · refine lv_aload hx hb dL_act_262 (lv_at hl 0 rfl) ?_
                  refine lv_iconst (v := 0) hx hb dL_act_264 (by decide) ?_
                  refine sx_iald hx hb hK.1 hr62 ix_0 (by decide) dL_act_265 ?_
                  refine lv_iload hx hb dL_act_266 (lv_at hl 4 rfl) ?_
                  refine lv_icmp_ne (tgt := 299) hx hb dL_act_268 (by decide) (fun c_64 => ?_) (fun c_64 => ?_)
                  · refine lv_iinc (v := nI (j + 1)) (lv' := [(11, .int (nI (j + 1))), (12, .ref xq61), (10, .int (bI (s_stay nS S a9 b9))), (9, .int (bI (l_z (nI o9)))), (6, .int b9), (5, .int a9), (4, .ref xq1), (3, .int (nI nC)), (0, .ref (a 0)), (1, .ref h), (2, .int x)]) hx hb dL_act_299 hl (k := 1) rfl (nI_1 _) (by decide) rfl (fun ls hl => ?_)
                    refine lv_goto (tgt := 225) hx hb dL_act_302 (by decide) ?_
                    have hl := lv_sub (l' := [(11, .int (nI (j + 1))), (10, .int (bI (s_stay nS S a9 b9))), (9, .int (bI (l_z (nI o9)))), (6, .int b9), (5, .int a9), (4, .ref xq1), (3, .int (nI nC)), (0, .ref (a 0)), (1, .ref h), (2, .int x)]) hl [0, 2, 3, 4, 5, 6, 7, 8, 9, 10] rfl
                    have hl : lv_has ls 14 [(11, .int (nI (j + 1))), (10, .int (bI (s_stay nS S a9 b9))), (9, .int (bI (l_z (nI o9)))), (6, .int b9), (5, .int a9), (4, .ref xq1), (3, .int (nI nC)), (0, .ref (a 0)), (1, .ref h), (2, .int x)] := by
                      have e9 : [(11, .int (nI (j + 1))), (10, .int (bI (s_stay nS S a9 b9))), (9, .int (bI (l_z (nI o9)))), (6, .int b9), (5, .int a9), (4, .ref xq1), (3, .int (nI nC)), (0, .ref (a 0)), (1, .ref h), (2, .int x)] = ([(11, .int (nI (j + 1))), (10, .int (bI (s_stay nS S a9 b9))), (9, .int (bI (l_z (nI o9)))), (6, .int b9), (5, .int a9), (4, .ref xq1), (3, .int (nI nC)), (0, .ref (a 0)), (1, .ref h), (2, .int x)] : List (Nat × Value)) := by rfl
                      rw [← e9]; exact hl
                    exact ih_59 (j + 1) (by omega) (by omega) (rg_bef hbj (show s_pS S a9 b9 j = false from by rw [s_pS, s_pr, if_neg c_63, if_neg c_64])) _ hl
                  · refine lv_aload hx hb dL_act_271 (lv_at hl 0 rfl) ?_
                    refine lv_iconst (v := 1) hx hb dL_act_273 (by decide) ?_
                    refine sx_iald hx hb hK.1 hr62 ix_1 (by decide) dL_act_274 ?_
                    refine lv_iload hx hb dL_act_275 (lv_at hl 5 rfl) ?_
                    refine lv_icmp_eq (tgt := 283) hx hb dL_act_277 (by decide) (fun c_65 => ?_) (fun c_65 => ?_)
                    · have hpr := (show s_pS S a9 b9 j = true from by rw [s_pS, s_pr, if_neg c_63, if_pos c_64, if_pos c_65])
                      refine lv_aload_n hx hb dL_act_283 rfl (lv_at hl 9 rfl) ?_
                      refine lv_aload_n hx hb dL_act_284 rfl (lv_at hl 9 rfl) ?_
                      refine va_get (D := (dC, dI)) (ci := 2) (v := .ref qs) (C := RX2) (T := TX2) (N := 4) hx hb hts in_L_act_X2 hown hK.1 (va_P.one hO) 0 rfl rfl 2 (by decide) (hts (.fieldLink RL 33 "MoorTrianglesLaw$Sim" "stays" "[[I") fl_L_act_33) (fun _ h9 => h9) rfl dL_act_285 ?_
                      refine lv_iload hx hb dL_act_288 (lv_at hl 1 rfl) ?_
                      have lt9 := hC.lt
                      have lt7 := hTt.lt
                      have lt8 := hSt.lt
                      refine sc_cSNr (As := [.ref qs, .int (nI j)]) (rest := [.ref h]) F (c_X2_less l dC dI cI cZ cY (h + 1) qs j nS 2 S (by omega) hlt_j s.heap.size) (va_cwS 2 hts gL_act_X2_less rfl rfl rfl hd_X2_less.2 ⟨Nat.le_of_ble_eq_true rfl, Nat.le_of_ble_eq_true rfl⟩) ⟨hSt, (Nat.succ_le_of_lt hO.lt)⟩ hK hS hA rfl hl.1 rfl (lv_room (Nat.le_of_ble_eq_true rfl)) dL_act_290 ⟨(by first | exact Nat.le_of_ble_eq_true rfl | omega | (dsimp only; omega)), (by first | exact Nat.le_of_ble_eq_true rfl | omega | (dsimp only; omega))⟩ (fun q69 H66 locs67 hf68 hE hS => ?_)
                      have hC := hC.ext0 hE
                      have hTt := hTt.ext0 hE
                      have hSt := hSt.ext0 hE
                      have hr2 := hr2.ext0 hE
                      have hr62 := hr62.ext0 hE
                      have hO := hO.ext0 hE
                      have hP := hP.hy0 hE
                      have hf68T := hf68.T
                      refine sx_put (k := 2) (v := .ref q69) (ty := .array (.array .int)) hx hb hts in_L_act_X2 hown hK.1 hO hS hAh (hts (.fieldLink RL 33 "MoorTrianglesLaw$Sim" "stays" "[[I") fl_L_act_33) (by decide) rfl rfl (by rfl) (by rfl) rfl rfl dL_act_293 (fun H70 locs71 hO hZ hS => ?_)
                      have hO : sO (dC, dI) H70 h qc qt q69 fl := hO
                      have hC := hC.extZ hZ
                      have hTt := hTt.extZ hZ
                      have hSt := hSt.extZ hZ
                      have hr2 := hr2.extZ hZ
                      have hr62 := hr62.extZ hZ
                      have hf68T := hf68T.extZ hZ
                      have hP := hP.hz9 hD hZ
                      have hn2 : qc ≠ q69 := fun e => by have := hf68.1; omega
                      refine lv_goto (tgt := 305) hx hb dL_act_296 (by decide) ?_
                      refine lv_iload hx hb dL_act_305 (lv_at hl 2 rfl) ?_
                      refine lv_if_neB (tgt := 339) hx hb dL_act_307 (by decide) (fun c_72 => ?_) (fun c_72 => ?_)
                      · refine lv_aload_n hx hb dL_act_339 rfl (lv_at hl 8 rfl) ?_
                        refine lv_iload hx hb dL_act_340 (lv_at hl 5 rfl) ?_
                        refine lv_iload hx hb dL_act_342 (lv_at hl 4 rfl) ?_
                        refine lv_iload hx hb dL_act_344 (lv_at hl 3 rfl) ?_
                        refine lc_xi (As := [.int a9, .int b9, .int (bI (l_z (nI o9)))]) (rest := []) hX9 F (c_X1_fix l hl0 dC dI cI cZ cY (a 0) (a 1) hs fx (a 2) (a 3) (a 4) (a 5) (a 6) (a 7) n t xs ys lf sy co (a 8) (a 9) (a 10) (a 11) (a 12) (a 13) n2 t2 xs2 ys2 lf2 sy2 co2 a9 b9 (bI (l_z (nI o9))) H70.size ) (cwV 3 hts gL_act_X1_fix rfl rfl rfl hd_X1_fix ⟨Nat.le_of_ble_eq_true rfl, Nat.le_of_ble_eq_true rfl⟩) H1.1 rfl hP hK hD hS hB (lW_recv hK.1 hP) rfl hl.1 rfl (lv_room (Nat.le_of_ble_eq_true rfl)) dL_act_346 ⟨(by first | exact Nat.le_of_ble_eq_true rfl | omega | (dsimp only; omega)), (by first | exact Nat.le_of_ble_eq_true rfl | omega | (dsimp only; omega))⟩ (fun H73 locs74 hP hD hY hS => ?_)
                        have hP : va_P (dC, dI) vwCl (lW cI a (hs, fx, n, t, xs, ys, lf, m_setSt n sy a9 b9 (bI (l_z (nI o9))), co, n2, t2, xs2, ys2, lf2, sy2, co2)) H73 := hP
                        have hD : va_D (lB B0 h) (lW cI a (hs, fx, n, t, xs, ys, lf, m_setSt n sy a9 b9 (bI (l_z (nI o9))), co, n2, t2, xs2, ys2, lf2, sy2, co2)) := hD
                        have hC := hC.ext (hY.up (Nat.le_succ h))
                        have hTt := hTt.ext (hY.up (Nat.le_succ h))
                        have hSt := hSt.ext (hY.up (Nat.le_succ h))
                        have hr2 := hr2.ext (hY.up (Nat.le_succ h))
                        have hr62 := hr62.ext (hY.up (Nat.le_succ h))
                        have hf68T := hf68T.ext (hY.up (Nat.le_succ h))
                        have hO := hO.ext hY
                        refine lv_iload hx hb dL_act_349 (lv_at hl 2 rfl) ?_
                        refine lv_icmp_ne (tgt := 358) hx hb dL_act_351 (by decide) (fun c_75 => ?_) (fun c_75 => ?_)
                        · exact absurd (by rw [H1.2.1]) c_75
                        · refine lv_iconst (v := 1) hx hb dL_act_354 (by decide) ?_
                          refine lv_goto (tgt := 359) hx hb dL_act_355 (by decide) ?_
                          exact la_zret (S := lX × lS) ((hs, fx, n, t, xs, ys, lf, m_setSt n sy a9 b9 (bI (l_z (nI o9))), co, n2, t2, xs2, ys2, lf2, sy2, co2), (nC, C, nT, T, nS - 1, s_less S j, fl)) (b := true) hx hb hr hlocks rfl ⟨rfl, (by have h9 := H1.2.2; rw [s_fixS_l c_53 hpr hbj hlt_j] at h9; exact h9)⟩ ⟨hP, hD, ⟨qc, qt, q69, hO, hC, hTt, hf68T, hn1, hn2⟩⟩ hS (by first | exact Nat.le_of_ble_eq_true rfl | omega | (dsimp only; omega)) (by first | exact Nat.le_of_ble_eq_true rfl | omega | (dsimp only; omega)) dL_act_359
                      · exact absurd (c_72.symm.trans c_29) (by decide)
                    · refine lv_goto (tgt := 299) hx hb dL_act_280 (by decide) ?_
                      refine lv_iinc (v := nI (j + 1)) (lv' := [(11, .int (nI (j + 1))), (12, .ref xq61), (10, .int (bI (s_stay nS S a9 b9))), (9, .int (bI (l_z (nI o9)))), (6, .int b9), (5, .int a9), (4, .ref xq1), (3, .int (nI nC)), (0, .ref (a 0)), (1, .ref h), (2, .int x)]) hx hb dL_act_299 hl (k := 1) rfl (nI_1 _) (by decide) rfl (fun ls hl => ?_)
                      refine lv_goto (tgt := 225) hx hb dL_act_302 (by decide) ?_
                      have hl := lv_sub (l' := [(11, .int (nI (j + 1))), (10, .int (bI (s_stay nS S a9 b9))), (9, .int (bI (l_z (nI o9)))), (6, .int b9), (5, .int a9), (4, .ref xq1), (3, .int (nI nC)), (0, .ref (a 0)), (1, .ref h), (2, .int x)]) hl [0, 2, 3, 4, 5, 6, 7, 8, 9, 10] rfl
                      have hl : lv_has ls 14 [(11, .int (nI (j + 1))), (10, .int (bI (s_stay nS S a9 b9))), (9, .int (bI (l_z (nI o9)))), (6, .int b9), (5, .int a9), (4, .ref xq1), (3, .int (nI nC)), (0, .ref (a 0)), (1, .ref h), (2, .int x)] := by
                        have e9 : [(11, .int (nI (j + 1))), (10, .int (bI (s_stay nS S a9 b9))), (9, .int (bI (l_z (nI o9)))), (6, .int b9), (5, .int a9), (4, .ref xq1), (3, .int (nI nC)), (0, .ref (a 0)), (1, .ref h), (2, .int x)] = ([(11, .int (nI (j + 1))), (10, .int (bI (s_stay nS S a9 b9))), (9, .int (bI (l_z (nI o9)))), (6, .int b9), (5, .int a9), (4, .ref xq1), (3, .int (nI nC)), (0, .ref (a 0)), (1, .ref h), (2, .int x)] : List (Nat × Value)) := by rfl
                        rw [← e9]; exact hl
                      exact ih_59 (j + 1) (by omega) (by omega) (rg_bef hbj (show s_pS S a9 b9 j = false from by rw [s_pS, s_pr, if_neg c_63, if_pos c_64, if_neg c_65])) _ hl
                · refine lv_aload hx hb dL_act_253 (lv_at hl 0 rfl) ?_
                  refine lv_iconst (v := 1) hx hb dL_act_255 (by decide) ?_
                  refine sx_iald hx hb hK.1 hr62 ix_1 (by decide) dL_act_256 ?_
                  refine lv_iload hx hb dL_act_257 (lv_at hl 4 rfl) ?_
                  refine lv_icmp_eq (tgt := 283) hx hb dL_act_259 (by decide) (fun c_76 => ?_) (fun c_76 => ?_)
                  · have hpr := (show s_pS S a9 b9 j = true from by rw [s_pS, s_pr, if_pos c_63, if_pos c_76])
                    refine lv_aload_n hx hb dL_act_283 rfl (lv_at hl 9 rfl) ?_
                    refine lv_aload_n hx hb dL_act_284 rfl (lv_at hl 9 rfl) ?_
                    refine va_get (D := (dC, dI)) (ci := 2) (v := .ref qs) (C := RX2) (T := TX2) (N := 4) hx hb hts in_L_act_X2 hown hK.1 (va_P.one hO) 0 rfl rfl 2 (by decide) (hts (.fieldLink RL 33 "MoorTrianglesLaw$Sim" "stays" "[[I") fl_L_act_33) (fun _ h9 => h9) rfl dL_act_285 ?_
                    refine lv_iload hx hb dL_act_288 (lv_at hl 1 rfl) ?_
                    have lt9 := hC.lt
                    have lt7 := hTt.lt
                    have lt8 := hSt.lt
                    refine sc_cSNr (As := [.ref qs, .int (nI j)]) (rest := [.ref h]) F (c_X2_less l dC dI cI cZ cY (h + 1) qs j nS 2 S (by omega) hlt_j s.heap.size) (va_cwS 2 hts gL_act_X2_less rfl rfl rfl hd_X2_less.2 ⟨Nat.le_of_ble_eq_true rfl, Nat.le_of_ble_eq_true rfl⟩) ⟨hSt, (Nat.succ_le_of_lt hO.lt)⟩ hK hS hA rfl hl.1 rfl (lv_room (Nat.le_of_ble_eq_true rfl)) dL_act_290 ⟨(by first | exact Nat.le_of_ble_eq_true rfl | omega | (dsimp only; omega)), (by first | exact Nat.le_of_ble_eq_true rfl | omega | (dsimp only; omega))⟩ (fun q80 H77 locs78 hf79 hE hS => ?_)
                    have hC := hC.ext0 hE
                    have hTt := hTt.ext0 hE
                    have hSt := hSt.ext0 hE
                    have hr2 := hr2.ext0 hE
                    have hr62 := hr62.ext0 hE
                    have hO := hO.ext0 hE
                    have hP := hP.hy0 hE
                    have hf79T := hf79.T
                    refine sx_put (k := 2) (v := .ref q80) (ty := .array (.array .int)) hx hb hts in_L_act_X2 hown hK.1 hO hS hAh (hts (.fieldLink RL 33 "MoorTrianglesLaw$Sim" "stays" "[[I") fl_L_act_33) (by decide) rfl rfl (by rfl) (by rfl) rfl rfl dL_act_293 (fun H81 locs82 hO hZ hS => ?_)
                    have hO : sO (dC, dI) H81 h qc qt q80 fl := hO
                    have hC := hC.extZ hZ
                    have hTt := hTt.extZ hZ
                    have hSt := hSt.extZ hZ
                    have hr2 := hr2.extZ hZ
                    have hr62 := hr62.extZ hZ
                    have hf79T := hf79T.extZ hZ
                    have hP := hP.hz9 hD hZ
                    have hn2 : qc ≠ q80 := fun e => by have := hf79.1; omega
                    refine lv_goto (tgt := 305) hx hb dL_act_296 (by decide) ?_
                    refine lv_iload hx hb dL_act_305 (lv_at hl 2 rfl) ?_
                    refine lv_if_neB (tgt := 339) hx hb dL_act_307 (by decide) (fun c_83 => ?_) (fun c_83 => ?_)
                    · refine lv_aload_n hx hb dL_act_339 rfl (lv_at hl 8 rfl) ?_
                      refine lv_iload hx hb dL_act_340 (lv_at hl 5 rfl) ?_
                      refine lv_iload hx hb dL_act_342 (lv_at hl 4 rfl) ?_
                      refine lv_iload hx hb dL_act_344 (lv_at hl 3 rfl) ?_
                      refine lc_xi (As := [.int a9, .int b9, .int (bI (l_z (nI o9)))]) (rest := []) hX9 F (c_X1_fix l hl0 dC dI cI cZ cY (a 0) (a 1) hs fx (a 2) (a 3) (a 4) (a 5) (a 6) (a 7) n t xs ys lf sy co (a 8) (a 9) (a 10) (a 11) (a 12) (a 13) n2 t2 xs2 ys2 lf2 sy2 co2 a9 b9 (bI (l_z (nI o9))) H81.size ) (cwV 3 hts gL_act_X1_fix rfl rfl rfl hd_X1_fix ⟨Nat.le_of_ble_eq_true rfl, Nat.le_of_ble_eq_true rfl⟩) H1.1 rfl hP hK hD hS hB (lW_recv hK.1 hP) rfl hl.1 rfl (lv_room (Nat.le_of_ble_eq_true rfl)) dL_act_346 ⟨(by first | exact Nat.le_of_ble_eq_true rfl | omega | (dsimp only; omega)), (by first | exact Nat.le_of_ble_eq_true rfl | omega | (dsimp only; omega))⟩ (fun H84 locs85 hP hD hY hS => ?_)
                      have hP : va_P (dC, dI) vwCl (lW cI a (hs, fx, n, t, xs, ys, lf, m_setSt n sy a9 b9 (bI (l_z (nI o9))), co, n2, t2, xs2, ys2, lf2, sy2, co2)) H84 := hP
                      have hD : va_D (lB B0 h) (lW cI a (hs, fx, n, t, xs, ys, lf, m_setSt n sy a9 b9 (bI (l_z (nI o9))), co, n2, t2, xs2, ys2, lf2, sy2, co2)) := hD
                      have hC := hC.ext (hY.up (Nat.le_succ h))
                      have hTt := hTt.ext (hY.up (Nat.le_succ h))
                      have hSt := hSt.ext (hY.up (Nat.le_succ h))
                      have hr2 := hr2.ext (hY.up (Nat.le_succ h))
                      have hr62 := hr62.ext (hY.up (Nat.le_succ h))
                      have hf79T := hf79T.ext (hY.up (Nat.le_succ h))
                      have hO := hO.ext hY
                      refine lv_iload hx hb dL_act_349 (lv_at hl 2 rfl) ?_
                      refine lv_icmp_ne (tgt := 358) hx hb dL_act_351 (by decide) (fun c_86 => ?_) (fun c_86 => ?_)
                      · exact absurd (by rw [H1.2.1]) c_86
                      · refine lv_iconst (v := 1) hx hb dL_act_354 (by decide) ?_
                        refine lv_goto (tgt := 359) hx hb dL_act_355 (by decide) ?_
                        exact la_zret (S := lX × lS) ((hs, fx, n, t, xs, ys, lf, m_setSt n sy a9 b9 (bI (l_z (nI o9))), co, n2, t2, xs2, ys2, lf2, sy2, co2), (nC, C, nT, T, nS - 1, s_less S j, fl)) (b := true) hx hb hr hlocks rfl ⟨rfl, (by have h9 := H1.2.2; rw [s_fixS_l c_53 hpr hbj hlt_j] at h9; exact h9)⟩ ⟨hP, hD, ⟨qc, qt, q80, hO, hC, hTt, hf79T, hn1, hn2⟩⟩ hS (by first | exact Nat.le_of_ble_eq_true rfl | omega | (dsimp only; omega)) (by first | exact Nat.le_of_ble_eq_true rfl | omega | (dsimp only; omega)) dL_act_359
                    · exact absurd (c_83.symm.trans c_29) (by decide)
                  · refine lv_aload hx hb dL_act_262 (lv_at hl 0 rfl) ?_
                    refine lv_iconst (v := 0) hx hb dL_act_264 (by decide) ?_
                    refine sx_iald hx hb hK.1 hr62 ix_0 (by decide) dL_act_265 ?_
                    refine lv_iload hx hb dL_act_266 (lv_at hl 4 rfl) ?_
                    refine lv_icmp_ne (tgt := 299) hx hb dL_act_268 (by decide) (fun c_87 => ?_) (fun c_87 => ?_)
                    · refine lv_iinc (v := nI (j + 1)) (lv' := [(11, .int (nI (j + 1))), (12, .ref xq61), (10, .int (bI (s_stay nS S a9 b9))), (9, .int (bI (l_z (nI o9)))), (6, .int b9), (5, .int a9), (4, .ref xq1), (3, .int (nI nC)), (0, .ref (a 0)), (1, .ref h), (2, .int x)]) hx hb dL_act_299 hl (k := 1) rfl (nI_1 _) (by decide) rfl (fun ls hl => ?_)
                      refine lv_goto (tgt := 225) hx hb dL_act_302 (by decide) ?_
                      have hl := lv_sub (l' := [(11, .int (nI (j + 1))), (10, .int (bI (s_stay nS S a9 b9))), (9, .int (bI (l_z (nI o9)))), (6, .int b9), (5, .int a9), (4, .ref xq1), (3, .int (nI nC)), (0, .ref (a 0)), (1, .ref h), (2, .int x)]) hl [0, 2, 3, 4, 5, 6, 7, 8, 9, 10] rfl
                      have hl : lv_has ls 14 [(11, .int (nI (j + 1))), (10, .int (bI (s_stay nS S a9 b9))), (9, .int (bI (l_z (nI o9)))), (6, .int b9), (5, .int a9), (4, .ref xq1), (3, .int (nI nC)), (0, .ref (a 0)), (1, .ref h), (2, .int x)] := by
                        have e9 : [(11, .int (nI (j + 1))), (10, .int (bI (s_stay nS S a9 b9))), (9, .int (bI (l_z (nI o9)))), (6, .int b9), (5, .int a9), (4, .ref xq1), (3, .int (nI nC)), (0, .ref (a 0)), (1, .ref h), (2, .int x)] = ([(11, .int (nI (j + 1))), (10, .int (bI (s_stay nS S a9 b9))), (9, .int (bI (l_z (nI o9)))), (6, .int b9), (5, .int a9), (4, .ref xq1), (3, .int (nI nC)), (0, .ref (a 0)), (1, .ref h), (2, .int x)] : List (Nat × Value)) := by rfl
                        rw [← e9]; exact hl
                      exact ih_59 (j + 1) (by omega) (by omega) (rg_bef hbj (show s_pS S a9 b9 j = false from by rw [s_pS, s_pr, if_pos c_63, if_neg c_76, if_neg c_87])) _ hl
                    · refine lv_aload hx hb dL_act_271 (lv_at hl 0 rfl) ?_
                      refine lv_iconst (v := 1) hx hb dL_act_273 (by decide) ?_
                      refine sx_iald hx hb hK.1 hr62 ix_1 (by decide) dL_act_274 ?_
                      refine lv_iload hx hb dL_act_275 (lv_at hl 5 rfl) ?_
                      refine lv_icmp_eq (tgt := 283) hx hb dL_act_277 (by decide) (fun c_88 => ?_) (fun c_88 => ?_)
                      · have hpr := (show s_pS S a9 b9 j = true from by rw [s_pS, s_pr, if_pos c_63, if_neg c_76, if_pos c_87, if_pos c_88])
                        refine lv_aload_n hx hb dL_act_283 rfl (lv_at hl 9 rfl) ?_
                        refine lv_aload_n hx hb dL_act_284 rfl (lv_at hl 9 rfl) ?_
                        refine va_get (D := (dC, dI)) (ci := 2) (v := .ref qs) (C := RX2) (T := TX2) (N := 4) hx hb hts in_L_act_X2 hown hK.1 (va_P.one hO) 0 rfl rfl 2 (by decide) (hts (.fieldLink RL 33 "MoorTrianglesLaw$Sim" "stays" "[[I") fl_L_act_33) (fun _ h9 => h9) rfl dL_act_285 ?_
                        refine lv_iload hx hb dL_act_288 (lv_at hl 1 rfl) ?_
                        have lt9 := hC.lt
                        have lt7 := hTt.lt
                        have lt8 := hSt.lt
                        refine sc_cSNr (As := [.ref qs, .int (nI j)]) (rest := [.ref h]) F (c_X2_less l dC dI cI cZ cY (h + 1) qs j nS 2 S (by omega) hlt_j s.heap.size) (va_cwS 2 hts gL_act_X2_less rfl rfl rfl hd_X2_less.2 ⟨Nat.le_of_ble_eq_true rfl, Nat.le_of_ble_eq_true rfl⟩) ⟨hSt, (Nat.succ_le_of_lt hO.lt)⟩ hK hS hA rfl hl.1 rfl (lv_room (Nat.le_of_ble_eq_true rfl)) dL_act_290 ⟨(by first | exact Nat.le_of_ble_eq_true rfl | omega | (dsimp only; omega)), (by first | exact Nat.le_of_ble_eq_true rfl | omega | (dsimp only; omega))⟩ (fun q92 H89 locs90 hf91 hE hS => ?_)
                        have hC := hC.ext0 hE
                        have hTt := hTt.ext0 hE
                        have hSt := hSt.ext0 hE
                        have hr2 := hr2.ext0 hE
                        have hr62 := hr62.ext0 hE
                        have hO := hO.ext0 hE
                        have hP := hP.hy0 hE
                        have hf91T := hf91.T
                        refine sx_put (k := 2) (v := .ref q92) (ty := .array (.array .int)) hx hb hts in_L_act_X2 hown hK.1 hO hS hAh (hts (.fieldLink RL 33 "MoorTrianglesLaw$Sim" "stays" "[[I") fl_L_act_33) (by decide) rfl rfl (by rfl) (by rfl) rfl rfl dL_act_293 (fun H93 locs94 hO hZ hS => ?_)
                        have hO : sO (dC, dI) H93 h qc qt q92 fl := hO
                        have hC := hC.extZ hZ
                        have hTt := hTt.extZ hZ
                        have hSt := hSt.extZ hZ
                        have hr2 := hr2.extZ hZ
                        have hr62 := hr62.extZ hZ
                        have hf91T := hf91T.extZ hZ
                        have hP := hP.hz9 hD hZ
                        have hn2 : qc ≠ q92 := fun e => by have := hf91.1; omega
                        refine lv_goto (tgt := 305) hx hb dL_act_296 (by decide) ?_
                        refine lv_iload hx hb dL_act_305 (lv_at hl 2 rfl) ?_
                        refine lv_if_neB (tgt := 339) hx hb dL_act_307 (by decide) (fun c_95 => ?_) (fun c_95 => ?_)
                        · refine lv_aload_n hx hb dL_act_339 rfl (lv_at hl 8 rfl) ?_
                          refine lv_iload hx hb dL_act_340 (lv_at hl 5 rfl) ?_
                          refine lv_iload hx hb dL_act_342 (lv_at hl 4 rfl) ?_
                          refine lv_iload hx hb dL_act_344 (lv_at hl 3 rfl) ?_
                          refine lc_xi (As := [.int a9, .int b9, .int (bI (l_z (nI o9)))]) (rest := []) hX9 F (c_X1_fix l hl0 dC dI cI cZ cY (a 0) (a 1) hs fx (a 2) (a 3) (a 4) (a 5) (a 6) (a 7) n t xs ys lf sy co (a 8) (a 9) (a 10) (a 11) (a 12) (a 13) n2 t2 xs2 ys2 lf2 sy2 co2 a9 b9 (bI (l_z (nI o9))) H93.size ) (cwV 3 hts gL_act_X1_fix rfl rfl rfl hd_X1_fix ⟨Nat.le_of_ble_eq_true rfl, Nat.le_of_ble_eq_true rfl⟩) H1.1 rfl hP hK hD hS hB (lW_recv hK.1 hP) rfl hl.1 rfl (lv_room (Nat.le_of_ble_eq_true rfl)) dL_act_346 ⟨(by first | exact Nat.le_of_ble_eq_true rfl | omega | (dsimp only; omega)), (by first | exact Nat.le_of_ble_eq_true rfl | omega | (dsimp only; omega))⟩ (fun H96 locs97 hP hD hY hS => ?_)
                          have hP : va_P (dC, dI) vwCl (lW cI a (hs, fx, n, t, xs, ys, lf, m_setSt n sy a9 b9 (bI (l_z (nI o9))), co, n2, t2, xs2, ys2, lf2, sy2, co2)) H96 := hP
                          have hD : va_D (lB B0 h) (lW cI a (hs, fx, n, t, xs, ys, lf, m_setSt n sy a9 b9 (bI (l_z (nI o9))), co, n2, t2, xs2, ys2, lf2, sy2, co2)) := hD
                          have hC := hC.ext (hY.up (Nat.le_succ h))
                          have hTt := hTt.ext (hY.up (Nat.le_succ h))
                          have hSt := hSt.ext (hY.up (Nat.le_succ h))
                          have hr2 := hr2.ext (hY.up (Nat.le_succ h))
                          have hr62 := hr62.ext (hY.up (Nat.le_succ h))
                          have hf91T := hf91T.ext (hY.up (Nat.le_succ h))
                          have hO := hO.ext hY
                          refine lv_iload hx hb dL_act_349 (lv_at hl 2 rfl) ?_
                          refine lv_icmp_ne (tgt := 358) hx hb dL_act_351 (by decide) (fun c_98 => ?_) (fun c_98 => ?_)
                          · exact absurd (by rw [H1.2.1]) c_98
                          · refine lv_iconst (v := 1) hx hb dL_act_354 (by decide) ?_
                            refine lv_goto (tgt := 359) hx hb dL_act_355 (by decide) ?_
                            exact la_zret (S := lX × lS) ((hs, fx, n, t, xs, ys, lf, m_setSt n sy a9 b9 (bI (l_z (nI o9))), co, n2, t2, xs2, ys2, lf2, sy2, co2), (nC, C, nT, T, nS - 1, s_less S j, fl)) (b := true) hx hb hr hlocks rfl ⟨rfl, (by have h9 := H1.2.2; rw [s_fixS_l c_53 hpr hbj hlt_j] at h9; exact h9)⟩ ⟨hP, hD, ⟨qc, qt, q92, hO, hC, hTt, hf91T, hn1, hn2⟩⟩ hS (by first | exact Nat.le_of_ble_eq_true rfl | omega | (dsimp only; omega)) (by first | exact Nat.le_of_ble_eq_true rfl | omega | (dsimp only; omega)) dL_act_359
                        · exact absurd (c_95.symm.trans c_29) (by decide)
                      · refine lv_goto (tgt := 299) hx hb dL_act_280 (by decide) ?_
                        refine lv_iinc (v := nI (j + 1)) (lv' := [(11, .int (nI (j + 1))), (12, .ref xq61), (10, .int (bI (s_stay nS S a9 b9))), (9, .int (bI (l_z (nI o9)))), (6, .int b9), (5, .int a9), (4, .ref xq1), (3, .int (nI nC)), (0, .ref (a 0)), (1, .ref h), (2, .int x)]) hx hb dL_act_299 hl (k := 1) rfl (nI_1 _) (by decide) rfl (fun ls hl => ?_)
                        refine lv_goto (tgt := 225) hx hb dL_act_302 (by decide) ?_
                        have hl := lv_sub (l' := [(11, .int (nI (j + 1))), (10, .int (bI (s_stay nS S a9 b9))), (9, .int (bI (l_z (nI o9)))), (6, .int b9), (5, .int a9), (4, .ref xq1), (3, .int (nI nC)), (0, .ref (a 0)), (1, .ref h), (2, .int x)]) hl [0, 2, 3, 4, 5, 6, 7, 8, 9, 10] rfl
                        have hl : lv_has ls 14 [(11, .int (nI (j + 1))), (10, .int (bI (s_stay nS S a9 b9))), (9, .int (bI (l_z (nI o9)))), (6, .int b9), (5, .int a9), (4, .ref xq1), (3, .int (nI nC)), (0, .ref (a 0)), (1, .ref h), (2, .int x)] := by
                          have e9 : [(11, .int (nI (j + 1))), (10, .int (bI (s_stay nS S a9 b9))), (9, .int (bI (l_z (nI o9)))), (6, .int b9), (5, .int a9), (4, .ref xq1), (3, .int (nI nC)), (0, .ref (a 0)), (1, .ref h), (2, .int x)] = ([(11, .int (nI (j + 1))), (10, .int (bI (s_stay nS S a9 b9))), (9, .int (bI (l_z (nI o9)))), (6, .int b9), (5, .int a9), (4, .ref xq1), (3, .int (nI nC)), (0, .ref (a 0)), (1, .ref h), (2, .int x)] : List (Nat × Value)) := by rfl
                          rw [← e9]; exact hl
                        exact ih_59 (j + 1) (by omega) (by omega) (rg_bef hbj (show s_pS S a9 b9 j = false from by rw [s_pS, s_pr, if_pos c_63, if_neg c_76, if_pos c_87, if_neg c_88])) _ hl
          have hl := lv_sub (l' := [(11, .int 0), (10, .int (bI (s_stay nS S a9 b9))), (9, .int (bI (l_z (nI o9)))), (6, .int b9), (5, .int a9), (4, .ref xq1), (3, .int (nI nC)), (0, .ref (a 0)), (1, .ref h), (2, .int x)]) hl [0, 1, 2, 3, 4, 5, 6, 7, 8, 9] rfl
          have hl : lv_has ls 14 [(11, .int (nI 0)), (10, .int (bI (s_stay nS S a9 b9))), (9, .int (bI (l_z (nI o9)))), (6, .int b9), (5, .int a9), (4, .ref xq1), (3, .int (nI nC)), (0, .ref (a 0)), (1, .ref h), (2, .int x)] := by
            have e9 : [(11, .int 0), (10, .int (bI (s_stay nS S a9 b9))), (9, .int (bI (l_z (nI o9)))), (6, .int b9), (5, .int a9), (4, .ref xq1), (3, .int (nI nC)), (0, .ref (a 0)), (1, .ref h), (2, .int x)] = ([(11, .int (nI 0)), (10, .int (bI (s_stay nS S a9 b9))), (9, .int (bI (l_z (nI o9)))), (6, .int b9), (5, .int a9), (4, .ref xq1), (3, .int (nI nC)), (0, .ref (a 0)), (1, .ref h), (2, .int x)] : List (Nat × Value)) := by rfl
            rw [← e9]; exact hl
          exact hL225 _ 0 (Nat.lt_succ_self _) (by omega) (fun j hj => absurd hj (Nat.not_lt_zero _)) _ hl
    refine lv_if_le (tgt := 199) hx hb dL_act_192 (by decide) (fun c_99 => ?_) (fun c_99 => ?_)
    · refine lv_iconst (v := 0) hx hb dL_act_199 (by decide) ?_
      refine lv_cvi (y := (bI (l_z (nI o9)))) (by rw [l_z, if_pos c_99]; rfl) ?_
      exact hj192
    · refine lv_iconst (v := 1) hx hb dL_act_195 (by decide) ?_
      refine lv_goto (tgt := 200) hx hb dL_act_196 (by decide) ?_
      refine lv_cvi (y := (bI (l_z (nI o9)))) (by rw [l_z, if_neg c_99]; rfl) ?_
      exact hj192
  by_cases c_100 : (nI (l_bel (x >>> (9 &&& 31)) 12)) = 2
  · refine lv_tsw (k := 2) (off := 303) (tgt := 360) hx hb dL_act_57 c_100 (by decide +kernel) (by decide +kernel) (by decide +kernel) (by decide) ?_
    refine lv_aload_n hx hb dL_act_360 rfl (lv_at hl 5 rfl) ?_
    refine lv_iload hx hb dL_act_361 (lv_at hl 1 rfl) ?_
    refine lv_iload hx hb dL_act_363 (lv_at hl 0 rfl) ?_
    refine sc_cVNi (As := [.int a9, .int b9]) (rest := []) F (c_X2_canFlip l dC dI cI cZ cY h nC C nT T nS S fl a9 b9 (by omega) (by omega) hF ia ib s.heap.size) (cwV 2 hts gL_act_X2_canFlip rfl rfl rfl hd_X2_canFlip ⟨Nat.le_of_ble_eq_true rfl, Nat.le_of_ble_eq_true rfl⟩) ⟨qc, qt, qs, hO, hC, hTt, hSt, hn1, hn2⟩ hK hS hA (sM.recv hK.1 ⟨qc, qt, qs, hO, hC, hTt, hSt, hn1, hn2⟩) rfl hl.1 rfl (lv_room (Nat.le_of_ble_eq_true rfl)) dL_act_365 ⟨(by first | exact Nat.le_of_ble_eq_true rfl | omega | (dsimp only; omega)), (by first | exact Nat.le_of_ble_eq_true rfl | omega | (dsimp only; omega))⟩ (fun H101 locs102 hf103 hE hS => ?_)
    have hC := hC.ext0 hE
    have hTt := hTt.ext0 hE
    have hSt := hSt.ext0 hE
    have hr2 := hr2.ext0 hE
    have hO := hO.ext0 hE
    have hP := hP.hy0 hE
    refine lv_if_neB (tgt := 373) hx hb dL_act_368 (by decide) (fun c_105 => ?_) (fun c_105 => ?_)
    · refine lv_aload_n hx hb dL_act_373 rfl (lv_at hl 4 rfl) ?_
      refine lv_iload hx hb dL_act_374 (lv_at hl 1 rfl) ?_
      refine lv_iload hx hb dL_act_376 (lv_at hl 0 rfl) ?_
      refine lc_xi (As := [.int a9, .int b9]) (rest := []) hX9 F (c_X1_flip l hl0 dC dI cI cZ cY (a 0) (a 1) hs fx (a 2) (a 3) (a 4) (a 5) (a 6) (a 7) n t xs ys lf sy co (a 8) (a 9) (a 10) (a 11) (a 12) (a 13) n2 t2 xs2 ys2 lf2 sy2 co2 a9 b9 H101.size (by omega)) (cwV 2 hts gL_act_X1_flip rfl rfl rfl hd_X1_flip ⟨Nat.le_of_ble_eq_true rfl, Nat.le_of_ble_eq_true rfl⟩) (H2 c_105).1 rfl hP hK hD hS hB (lW_recv hK.1 hP) rfl hl.1 rfl (lv_room (Nat.le_of_ble_eq_true rfl)) dL_act_378 ⟨(by first | exact Nat.le_of_ble_eq_true rfl | omega | (dsimp only; omega)), (by first | exact Nat.le_of_ble_eq_true rfl | omega | (dsimp only; omega))⟩ (fun H106 locs107 hP hD hY hS => ?_)
      have hP : va_P (dC, dI) vwCl (lW cI a (hs, fx + 1, n, (m_list n (m_tE n xs ys lf a9 b9) co).1, xs, ys, m_tE n xs ys lf a9 b9, sy, (m_list n (m_tE n xs ys lf a9 b9) co).2, n2, t2, xs2, ys2, lf2, sy2, co2)) H106 := hP
      have hD : va_D (lB B0 h) (lW cI a (hs, fx + 1, n, (m_list n (m_tE n xs ys lf a9 b9) co).1, xs, ys, m_tE n xs ys lf a9 b9, sy, (m_list n (m_tE n xs ys lf a9 b9) co).2, n2, t2, xs2, ys2, lf2, sy2, co2)) := hD
      have hC := hC.ext (hY.up (Nat.le_succ h))
      have hTt := hTt.ext (hY.up (Nat.le_succ h))
      have hSt := hSt.ext (hY.up (Nat.le_succ h))
      have hr2 := hr2.ext (hY.up (Nat.le_succ h))
      have hO := hO.ext hY
      refine lv_aload_n hx hb dL_act_381 rfl (lv_at hl 5 rfl) ?_
      refine lv_iload hx hb dL_act_382 (lv_at hl 1 rfl) ?_
      refine lv_iload hx hb dL_act_384 (lv_at hl 0 rfl) ?_
      refine sc_cVHi (hh := h) (As := [.int a9, .int b9]) (rest := [.int (16 * min32 (m_leftOf lf a9 b9) (m_leftOf lf b9 a9) + max32 (m_leftOf lf a9 b9) (m_leftOf lf b9 a9))]) F (c_X2_flip l dC dI cI cZ cY h nC C nT T nS S fl a9 b9 (by omega) (s_flp_2 c_105) H106.size) (cwV 2 hts gL_act_X2_flip rfl rfl rfl hd_X2_flip ⟨Nat.le_of_ble_eq_true rfl, Nat.le_of_ble_eq_true rfl⟩) ⟨qc, qt, qs, hO, hC, hTt, hSt, hn1, hn2⟩ hK hS hA hAh (sM.recv hK.1 ⟨qc, qt, qs, hO, hC, hTt, hSt, hn1, hn2⟩) rfl hl.1 rfl (lv_room (Nat.le_of_ble_eq_true rfl)) dL_act_386 ⟨(by first | exact Nat.le_of_ble_eq_true rfl | omega | (dsimp only; omega)), (by first | exact Nat.le_of_ble_eq_true rfl | omega | (dsimp only; omega))⟩ (fun H108 locs109 hf110 hZ hS => ?_)
      have hr2 := hr2.extZ hZ
      have hP := hP.hz9 hD hZ
      obtain ⟨qc112, qt112, qs112, hO, hC, hTt, hSt, hn1, hn2⟩ := hf110
      refine lv_icmp_ne (tgt := 396) hx hb dL_act_389 (by decide) (fun c_113 => ?_) (fun c_113 => ?_)
      · exact absurd (H2 c_105).2.1 c_113
      · refine lv_iconst (v := 1) hx hb dL_act_392 (by decide) ?_
        refine lv_goto (tgt := 397) hx hb dL_act_393 (by decide) ?_
        exact la_zret (S := lX × lS) ((hs, fx + 1, n, (m_list n (m_tE n xs ys lf a9 b9) co).1, xs, ys, m_tE n xs ys lf a9 b9, sy, (m_list n (m_tE n xs ys lf a9 b9) co).2, n2, t2, xs2, ys2, lf2, sy2, co2), (nC, C, (s_flip nT T a9 b9).1, (s_flip nT T a9 b9).2, nS, S, fl + 1)) (b := true) hx hb hr hlocks rfl ⟨rfl, (H2 c_105).2.2⟩ ⟨hP, hD, ⟨qc112, qt112, qs112, hO, hC, hTt, hSt, hn1, hn2⟩⟩ hS (by first | exact Nat.le_of_ble_eq_true rfl | omega | (dsimp only; omega)) (by first | exact Nat.le_of_ble_eq_true rfl | omega | (dsimp only; omega)) dL_act_397
    · refine lv_iconst (v := 1) hx hb dL_act_371 (by decide) ?_
      exact la_zret (S := lX × lS) ((hs, fx, n, t, xs, ys, lf, sy, co, n2, t2, xs2, ys2, lf2, sy2, co2), (nC, C, nT, T, nS, S, fl)) (b := true) hx hb hr hlocks rfl ⟨rfl, hR0⟩ ⟨hP, hD, ⟨qc, qt, qs, hO, hC, hTt, hSt, hn1, hn2⟩⟩ hS (by first | exact Nat.le_of_ble_eq_true rfl | omega | (dsimp only; omega)) (by first | exact Nat.le_of_ble_eq_true rfl | omega | (dsimp only; omega)) dL_act_372
  by_cases c_114 : (nI (l_bel (x >>> (9 &&& 31)) 12)) = 3
  · refine lv_tsw (k := 3) (off := 303) (tgt := 360) hx hb dL_act_57 c_114 (by decide +kernel) (by decide +kernel) (by decide +kernel) (by decide) ?_
    refine lv_aload_n hx hb dL_act_360 rfl (lv_at hl 5 rfl) ?_
    refine lv_iload hx hb dL_act_361 (lv_at hl 1 rfl) ?_
    refine lv_iload hx hb dL_act_363 (lv_at hl 0 rfl) ?_
    refine sc_cVNi (As := [.int a9, .int b9]) (rest := []) F (c_X2_canFlip l dC dI cI cZ cY h nC C nT T nS S fl a9 b9 (by omega) (by omega) hF ia ib s.heap.size) (cwV 2 hts gL_act_X2_canFlip rfl rfl rfl hd_X2_canFlip ⟨Nat.le_of_ble_eq_true rfl, Nat.le_of_ble_eq_true rfl⟩) ⟨qc, qt, qs, hO, hC, hTt, hSt, hn1, hn2⟩ hK hS hA (sM.recv hK.1 ⟨qc, qt, qs, hO, hC, hTt, hSt, hn1, hn2⟩) rfl hl.1 rfl (lv_room (Nat.le_of_ble_eq_true rfl)) dL_act_365 ⟨(by first | exact Nat.le_of_ble_eq_true rfl | omega | (dsimp only; omega)), (by first | exact Nat.le_of_ble_eq_true rfl | omega | (dsimp only; omega))⟩ (fun H115 locs116 hf117 hE hS => ?_)
    have hC := hC.ext0 hE
    have hTt := hTt.ext0 hE
    have hSt := hSt.ext0 hE
    have hr2 := hr2.ext0 hE
    have hO := hO.ext0 hE
    have hP := hP.hy0 hE
    refine lv_if_neB (tgt := 373) hx hb dL_act_368 (by decide) (fun c_119 => ?_) (fun c_119 => ?_)
    · refine lv_aload_n hx hb dL_act_373 rfl (lv_at hl 4 rfl) ?_
      refine lv_iload hx hb dL_act_374 (lv_at hl 1 rfl) ?_
      refine lv_iload hx hb dL_act_376 (lv_at hl 0 rfl) ?_
      refine lc_xi (As := [.int a9, .int b9]) (rest := []) hX9 F (c_X1_flip l hl0 dC dI cI cZ cY (a 0) (a 1) hs fx (a 2) (a 3) (a 4) (a 5) (a 6) (a 7) n t xs ys lf sy co (a 8) (a 9) (a 10) (a 11) (a 12) (a 13) n2 t2 xs2 ys2 lf2 sy2 co2 a9 b9 H115.size (by omega)) (cwV 2 hts gL_act_X1_flip rfl rfl rfl hd_X1_flip ⟨Nat.le_of_ble_eq_true rfl, Nat.le_of_ble_eq_true rfl⟩) (H2 c_119).1 rfl hP hK hD hS hB (lW_recv hK.1 hP) rfl hl.1 rfl (lv_room (Nat.le_of_ble_eq_true rfl)) dL_act_378 ⟨(by first | exact Nat.le_of_ble_eq_true rfl | omega | (dsimp only; omega)), (by first | exact Nat.le_of_ble_eq_true rfl | omega | (dsimp only; omega))⟩ (fun H120 locs121 hP hD hY hS => ?_)
      have hP : va_P (dC, dI) vwCl (lW cI a (hs, fx + 1, n, (m_list n (m_tE n xs ys lf a9 b9) co).1, xs, ys, m_tE n xs ys lf a9 b9, sy, (m_list n (m_tE n xs ys lf a9 b9) co).2, n2, t2, xs2, ys2, lf2, sy2, co2)) H120 := hP
      have hD : va_D (lB B0 h) (lW cI a (hs, fx + 1, n, (m_list n (m_tE n xs ys lf a9 b9) co).1, xs, ys, m_tE n xs ys lf a9 b9, sy, (m_list n (m_tE n xs ys lf a9 b9) co).2, n2, t2, xs2, ys2, lf2, sy2, co2)) := hD
      have hC := hC.ext (hY.up (Nat.le_succ h))
      have hTt := hTt.ext (hY.up (Nat.le_succ h))
      have hSt := hSt.ext (hY.up (Nat.le_succ h))
      have hr2 := hr2.ext (hY.up (Nat.le_succ h))
      have hO := hO.ext hY
      refine lv_aload_n hx hb dL_act_381 rfl (lv_at hl 5 rfl) ?_
      refine lv_iload hx hb dL_act_382 (lv_at hl 1 rfl) ?_
      refine lv_iload hx hb dL_act_384 (lv_at hl 0 rfl) ?_
      refine sc_cVHi (hh := h) (As := [.int a9, .int b9]) (rest := [.int (16 * min32 (m_leftOf lf a9 b9) (m_leftOf lf b9 a9) + max32 (m_leftOf lf a9 b9) (m_leftOf lf b9 a9))]) F (c_X2_flip l dC dI cI cZ cY h nC C nT T nS S fl a9 b9 (by omega) (s_flp_2 c_119) H120.size) (cwV 2 hts gL_act_X2_flip rfl rfl rfl hd_X2_flip ⟨Nat.le_of_ble_eq_true rfl, Nat.le_of_ble_eq_true rfl⟩) ⟨qc, qt, qs, hO, hC, hTt, hSt, hn1, hn2⟩ hK hS hA hAh (sM.recv hK.1 ⟨qc, qt, qs, hO, hC, hTt, hSt, hn1, hn2⟩) rfl hl.1 rfl (lv_room (Nat.le_of_ble_eq_true rfl)) dL_act_386 ⟨(by first | exact Nat.le_of_ble_eq_true rfl | omega | (dsimp only; omega)), (by first | exact Nat.le_of_ble_eq_true rfl | omega | (dsimp only; omega))⟩ (fun H122 locs123 hf124 hZ hS => ?_)
      have hr2 := hr2.extZ hZ
      have hP := hP.hz9 hD hZ
      obtain ⟨qc126, qt126, qs126, hO, hC, hTt, hSt, hn1, hn2⟩ := hf124
      refine lv_icmp_ne (tgt := 396) hx hb dL_act_389 (by decide) (fun c_127 => ?_) (fun c_127 => ?_)
      · exact absurd (H2 c_119).2.1 c_127
      · refine lv_iconst (v := 1) hx hb dL_act_392 (by decide) ?_
        refine lv_goto (tgt := 397) hx hb dL_act_393 (by decide) ?_
        exact la_zret (S := lX × lS) ((hs, fx + 1, n, (m_list n (m_tE n xs ys lf a9 b9) co).1, xs, ys, m_tE n xs ys lf a9 b9, sy, (m_list n (m_tE n xs ys lf a9 b9) co).2, n2, t2, xs2, ys2, lf2, sy2, co2), (nC, C, (s_flip nT T a9 b9).1, (s_flip nT T a9 b9).2, nS, S, fl + 1)) (b := true) hx hb hr hlocks rfl ⟨rfl, (H2 c_119).2.2⟩ ⟨hP, hD, ⟨qc126, qt126, qs126, hO, hC, hTt, hSt, hn1, hn2⟩⟩ hS (by first | exact Nat.le_of_ble_eq_true rfl | omega | (dsimp only; omega)) (by first | exact Nat.le_of_ble_eq_true rfl | omega | (dsimp only; omega)) dL_act_397
    · refine lv_iconst (v := 1) hx hb dL_act_371 (by decide) ?_
      exact la_zret (S := lX × lS) ((hs, fx, n, t, xs, ys, lf, sy, co, n2, t2, xs2, ys2, lf2, sy2, co2), (nC, C, nT, T, nS, S, fl)) (b := true) hx hb hr hlocks rfl ⟨rfl, hR0⟩ ⟨hP, hD, ⟨qc, qt, qs, hO, hC, hTt, hSt, hn1, hn2⟩⟩ hS (by first | exact Nat.le_of_ble_eq_true rfl | omega | (dsimp only; omega)) (by first | exact Nat.le_of_ble_eq_true rfl | omega | (dsimp only; omega)) dL_act_372
  by_cases c_128 : (nI (l_bel (x >>> (9 &&& 31)) 12)) = 4
  · refine lv_tsw (k := 4) (off := 303) (tgt := 360) hx hb dL_act_57 c_128 (by decide +kernel) (by decide +kernel) (by decide +kernel) (by decide) ?_
    refine lv_aload_n hx hb dL_act_360 rfl (lv_at hl 5 rfl) ?_
    refine lv_iload hx hb dL_act_361 (lv_at hl 1 rfl) ?_
    refine lv_iload hx hb dL_act_363 (lv_at hl 0 rfl) ?_
    refine sc_cVNi (As := [.int a9, .int b9]) (rest := []) F (c_X2_canFlip l dC dI cI cZ cY h nC C nT T nS S fl a9 b9 (by omega) (by omega) hF ia ib s.heap.size) (cwV 2 hts gL_act_X2_canFlip rfl rfl rfl hd_X2_canFlip ⟨Nat.le_of_ble_eq_true rfl, Nat.le_of_ble_eq_true rfl⟩) ⟨qc, qt, qs, hO, hC, hTt, hSt, hn1, hn2⟩ hK hS hA (sM.recv hK.1 ⟨qc, qt, qs, hO, hC, hTt, hSt, hn1, hn2⟩) rfl hl.1 rfl (lv_room (Nat.le_of_ble_eq_true rfl)) dL_act_365 ⟨(by first | exact Nat.le_of_ble_eq_true rfl | omega | (dsimp only; omega)), (by first | exact Nat.le_of_ble_eq_true rfl | omega | (dsimp only; omega))⟩ (fun H129 locs130 hf131 hE hS => ?_)
    have hC := hC.ext0 hE
    have hTt := hTt.ext0 hE
    have hSt := hSt.ext0 hE
    have hr2 := hr2.ext0 hE
    have hO := hO.ext0 hE
    have hP := hP.hy0 hE
    refine lv_if_neB (tgt := 373) hx hb dL_act_368 (by decide) (fun c_133 => ?_) (fun c_133 => ?_)
    · refine lv_aload_n hx hb dL_act_373 rfl (lv_at hl 4 rfl) ?_
      refine lv_iload hx hb dL_act_374 (lv_at hl 1 rfl) ?_
      refine lv_iload hx hb dL_act_376 (lv_at hl 0 rfl) ?_
      refine lc_xi (As := [.int a9, .int b9]) (rest := []) hX9 F (c_X1_flip l hl0 dC dI cI cZ cY (a 0) (a 1) hs fx (a 2) (a 3) (a 4) (a 5) (a 6) (a 7) n t xs ys lf sy co (a 8) (a 9) (a 10) (a 11) (a 12) (a 13) n2 t2 xs2 ys2 lf2 sy2 co2 a9 b9 H129.size (by omega)) (cwV 2 hts gL_act_X1_flip rfl rfl rfl hd_X1_flip ⟨Nat.le_of_ble_eq_true rfl, Nat.le_of_ble_eq_true rfl⟩) (H2 c_133).1 rfl hP hK hD hS hB (lW_recv hK.1 hP) rfl hl.1 rfl (lv_room (Nat.le_of_ble_eq_true rfl)) dL_act_378 ⟨(by first | exact Nat.le_of_ble_eq_true rfl | omega | (dsimp only; omega)), (by first | exact Nat.le_of_ble_eq_true rfl | omega | (dsimp only; omega))⟩ (fun H134 locs135 hP hD hY hS => ?_)
      have hP : va_P (dC, dI) vwCl (lW cI a (hs, fx + 1, n, (m_list n (m_tE n xs ys lf a9 b9) co).1, xs, ys, m_tE n xs ys lf a9 b9, sy, (m_list n (m_tE n xs ys lf a9 b9) co).2, n2, t2, xs2, ys2, lf2, sy2, co2)) H134 := hP
      have hD : va_D (lB B0 h) (lW cI a (hs, fx + 1, n, (m_list n (m_tE n xs ys lf a9 b9) co).1, xs, ys, m_tE n xs ys lf a9 b9, sy, (m_list n (m_tE n xs ys lf a9 b9) co).2, n2, t2, xs2, ys2, lf2, sy2, co2)) := hD
      have hC := hC.ext (hY.up (Nat.le_succ h))
      have hTt := hTt.ext (hY.up (Nat.le_succ h))
      have hSt := hSt.ext (hY.up (Nat.le_succ h))
      have hr2 := hr2.ext (hY.up (Nat.le_succ h))
      have hO := hO.ext hY
      refine lv_aload_n hx hb dL_act_381 rfl (lv_at hl 5 rfl) ?_
      refine lv_iload hx hb dL_act_382 (lv_at hl 1 rfl) ?_
      refine lv_iload hx hb dL_act_384 (lv_at hl 0 rfl) ?_
      refine sc_cVHi (hh := h) (As := [.int a9, .int b9]) (rest := [.int (16 * min32 (m_leftOf lf a9 b9) (m_leftOf lf b9 a9) + max32 (m_leftOf lf a9 b9) (m_leftOf lf b9 a9))]) F (c_X2_flip l dC dI cI cZ cY h nC C nT T nS S fl a9 b9 (by omega) (s_flp_2 c_133) H134.size) (cwV 2 hts gL_act_X2_flip rfl rfl rfl hd_X2_flip ⟨Nat.le_of_ble_eq_true rfl, Nat.le_of_ble_eq_true rfl⟩) ⟨qc, qt, qs, hO, hC, hTt, hSt, hn1, hn2⟩ hK hS hA hAh (sM.recv hK.1 ⟨qc, qt, qs, hO, hC, hTt, hSt, hn1, hn2⟩) rfl hl.1 rfl (lv_room (Nat.le_of_ble_eq_true rfl)) dL_act_386 ⟨(by first | exact Nat.le_of_ble_eq_true rfl | omega | (dsimp only; omega)), (by first | exact Nat.le_of_ble_eq_true rfl | omega | (dsimp only; omega))⟩ (fun H136 locs137 hf138 hZ hS => ?_)
      have hr2 := hr2.extZ hZ
      have hP := hP.hz9 hD hZ
      obtain ⟨qc140, qt140, qs140, hO, hC, hTt, hSt, hn1, hn2⟩ := hf138
      refine lv_icmp_ne (tgt := 396) hx hb dL_act_389 (by decide) (fun c_141 => ?_) (fun c_141 => ?_)
      · exact absurd (H2 c_133).2.1 c_141
      · refine lv_iconst (v := 1) hx hb dL_act_392 (by decide) ?_
        refine lv_goto (tgt := 397) hx hb dL_act_393 (by decide) ?_
        exact la_zret (S := lX × lS) ((hs, fx + 1, n, (m_list n (m_tE n xs ys lf a9 b9) co).1, xs, ys, m_tE n xs ys lf a9 b9, sy, (m_list n (m_tE n xs ys lf a9 b9) co).2, n2, t2, xs2, ys2, lf2, sy2, co2), (nC, C, (s_flip nT T a9 b9).1, (s_flip nT T a9 b9).2, nS, S, fl + 1)) (b := true) hx hb hr hlocks rfl ⟨rfl, (H2 c_133).2.2⟩ ⟨hP, hD, ⟨qc140, qt140, qs140, hO, hC, hTt, hSt, hn1, hn2⟩⟩ hS (by first | exact Nat.le_of_ble_eq_true rfl | omega | (dsimp only; omega)) (by first | exact Nat.le_of_ble_eq_true rfl | omega | (dsimp only; omega)) dL_act_397
    · refine lv_iconst (v := 1) hx hb dL_act_371 (by decide) ?_
      exact la_zret (S := lX × lS) ((hs, fx, n, t, xs, ys, lf, sy, co, n2, t2, xs2, ys2, lf2, sy2, co2), (nC, C, nT, T, nS, S, fl)) (b := true) hx hb hr hlocks rfl ⟨rfl, hR0⟩ ⟨hP, hD, ⟨qc, qt, qs, hO, hC, hTt, hSt, hn1, hn2⟩⟩ hS (by first | exact Nat.le_of_ble_eq_true rfl | omega | (dsimp only; omega)) (by first | exact Nat.le_of_ble_eq_true rfl | omega | (dsimp only; omega)) dL_act_372
  by_cases c_142 : (nI (l_bel (x >>> (9 &&& 31)) 12)) = 5
  · refine lv_tsw (k := 5) (off := 341) (tgt := 398) hx hb dL_act_57 c_142 (by decide +kernel) (by decide +kernel) (by decide +kernel) (by decide) ?_
    refine lv_iload_n hx hb dL_act_398 rfl (lv_at hl 6 rfl) ?_
    refine lv_iconst (v := 4) hx hb dL_act_399 (by decide) ?_
    refine lv_ishr hx hb dL_act_400 ?_
    refine lv_iconst (v := 3) hx hb dL_act_401 (by decide) ?_
    refine lv_cvi (y := nI 3) (by decide) ?_
    refine sr_cSi (As := [.int (x >>> (4 &&& 31)), .int (nI 3)]) (rest := []) F (c_L_below l dC dI cI cZ cY (x >>> (4 &&& 31)) 3 ⟨by omega, by omega⟩) (va_cwS 2 hts gL_act_L_below rfl rfl rfl hd_L_below.2 ⟨Nat.le_of_ble_eq_true rfl, Nat.le_of_ble_eq_true rfl⟩) trivial hK rfl hl.1 rfl (lv_room (Nat.le_of_ble_eq_true rfl)) dL_act_402 ⟨(by first | exact Nat.le_of_ble_eq_true rfl | omega | (dsimp only; omega)), (by first | exact Nat.le_of_ble_eq_true rfl | omega | (dsimp only; omega))⟩ ?_
    refine lv_cvi (y := nI o9) (by rw [ho9]) ?_
    refine lv_if_le (tgt := 410) hx hb dL_act_405 (by decide) (fun c_143 => ?_) (fun c_143 => ?_)
    · refine lv_aload_n hx hb dL_act_410 rfl (lv_at hl 4 rfl) ?_
      refine lc_wi (As := []) (rest := []) F (c_X1_settle l dC dI cI cZ cY (a 0) (a 1) hs fx (a 2) (a 3) (a 4) (a 5) (a 6) (a 7) n t xs ys lf sy co (a 8) (a 9) (a 10) (a 11) (a 12) (a 13) n2 t2 xs2 ys2 lf2 sy2 co2 s.heap.size (by omega)) (cwV 0 hts gL_act_X1_settle rfl rfl rfl hd_X1_settle ⟨Nat.le_of_ble_eq_true rfl, Nat.le_of_ble_eq_true rfl⟩) rfl hP hK hD hS hB (lW_recv hK.1 hP) rfl hl.1 rfl (lv_room (Nat.le_of_ble_eq_true rfl)) dL_act_411 ⟨(by first | exact Nat.le_of_ble_eq_true rfl | omega | (dsimp only; omega)), (by first | exact Nat.le_of_ble_eq_true rfl | omega | (dsimp only; omega))⟩ (fun H144 locs145 hP hD hY hS => ?_)
      have hP : va_P (dC, dI) vwCl (lW cI a (hs, fx + nI (m_tuN n xs ys sy (t, lf, co)), n, (m_tuS n xs ys sy (t, lf, co) (m_tuN n xs ys sy (t, lf, co))).1, xs, ys, (m_tuS n xs ys sy (t, lf, co) (m_tuN n xs ys sy (t, lf, co))).2.1, sy, (m_tuS n xs ys sy (t, lf, co) (m_tuN n xs ys sy (t, lf, co))).2.2, n2, t2, xs2, ys2, lf2, sy2, co2)) H144 := hP
      have hD : va_D (lB B0 h) (lW cI a (hs, fx + nI (m_tuN n xs ys sy (t, lf, co)), n, (m_tuS n xs ys sy (t, lf, co) (m_tuN n xs ys sy (t, lf, co))).1, xs, ys, (m_tuS n xs ys sy (t, lf, co) (m_tuN n xs ys sy (t, lf, co))).2.1, sy, (m_tuS n xs ys sy (t, lf, co) (m_tuN n xs ys sy (t, lf, co))).2.2, n2, t2, xs2, ys2, lf2, sy2, co2)) := hD
      have hC := hC.ext (hY.up (Nat.le_succ h))
      have hTt := hTt.ext (hY.up (Nat.le_succ h))
      have hSt := hSt.ext (hY.up (Nat.le_succ h))
      have hr2 := hr2.ext (hY.up (Nat.le_succ h))
      have hO := hO.ext hY
      refine lv_aload_n hx hb dL_act_414 rfl (lv_at hl 5 rfl) ?_
      refine sc_cVHi (hh := h) (As := []) (rest := [.int (nI (m_tuN n xs ys sy (t, lf, co)))]) F (c_X2_settle l dC dI cI cZ cY h nC C nT T nS S fl (m_tuN n xs ys sy (t, lf, co)) W1 V1 (by omega) (by omega) H5.1.1 H5.1.2.1 H5.1.2.2.1 H5.1.2.2.2.1 H5.1.2.2.2.2 H144.size) (cwV 0 hts gL_act_X2_settle rfl rfl rfl hd_X2_settle ⟨Nat.le_of_ble_eq_true rfl, Nat.le_of_ble_eq_true rfl⟩) ⟨qc, qt, qs, hO, hC, hTt, hSt, hn1, hn2⟩ hK hS hA hAh (sM.recv hK.1 ⟨qc, qt, qs, hO, hC, hTt, hSt, hn1, hn2⟩) rfl hl.1 rfl (lv_room (Nat.le_of_ble_eq_true rfl)) dL_act_415 ⟨(by first | exact Nat.le_of_ble_eq_true rfl | omega | (dsimp only; omega)), (by first | exact Nat.le_of_ble_eq_true rfl | omega | (dsimp only; omega))⟩ (fun H146 locs147 hf148 hZ hS => ?_)
      have hr2 := hr2.extZ hZ
      have hP := hP.hz9 hD hZ
      obtain ⟨qc150, qt150, qs150, hO, hC, hTt, hSt, hn1, hn2⟩ := hf148
      refine lv_icmp_ne (tgt := 425) hx hb dL_act_418 (by decide) (fun c_151 => ?_) (fun c_151 => ?_)
      · exact absurd rfl c_151
      · refine lv_iconst (v := 1) hx hb dL_act_421 (by decide) ?_
        refine lv_goto (tgt := 426) hx hb dL_act_422 (by decide) ?_
        exact la_zret (S := lX × lS) ((hs, fx + nI (m_tuN n xs ys sy (t, lf, co)), n, (m_tuS n xs ys sy (t, lf, co) (m_tuN n xs ys sy (t, lf, co))).1, xs, ys, (m_tuS n xs ys sy (t, lf, co) (m_tuN n xs ys sy (t, lf, co))).2.1, sy, (m_tuS n xs ys sy (t, lf, co) (m_tuN n xs ys sy (t, lf, co))).2.2, n2, t2, xs2, ys2, lf2, sy2, co2), (nC, C, (s_sq nC C nS S (nT, T) (m_tuN n xs ys sy (t, lf, co))).1, (s_sq nC C nS S (nT, T) (m_tuN n xs ys sy (t, lf, co))).2, nS, S, (fl + nI (m_tuN n xs ys sy (t, lf, co))))) (b := true) hx hb hr hlocks rfl ⟨rfl, H5.2⟩ ⟨hP, hD, ⟨qc150, qt150, qs150, hO, hC, hTt, hSt, hn1, hn2⟩⟩ hS (by first | exact Nat.le_of_ble_eq_true rfl | omega | (dsimp only; omega)) (by first | exact Nat.le_of_ble_eq_true rfl | omega | (dsimp only; omega)) dL_act_426
    · refine lv_iconst (v := 1) hx hb dL_act_408 (by decide) ?_
      exact la_zret (S := lX × lS) ((hs, fx, n, t, xs, ys, lf, sy, co, n2, t2, xs2, ys2, lf2, sy2, co2), (nC, C, nT, T, nS, S, fl)) (b := true) hx hb hr hlocks rfl ⟨rfl, hR0⟩ ⟨hP, hD, ⟨qc, qt, qs, hO, hC, hTt, hSt, hn1, hn2⟩⟩ hS (by first | exact Nat.le_of_ble_eq_true rfl | omega | (dsimp only; omega)) (by first | exact Nat.le_of_ble_eq_true rfl | omega | (dsimp only; omega)) dL_act_409
  refine lv_tableOut (tgt := 427) hx hb dL_act_57 (tsw_out6 c_3 c_28 c_100 c_114 c_128 c_142) (by decide) ?_
  refine lv_iload_n hx hb dL_act_427 rfl (lv_at hl 6 rfl) ?_
  refine lv_bipush (v := 7) hx hb dL_act_428 (by decide) ?_
  refine lv_ishr hx hb dL_act_430 ?_
  refine lv_iconst (v := 2) hx hb dL_act_431 (by decide) ?_
  refine lv_cvi (y := nI 2) (by decide) ?_
  refine sr_cSi (As := [.int (x >>> (7 &&& 31)), .int (nI 2)]) (rest := []) F (c_L_below l dC dI cI cZ cY (x >>> (7 &&& 31)) 2 ⟨by omega, by omega⟩) (va_cwS 2 hts gL_act_L_below rfl rfl rfl hd_L_below.2 ⟨Nat.le_of_ble_eq_true rfl, Nat.le_of_ble_eq_true rfl⟩) trivial hK rfl hl.1 rfl (lv_room (Nat.le_of_ble_eq_true rfl)) dL_act_432 ⟨(by first | exact Nat.le_of_ble_eq_true rfl | omega | (dsimp only; omega)), (by first | exact Nat.le_of_ble_eq_true rfl | omega | (dsimp only; omega))⟩ ?_
  refine lv_if_ne (tgt := 442) hx hb dL_act_435 (by decide) (fun c_152 => ?_) (fun c_152 => ?_)
  · refine lv_iconst (v := 5) hx hb dL_act_442 (by decide) ?_
    refine lv_istore (lv' := [(11, .int 5), (6, .int b9), (5, .int a9), (4, .ref xq1), (3, .int (nI nC)), (0, .ref (a 0)), (1, .ref h), (2, .int x)]) hx hb dL_act_443 hl (by decide) rfl (fun ls hl => ?_)
    refine lv_iload hx hb dL_act_445 (lv_at hl 0 rfl) ?_
    refine lv_iload_n hx hb dL_act_447 rfl (lv_at hl 7 rfl) ?_
    refine lv_iconst (v := 1) hx hb dL_act_448 (by decide) ?_
    refine lv_ishr hx hb dL_act_449 ?_
    refine lv_bipush (v := 30) hx hb dL_act_450 (by decide) ?_
    refine lv_iload hx hb dL_act_452 (lv_at hl 0 rfl) ?_
    refine lv_idiv hx hb dL_act_454 (by decide) ?_
    refine lv_iconst (v := 1) hx hb dL_act_455 (by decide) ?_
    refine lv_iadd hx hb dL_act_456 ?_
    refine lv_cvi (y := nI 7) (by decide) ?_
    refine sr_cSi (As := [.int (x >>> (1 &&& 31)), .int (nI 7)]) (rest := [.int 5]) F (c_L_below l dC dI cI cZ cY (x >>> (1 &&& 31)) 7 ⟨by omega, by omega⟩) (va_cwS 2 hts gL_act_L_below rfl rfl rfl hd_L_below.2 ⟨Nat.le_of_ble_eq_true rfl, Nat.le_of_ble_eq_true rfl⟩) trivial hK rfl hl.1 rfl (lv_room (Nat.le_of_ble_eq_true rfl)) dL_act_457 ⟨(by first | exact Nat.le_of_ble_eq_true rfl | omega | (dsimp only; omega)), (by first | exact Nat.le_of_ble_eq_true rfl | omega | (dsimp only; omega))⟩ ?_
    refine lv_imul hx hb dL_act_460 ?_
    refine lv_cvi (y := px) (by rw [hpx, if_neg c_152]) ?_
    refine lv_istore (lv' := [(12, .int px), (11, .int 5), (6, .int b9), (5, .int a9), (4, .ref xq1), (3, .int (nI nC)), (0, .ref (a 0)), (1, .ref h), (2, .int x)]) hx hb dL_act_461 hl (by decide) rfl (fun ls hl => ?_)
    refine lv_iload hx hb dL_act_463 (lv_at hl 1 rfl) ?_
    refine lv_iload_n hx hb dL_act_465 rfl (lv_at hl 8 rfl) ?_
    refine lv_iconst (v := 5) hx hb dL_act_466 (by decide) ?_
    refine lv_ishr hx hb dL_act_467 ?_
    refine lv_bipush (v := 30) hx hb dL_act_468 (by decide) ?_
    refine lv_iload hx hb dL_act_470 (lv_at hl 1 rfl) ?_
    refine lv_idiv hx hb dL_act_472 (by decide) ?_
    refine lv_iconst (v := 1) hx hb dL_act_473 (by decide) ?_
    refine lv_iadd hx hb dL_act_474 ?_
    refine lv_cvi (y := nI 7) (by decide) ?_
    refine sr_cSi (As := [.int (x >>> (5 &&& 31)), .int (nI 7)]) (rest := [.int 5]) F (c_L_below l dC dI cI cZ cY (x >>> (5 &&& 31)) 7 ⟨by omega, by omega⟩) (va_cwS 2 hts gL_act_L_below rfl rfl rfl hd_L_below.2 ⟨Nat.le_of_ble_eq_true rfl, Nat.le_of_ble_eq_true rfl⟩) trivial hK rfl hl.1 rfl (lv_room (Nat.le_of_ble_eq_true rfl)) dL_act_475 ⟨(by first | exact Nat.le_of_ble_eq_true rfl | omega | (dsimp only; omega)), (by first | exact Nat.le_of_ble_eq_true rfl | omega | (dsimp only; omega))⟩ ?_
    refine lv_imul hx hb dL_act_478 ?_
    refine lv_cvi (y := py) (by rw [hpy, if_neg c_152]) ?_
    refine lv_istore (lv' := [(13, .int py), (12, .int px), (11, .int 5), (6, .int b9), (5, .int a9), (4, .ref xq1), (3, .int (nI nC)), (0, .ref (a 0)), (1, .ref h), (2, .int x)]) hx hb dL_act_479 hl (by decide) rfl (fun ls hl => ?_)
    refine lv_iload_n hx hb dL_act_481 rfl (lv_at hl 6 rfl) ?_
    refine lv_bipush (v := 13) hx hb dL_act_482 (by decide) ?_
    refine lv_icmp_ge (tgt := 498) hx hb dL_act_484 (by decide) (fun c_153 => ?_) (fun c_153 => ?_)
    · refine lv_iconst (v := 1) hx hb dL_act_498 (by decide) ?_
      exact la_zret (S := lX × lS) ((hs, fx, n, t, xs, ys, lf, sy, co, n2, t2, xs2, ys2, lf2, sy2, co2), (nC, C, nT, T, nS, S, fl)) (b := true) hx hb hr hlocks rfl ⟨rfl, hR0⟩ ⟨hP, hD, ⟨qc, qt, qs, hO, hC, hTt, hSt, hn1, hn2⟩⟩ hS (by first | exact Nat.le_of_ble_eq_true rfl | omega | (dsimp only; omega)) (by first | exact Nat.le_of_ble_eq_true rfl | omega | (dsimp only; omega)) dL_act_499
    · refine lv_aload_n hx hb dL_act_487 rfl (lv_at hl 8 rfl) ?_
      refine lv_iload hx hb dL_act_488 (lv_at hl 1 rfl) ?_
      refine lv_iload hx hb dL_act_490 (lv_at hl 0 rfl) ?_
      refine sr_cVi (As := [.int px, .int py]) (rest := []) F (c_X2_cairnAt l dC dI cI cZ cY h nC C nT T nS S fl px py (by omega)) (cwV 2 hts gL_act_X2_cairnAt rfl rfl rfl hd_X2_cairnAt ⟨Nat.le_of_ble_eq_true rfl, Nat.le_of_ble_eq_true rfl⟩) ⟨qc, qt, qs, hO, hC, hTt, hSt, hn1, hn2⟩ hK (sM.recv hK.1 ⟨qc, qt, qs, hO, hC, hTt, hSt, hn1, hn2⟩) rfl hl.1 rfl (lv_room (Nat.le_of_ble_eq_true rfl)) dL_act_492 ⟨(by first | exact Nat.le_of_ble_eq_true rfl | omega | (dsimp only; omega)), (by first | exact Nat.le_of_ble_eq_true rfl | omega | (dsimp only; omega))⟩ ?_
      refine lv_if_lt (tgt := 500) hx hb dL_act_495 (by decide) (fun c_154 => ?_) (fun c_154 => ?_)
      · obtain ⟨hV6, ho6, hf6, he6, hR6⟩ := H6 c_153 c_154
        refine lv_aload_n hx hb dL_act_500 rfl (lv_at hl 8 rfl) ?_
        refine lv_iload hx hb dL_act_501 (lv_at hl 1 rfl) ?_
        refine lv_iload hx hb dL_act_503 (lv_at hl 0 rfl) ?_
        refine lv_iload_n hx hb dL_act_505 rfl (lv_at hl 9 rfl) ?_
        refine lv_iconst (v := 3) hx hb dL_act_506 (by decide) ?_
        refine lv_ishr hx hb dL_act_507 ?_
        refine lv_bipush (v := 100) hx hb dL_act_508 (by decide) ?_
        refine lv_cvi (y := nI 100) (by decide) ?_
        refine sr_cSi (As := [.int (x >>> (3 &&& 31)), .int (nI 100)]) (rest := [.int py, .int px, .ref h]) F (c_L_below l dC dI cI cZ cY (x >>> (3 &&& 31)) 100 ⟨by omega, by omega⟩) (va_cwS 2 hts gL_act_L_below rfl rfl rfl hd_L_below.2 ⟨Nat.le_of_ble_eq_true rfl, Nat.le_of_ble_eq_true rfl⟩) trivial hK rfl hl.1 rfl (lv_room (Nat.le_of_ble_eq_true rfl)) dL_act_510 ⟨(by first | exact Nat.le_of_ble_eq_true rfl | omega | (dsimp only; omega)), (by first | exact Nat.le_of_ble_eq_true rfl | omega | (dsimp only; omega))⟩ ?_
        refine lv_cvi (y := nI z9) (by rw [hz9]) ?_
        refine sc_cVHv (hh := h) (As := [.int px, .int py, .int (nI z9)]) (rest := []) F (c_X2_build l dC dI cI cZ cY h nC C nT T nS S fl px py (nI z9) 60 (by omega) (by omega) (by decide) hV6 hok1 s.heap.size) (cwV 3 hts gL_act_X2_build rfl rfl rfl hd_X2_build ⟨Nat.le_of_ble_eq_true rfl, Nat.le_of_ble_eq_true rfl⟩) ⟨qc, qt, qs, hO, hC, hTt, hSt, hn1, hn2⟩ hK hS hA hAh (sM.recv hK.1 ⟨qc, qt, qs, hO, hC, hTt, hSt, hn1, hn2⟩) rfl hl.1 rfl (lv_room (Nat.le_of_ble_eq_true rfl)) dL_act_513 ⟨(by first | exact Nat.le_of_ble_eq_true rfl | omega | (dsimp only; omega)), (by first | exact Nat.le_of_ble_eq_true rfl | omega | (dsimp only; omega))⟩ (fun H155 locs156 hf157 hZ hS => ?_)
        have hr2 := hr2.extZ hZ
        have hP := hP.hz9 hD hZ
        obtain ⟨qc159, qt159, qs159, hO, hC, hTt, hSt, hn1, hn2⟩ := hf157
        refine lv_aload_n hx hb dL_act_516 rfl (lv_at hl 7 rfl) ?_
        refine lv_iload hx hb dL_act_517 (lv_at hl 1 rfl) ?_
        refine lv_iload hx hb dL_act_519 (lv_at hl 0 rfl) ?_
        refine lv_iload_n hx hb dL_act_521 rfl (lv_at hl 9 rfl) ?_
        refine lv_iconst (v := 3) hx hb dL_act_522 (by decide) ?_
        refine lv_ishr hx hb dL_act_523 ?_
        refine lv_bipush (v := 100) hx hb dL_act_524 (by decide) ?_
        refine lv_cvi (y := nI 100) (by decide) ?_
        refine sr_cSi (As := [.int (x >>> (3 &&& 31)), .int (nI 100)]) (rest := [.int py, .int px, .ref (a 0)]) F (c_L_below l dC dI cI cZ cY (x >>> (3 &&& 31)) 100 ⟨by omega, by omega⟩) (va_cwS 2 hts gL_act_L_below rfl rfl rfl hd_L_below.2 ⟨Nat.le_of_ble_eq_true rfl, Nat.le_of_ble_eq_true rfl⟩) trivial hK rfl hl.1 rfl (lv_room (Nat.le_of_ble_eq_true rfl)) dL_act_526 ⟨(by first | exact Nat.le_of_ble_eq_true rfl | omega | (dsimp only; omega)), (by first | exact Nat.le_of_ble_eq_true rfl | omega | (dsimp only; omega))⟩ ?_
        refine lv_cvi (y := nI z9) (by rw [hz9]) ?_
        refine lc_xi (As := [.int px, .int py, .int (nI z9)]) (rest := []) hX9 F (c_X1_build l hl0 dC dI cI cZ cY (a 0) (a 1) hs fx (a 2) (a 3) (a 4) (a 5) (a 6) (a 7) n t xs ys lf sy co (a 8) (a 9) (a 10) (a 11) (a 12) (a 13) n2 t2 xs2 ys2 lf2 sy2 co2 px py (nI z9) H155.size (by omega) (by omega) hf6) (cwV 3 hts gL_act_X1_build rfl rfl rfl hd_X1_build ⟨Nat.le_of_ble_eq_true rfl, Nat.le_of_ble_eq_true rfl⟩) ho6 rfl hP hK hD hS hB (lW_recv hK.1 hP) rfl hl.1 rfl (lv_room (Nat.le_of_ble_eq_true rfl)) dL_act_529 ⟨(by first | exact Nat.le_of_ble_eq_true rfl | omega | (dsimp only; omega)), (by first | exact Nat.le_of_ble_eq_true rfl | omega | (dsimp only; omega))⟩ (fun H160 locs161 hP hD hY hS => ?_)
        have hP : va_P (dC, dI) vwCl (lW cI a (x_setH hs (nI n) (nI z9), fx, n + 1, (m_list (n + 1) (m_inLf n (m_ac n xs px) (m_ac n ys py) lf (m_corner co (m_find t xs ys co px py) 0) (m_corner co (m_find t xs ys co px py) 1) (m_corner co (m_find t xs ys co px py) 2) px py) co).1, m_ac n xs px, m_ac n ys py, (m_inLf n (m_ac n xs px) (m_ac n ys py) lf (m_corner co (m_find t xs ys co px py) 0) (m_corner co (m_find t xs ys co px py) 1) (m_corner co (m_find t xs ys co px py) 2) px py), (m_inSy n (m_ac n xs px) (m_ac n ys py) sy (m_corner co (m_find t xs ys co px py) 0) (m_corner co (m_find t xs ys co px py) 1) (m_corner co (m_find t xs ys co px py) 2) px py), (m_list (n + 1) (m_inLf n (m_ac n xs px) (m_ac n ys py) lf (m_corner co (m_find t xs ys co px py) 0) (m_corner co (m_find t xs ys co px py) 1) (m_corner co (m_find t xs ys co px py) 2) px py) co).2, n2, t2, xs2, ys2, lf2, sy2, co2)) H160 := hP
        have hD : va_D (lB B0 h) (lW cI a (x_setH hs (nI n) (nI z9), fx, n + 1, (m_list (n + 1) (m_inLf n (m_ac n xs px) (m_ac n ys py) lf (m_corner co (m_find t xs ys co px py) 0) (m_corner co (m_find t xs ys co px py) 1) (m_corner co (m_find t xs ys co px py) 2) px py) co).1, m_ac n xs px, m_ac n ys py, (m_inLf n (m_ac n xs px) (m_ac n ys py) lf (m_corner co (m_find t xs ys co px py) 0) (m_corner co (m_find t xs ys co px py) 1) (m_corner co (m_find t xs ys co px py) 2) px py), (m_inSy n (m_ac n xs px) (m_ac n ys py) sy (m_corner co (m_find t xs ys co px py) 0) (m_corner co (m_find t xs ys co px py) 1) (m_corner co (m_find t xs ys co px py) 2) px py), (m_list (n + 1) (m_inLf n (m_ac n xs px) (m_ac n ys py) lf (m_corner co (m_find t xs ys co px py) 0) (m_corner co (m_find t xs ys co px py) 1) (m_corner co (m_find t xs ys co px py) 2) px py) co).2, n2, t2, xs2, ys2, lf2, sy2, co2)) := hD
        have hr2 := hr2.ext (hY.up (Nat.le_succ h))
        have hC := hC.ext (hY.up (Nat.le_succ h))
        have hTt := hTt.ext (hY.up (Nat.le_succ h))
        have hSt := hSt.ext (hY.up (Nat.le_succ h))
        have hO := hO.ext hY
        refine lv_iload_n hx hb dL_act_532 rfl (lv_at hl 6 rfl) ?_
        refine lv_icmp_ne (tgt := 540) hx hb dL_act_533 (by decide) (fun c_162 => ?_) (fun c_162 => ?_)
        · exact absurd he6 c_162
        · refine lv_iconst (v := 1) hx hb dL_act_536 (by decide) ?_
          refine lv_goto (tgt := 541) hx hb dL_act_537 (by decide) ?_
          exact la_zret (S := lX × lS) ((x_setH hs (nI n) (nI z9), fx, n + 1, (m_list (n + 1) (m_inLf n (m_ac n xs px) (m_ac n ys py) lf (m_corner co (m_find t xs ys co px py) 0) (m_corner co (m_find t xs ys co px py) 1) (m_corner co (m_find t xs ys co px py) 2) px py) co).1, m_ac n xs px, m_ac n ys py, (m_inLf n (m_ac n xs px) (m_ac n ys py) lf (m_corner co (m_find t xs ys co px py) 0) (m_corner co (m_find t xs ys co px py) 1) (m_corner co (m_find t xs ys co px py) 2) px py), (m_inSy n (m_ac n xs px) (m_ac n ys py) sy (m_corner co (m_find t xs ys co px py) 0) (m_corner co (m_find t xs ys co px py) 1) (m_corner co (m_find t xs ys co px py) 2) px py), (m_list (n + 1) (m_inLf n (m_ac n xs px) (m_ac n ys py) lf (m_corner co (m_find t xs ys co px py) 0) (m_corner co (m_find t xs ys co px py) 1) (m_corner co (m_find t xs ys co px py) 2) px py) co).2, n2, t2, xs2, ys2, lf2, sy2, co2), (nC + 1, (s_more C nC (s3 px py (nI z9))), (s_bO (s_more C nC (s3 px py (nI z9))) px py (nI nC) T (nT, T, nS, S) nT).1, (s_bO (s_more C nC (s3 px py (nI z9))) px py (nI nC) T (nT, T, nS, S) nT).2.1, (s_bO (s_more C nC (s3 px py (nI z9))) px py (nI nC) T (nT, T, nS, S) nT).2.2.1, (s_bO (s_more C nC (s3 px py (nI z9))) px py (nI nC) T (nT, T, nS, S) nT).2.2.2, fl)) (b := true) hx hb hr hlocks rfl ⟨rfl, hR6⟩ ⟨hP, hD, ⟨qc159, qt159, qs159, hO, hC, hTt, hSt, hn1, hn2⟩⟩ hS (by first | exact Nat.le_of_ble_eq_true rfl | omega | (dsimp only; omega)) (by first | exact Nat.le_of_ble_eq_true rfl | omega | (dsimp only; omega)) dL_act_541
      · refine lv_iconst (v := 1) hx hb dL_act_498 (by decide) ?_
        exact la_zret (S := lX × lS) ((hs, fx, n, t, xs, ys, lf, sy, co, n2, t2, xs2, ys2, lf2, sy2, co2), (nC, C, nT, T, nS, S, fl)) (b := true) hx hb hr hlocks rfl ⟨rfl, hR0⟩ ⟨hP, hD, ⟨qc, qt, qs, hO, hC, hTt, hSt, hn1, hn2⟩⟩ hS (by first | exact Nat.le_of_ble_eq_true rfl | omega | (dsimp only; omega)) (by first | exact Nat.le_of_ble_eq_true rfl | omega | (dsimp only; omega)) dL_act_499
  · refine lv_iconst (v := 1) hx hb dL_act_438 (by decide) ?_
    refine lv_goto (tgt := 443) hx hb dL_act_439 (by decide) ?_
    refine lv_istore (lv' := [(11, .int 1), (6, .int b9), (5, .int a9), (4, .ref xq1), (3, .int (nI nC)), (0, .ref (a 0)), (1, .ref h), (2, .int x)]) hx hb dL_act_443 hl (by decide) rfl (fun ls hl => ?_)
    refine lv_iload hx hb dL_act_445 (lv_at hl 0 rfl) ?_
    refine lv_iload_n hx hb dL_act_447 rfl (lv_at hl 7 rfl) ?_
    refine lv_iconst (v := 1) hx hb dL_act_448 (by decide) ?_
    refine lv_ishr hx hb dL_act_449 ?_
    refine lv_bipush (v := 30) hx hb dL_act_450 (by decide) ?_
    refine lv_iload hx hb dL_act_452 (lv_at hl 0 rfl) ?_
    refine lv_idiv hx hb dL_act_454 (by decide) ?_
    refine lv_iconst (v := 1) hx hb dL_act_455 (by decide) ?_
    refine lv_iadd hx hb dL_act_456 ?_
    refine lv_cvi (y := nI 31) (by decide) ?_
    refine sr_cSi (As := [.int (x >>> (1 &&& 31)), .int (nI 31)]) (rest := [.int 1]) F (c_L_below l dC dI cI cZ cY (x >>> (1 &&& 31)) 31 ⟨by omega, by omega⟩) (va_cwS 2 hts gL_act_L_below rfl rfl rfl hd_L_below.2 ⟨Nat.le_of_ble_eq_true rfl, Nat.le_of_ble_eq_true rfl⟩) trivial hK rfl hl.1 rfl (lv_room (Nat.le_of_ble_eq_true rfl)) dL_act_457 ⟨(by first | exact Nat.le_of_ble_eq_true rfl | omega | (dsimp only; omega)), (by first | exact Nat.le_of_ble_eq_true rfl | omega | (dsimp only; omega))⟩ ?_
    refine lv_imul hx hb dL_act_460 ?_
    refine lv_cvi (y := px) (by rw [hpx, if_pos c_152]) ?_
    refine lv_istore (lv' := [(12, .int px), (11, .int 1), (6, .int b9), (5, .int a9), (4, .ref xq1), (3, .int (nI nC)), (0, .ref (a 0)), (1, .ref h), (2, .int x)]) hx hb dL_act_461 hl (by decide) rfl (fun ls hl => ?_)
    refine lv_iload hx hb dL_act_463 (lv_at hl 1 rfl) ?_
    refine lv_iload_n hx hb dL_act_465 rfl (lv_at hl 8 rfl) ?_
    refine lv_iconst (v := 5) hx hb dL_act_466 (by decide) ?_
    refine lv_ishr hx hb dL_act_467 ?_
    refine lv_bipush (v := 30) hx hb dL_act_468 (by decide) ?_
    refine lv_iload hx hb dL_act_470 (lv_at hl 1 rfl) ?_
    refine lv_idiv hx hb dL_act_472 (by decide) ?_
    refine lv_iconst (v := 1) hx hb dL_act_473 (by decide) ?_
    refine lv_iadd hx hb dL_act_474 ?_
    refine lv_cvi (y := nI 31) (by decide) ?_
    refine sr_cSi (As := [.int (x >>> (5 &&& 31)), .int (nI 31)]) (rest := [.int 1]) F (c_L_below l dC dI cI cZ cY (x >>> (5 &&& 31)) 31 ⟨by omega, by omega⟩) (va_cwS 2 hts gL_act_L_below rfl rfl rfl hd_L_below.2 ⟨Nat.le_of_ble_eq_true rfl, Nat.le_of_ble_eq_true rfl⟩) trivial hK rfl hl.1 rfl (lv_room (Nat.le_of_ble_eq_true rfl)) dL_act_475 ⟨(by first | exact Nat.le_of_ble_eq_true rfl | omega | (dsimp only; omega)), (by first | exact Nat.le_of_ble_eq_true rfl | omega | (dsimp only; omega))⟩ ?_
    refine lv_imul hx hb dL_act_478 ?_
    refine lv_cvi (y := py) (by rw [hpy, if_pos c_152]) ?_
    refine lv_istore (lv' := [(13, .int py), (12, .int px), (11, .int 1), (6, .int b9), (5, .int a9), (4, .ref xq1), (3, .int (nI nC)), (0, .ref (a 0)), (1, .ref h), (2, .int x)]) hx hb dL_act_479 hl (by decide) rfl (fun ls hl => ?_)
    refine lv_iload_n hx hb dL_act_481 rfl (lv_at hl 6 rfl) ?_
    refine lv_bipush (v := 13) hx hb dL_act_482 (by decide) ?_
    refine lv_icmp_ge (tgt := 498) hx hb dL_act_484 (by decide) (fun c_163 => ?_) (fun c_163 => ?_)
    · refine lv_iconst (v := 1) hx hb dL_act_498 (by decide) ?_
      exact la_zret (S := lX × lS) ((hs, fx, n, t, xs, ys, lf, sy, co, n2, t2, xs2, ys2, lf2, sy2, co2), (nC, C, nT, T, nS, S, fl)) (b := true) hx hb hr hlocks rfl ⟨rfl, hR0⟩ ⟨hP, hD, ⟨qc, qt, qs, hO, hC, hTt, hSt, hn1, hn2⟩⟩ hS (by first | exact Nat.le_of_ble_eq_true rfl | omega | (dsimp only; omega)) (by first | exact Nat.le_of_ble_eq_true rfl | omega | (dsimp only; omega)) dL_act_499
    · refine lv_aload_n hx hb dL_act_487 rfl (lv_at hl 8 rfl) ?_
      refine lv_iload hx hb dL_act_488 (lv_at hl 1 rfl) ?_
      refine lv_iload hx hb dL_act_490 (lv_at hl 0 rfl) ?_
      refine sr_cVi (As := [.int px, .int py]) (rest := []) F (c_X2_cairnAt l dC dI cI cZ cY h nC C nT T nS S fl px py (by omega)) (cwV 2 hts gL_act_X2_cairnAt rfl rfl rfl hd_X2_cairnAt ⟨Nat.le_of_ble_eq_true rfl, Nat.le_of_ble_eq_true rfl⟩) ⟨qc, qt, qs, hO, hC, hTt, hSt, hn1, hn2⟩ hK (sM.recv hK.1 ⟨qc, qt, qs, hO, hC, hTt, hSt, hn1, hn2⟩) rfl hl.1 rfl (lv_room (Nat.le_of_ble_eq_true rfl)) dL_act_492 ⟨(by first | exact Nat.le_of_ble_eq_true rfl | omega | (dsimp only; omega)), (by first | exact Nat.le_of_ble_eq_true rfl | omega | (dsimp only; omega))⟩ ?_
      refine lv_if_lt (tgt := 500) hx hb dL_act_495 (by decide) (fun c_164 => ?_) (fun c_164 => ?_)
      · obtain ⟨hV6, ho6, hf6, he6, hR6⟩ := H6 c_163 c_164
        refine lv_aload_n hx hb dL_act_500 rfl (lv_at hl 8 rfl) ?_
        refine lv_iload hx hb dL_act_501 (lv_at hl 1 rfl) ?_
        refine lv_iload hx hb dL_act_503 (lv_at hl 0 rfl) ?_
        refine lv_iload_n hx hb dL_act_505 rfl (lv_at hl 9 rfl) ?_
        refine lv_iconst (v := 3) hx hb dL_act_506 (by decide) ?_
        refine lv_ishr hx hb dL_act_507 ?_
        refine lv_bipush (v := 100) hx hb dL_act_508 (by decide) ?_
        refine lv_cvi (y := nI 100) (by decide) ?_
        refine sr_cSi (As := [.int (x >>> (3 &&& 31)), .int (nI 100)]) (rest := [.int py, .int px, .ref h]) F (c_L_below l dC dI cI cZ cY (x >>> (3 &&& 31)) 100 ⟨by omega, by omega⟩) (va_cwS 2 hts gL_act_L_below rfl rfl rfl hd_L_below.2 ⟨Nat.le_of_ble_eq_true rfl, Nat.le_of_ble_eq_true rfl⟩) trivial hK rfl hl.1 rfl (lv_room (Nat.le_of_ble_eq_true rfl)) dL_act_510 ⟨(by first | exact Nat.le_of_ble_eq_true rfl | omega | (dsimp only; omega)), (by first | exact Nat.le_of_ble_eq_true rfl | omega | (dsimp only; omega))⟩ ?_
        refine lv_cvi (y := nI z9) (by rw [hz9]) ?_
        refine sc_cVHv (hh := h) (As := [.int px, .int py, .int (nI z9)]) (rest := []) F (c_X2_build l dC dI cI cZ cY h nC C nT T nS S fl px py (nI z9) 60 (by omega) (by omega) (by decide) hV6 hok1 s.heap.size) (cwV 3 hts gL_act_X2_build rfl rfl rfl hd_X2_build ⟨Nat.le_of_ble_eq_true rfl, Nat.le_of_ble_eq_true rfl⟩) ⟨qc, qt, qs, hO, hC, hTt, hSt, hn1, hn2⟩ hK hS hA hAh (sM.recv hK.1 ⟨qc, qt, qs, hO, hC, hTt, hSt, hn1, hn2⟩) rfl hl.1 rfl (lv_room (Nat.le_of_ble_eq_true rfl)) dL_act_513 ⟨(by first | exact Nat.le_of_ble_eq_true rfl | omega | (dsimp only; omega)), (by first | exact Nat.le_of_ble_eq_true rfl | omega | (dsimp only; omega))⟩ (fun H165 locs166 hf167 hZ hS => ?_)
        have hr2 := hr2.extZ hZ
        have hP := hP.hz9 hD hZ
        obtain ⟨qc169, qt169, qs169, hO, hC, hTt, hSt, hn1, hn2⟩ := hf167
        refine lv_aload_n hx hb dL_act_516 rfl (lv_at hl 7 rfl) ?_
        refine lv_iload hx hb dL_act_517 (lv_at hl 1 rfl) ?_
        refine lv_iload hx hb dL_act_519 (lv_at hl 0 rfl) ?_
        refine lv_iload_n hx hb dL_act_521 rfl (lv_at hl 9 rfl) ?_
        refine lv_iconst (v := 3) hx hb dL_act_522 (by decide) ?_
        refine lv_ishr hx hb dL_act_523 ?_
        refine lv_bipush (v := 100) hx hb dL_act_524 (by decide) ?_
        refine lv_cvi (y := nI 100) (by decide) ?_
        refine sr_cSi (As := [.int (x >>> (3 &&& 31)), .int (nI 100)]) (rest := [.int py, .int px, .ref (a 0)]) F (c_L_below l dC dI cI cZ cY (x >>> (3 &&& 31)) 100 ⟨by omega, by omega⟩) (va_cwS 2 hts gL_act_L_below rfl rfl rfl hd_L_below.2 ⟨Nat.le_of_ble_eq_true rfl, Nat.le_of_ble_eq_true rfl⟩) trivial hK rfl hl.1 rfl (lv_room (Nat.le_of_ble_eq_true rfl)) dL_act_526 ⟨(by first | exact Nat.le_of_ble_eq_true rfl | omega | (dsimp only; omega)), (by first | exact Nat.le_of_ble_eq_true rfl | omega | (dsimp only; omega))⟩ ?_
        refine lv_cvi (y := nI z9) (by rw [hz9]) ?_
        refine lc_xi (As := [.int px, .int py, .int (nI z9)]) (rest := []) hX9 F (c_X1_build l hl0 dC dI cI cZ cY (a 0) (a 1) hs fx (a 2) (a 3) (a 4) (a 5) (a 6) (a 7) n t xs ys lf sy co (a 8) (a 9) (a 10) (a 11) (a 12) (a 13) n2 t2 xs2 ys2 lf2 sy2 co2 px py (nI z9) H165.size (by omega) (by omega) hf6) (cwV 3 hts gL_act_X1_build rfl rfl rfl hd_X1_build ⟨Nat.le_of_ble_eq_true rfl, Nat.le_of_ble_eq_true rfl⟩) ho6 rfl hP hK hD hS hB (lW_recv hK.1 hP) rfl hl.1 rfl (lv_room (Nat.le_of_ble_eq_true rfl)) dL_act_529 ⟨(by first | exact Nat.le_of_ble_eq_true rfl | omega | (dsimp only; omega)), (by first | exact Nat.le_of_ble_eq_true rfl | omega | (dsimp only; omega))⟩ (fun H170 locs171 hP hD hY hS => ?_)
        have hP : va_P (dC, dI) vwCl (lW cI a (x_setH hs (nI n) (nI z9), fx, n + 1, (m_list (n + 1) (m_inLf n (m_ac n xs px) (m_ac n ys py) lf (m_corner co (m_find t xs ys co px py) 0) (m_corner co (m_find t xs ys co px py) 1) (m_corner co (m_find t xs ys co px py) 2) px py) co).1, m_ac n xs px, m_ac n ys py, (m_inLf n (m_ac n xs px) (m_ac n ys py) lf (m_corner co (m_find t xs ys co px py) 0) (m_corner co (m_find t xs ys co px py) 1) (m_corner co (m_find t xs ys co px py) 2) px py), (m_inSy n (m_ac n xs px) (m_ac n ys py) sy (m_corner co (m_find t xs ys co px py) 0) (m_corner co (m_find t xs ys co px py) 1) (m_corner co (m_find t xs ys co px py) 2) px py), (m_list (n + 1) (m_inLf n (m_ac n xs px) (m_ac n ys py) lf (m_corner co (m_find t xs ys co px py) 0) (m_corner co (m_find t xs ys co px py) 1) (m_corner co (m_find t xs ys co px py) 2) px py) co).2, n2, t2, xs2, ys2, lf2, sy2, co2)) H170 := hP
        have hD : va_D (lB B0 h) (lW cI a (x_setH hs (nI n) (nI z9), fx, n + 1, (m_list (n + 1) (m_inLf n (m_ac n xs px) (m_ac n ys py) lf (m_corner co (m_find t xs ys co px py) 0) (m_corner co (m_find t xs ys co px py) 1) (m_corner co (m_find t xs ys co px py) 2) px py) co).1, m_ac n xs px, m_ac n ys py, (m_inLf n (m_ac n xs px) (m_ac n ys py) lf (m_corner co (m_find t xs ys co px py) 0) (m_corner co (m_find t xs ys co px py) 1) (m_corner co (m_find t xs ys co px py) 2) px py), (m_inSy n (m_ac n xs px) (m_ac n ys py) sy (m_corner co (m_find t xs ys co px py) 0) (m_corner co (m_find t xs ys co px py) 1) (m_corner co (m_find t xs ys co px py) 2) px py), (m_list (n + 1) (m_inLf n (m_ac n xs px) (m_ac n ys py) lf (m_corner co (m_find t xs ys co px py) 0) (m_corner co (m_find t xs ys co px py) 1) (m_corner co (m_find t xs ys co px py) 2) px py) co).2, n2, t2, xs2, ys2, lf2, sy2, co2)) := hD
        have hr2 := hr2.ext (hY.up (Nat.le_succ h))
        have hC := hC.ext (hY.up (Nat.le_succ h))
        have hTt := hTt.ext (hY.up (Nat.le_succ h))
        have hSt := hSt.ext (hY.up (Nat.le_succ h))
        have hO := hO.ext hY
        refine lv_iload_n hx hb dL_act_532 rfl (lv_at hl 6 rfl) ?_
        refine lv_icmp_ne (tgt := 540) hx hb dL_act_533 (by decide) (fun c_172 => ?_) (fun c_172 => ?_)
        · exact absurd he6 c_172
        · refine lv_iconst (v := 1) hx hb dL_act_536 (by decide) ?_
          refine lv_goto (tgt := 541) hx hb dL_act_537 (by decide) ?_
          exact la_zret (S := lX × lS) ((x_setH hs (nI n) (nI z9), fx, n + 1, (m_list (n + 1) (m_inLf n (m_ac n xs px) (m_ac n ys py) lf (m_corner co (m_find t xs ys co px py) 0) (m_corner co (m_find t xs ys co px py) 1) (m_corner co (m_find t xs ys co px py) 2) px py) co).1, m_ac n xs px, m_ac n ys py, (m_inLf n (m_ac n xs px) (m_ac n ys py) lf (m_corner co (m_find t xs ys co px py) 0) (m_corner co (m_find t xs ys co px py) 1) (m_corner co (m_find t xs ys co px py) 2) px py), (m_inSy n (m_ac n xs px) (m_ac n ys py) sy (m_corner co (m_find t xs ys co px py) 0) (m_corner co (m_find t xs ys co px py) 1) (m_corner co (m_find t xs ys co px py) 2) px py), (m_list (n + 1) (m_inLf n (m_ac n xs px) (m_ac n ys py) lf (m_corner co (m_find t xs ys co px py) 0) (m_corner co (m_find t xs ys co px py) 1) (m_corner co (m_find t xs ys co px py) 2) px py) co).2, n2, t2, xs2, ys2, lf2, sy2, co2), (nC + 1, (s_more C nC (s3 px py (nI z9))), (s_bO (s_more C nC (s3 px py (nI z9))) px py (nI nC) T (nT, T, nS, S) nT).1, (s_bO (s_more C nC (s3 px py (nI z9))) px py (nI nC) T (nT, T, nS, S) nT).2.1, (s_bO (s_more C nC (s3 px py (nI z9))) px py (nI nC) T (nT, T, nS, S) nT).2.2.1, (s_bO (s_more C nC (s3 px py (nI z9))) px py (nI nC) T (nT, T, nS, S) nT).2.2.2, fl)) (b := true) hx hb hr hlocks rfl ⟨rfl, hR6⟩ ⟨hP, hD, ⟨qc169, qt169, qs169, hO, hC, hTt, hSt, hn1, hn2⟩⟩ hS (by first | exact Nat.le_of_ble_eq_true rfl | omega | (dsimp only; omega)) (by first | exact Nat.le_of_ble_eq_true rfl | omega | (dsimp only; omega)) dL_act_541
      · refine lv_iconst (v := 1) hx hb dL_act_498 (by decide) ?_
        exact la_zret (S := lX × lS) ((hs, fx, n, t, xs, ys, lf, sy, co, n2, t2, xs2, ys2, lf2, sy2, co2), (nC, C, nT, T, nS, S, fl)) (b := true) hx hb hr hlocks rfl ⟨rfl, hR0⟩ ⟨hP, hD, ⟨qc, qt, qs, hO, hC, hTt, hSt, hn1, hn2⟩⟩ hS (by first | exact Nat.le_of_ble_eq_true rfl | omega | (dsimp only; omega)) (by first | exact Nat.le_of_ble_eq_true rfl | omega | (dsimp only; omega)) dL_act_499
