/-! what the law asks behind act, for i % 3 = 1 and 2 -/
section LW
variable {m n t : Nat} {hs xs ys lf sy co : Nat → Int32} {C T S : Nat → Nat → Int32} {nS : Nat} {P : Nat → g_P} {L : Nat → Nat → Option Nat} {St : Nat → Nat → Bool} {f z : Nat → Nat}
theorem cn2 (fl : Int32) : x_cntOf n t xs ys lf sy fl 2 = m_edgesThat n xs ys lf sy 0 := by
  unfold x_cntOf
  rw [if_neg (by decide), if_neg (by decide), if_pos rfl]
theorem cn3 (fl : Int32) : x_cntOf n t xs ys lf sy fl 3 = m_edgesThat n xs ys lf sy 1 := by
  unfold x_cntOf
  rw [if_neg (by decide), if_neg (by decide), if_neg (by decide), if_pos rfl]
theorem cn4 (fl : Int32) : x_cntOf n t xs ys lf sy fl 4 = m_edgesThat n xs ys lf sy 2 := by
  unfold x_cntOf
  rw [if_neg (by decide), if_neg (by decide), if_neg (by decide), if_neg (by decide), if_pos rfl]
theorem cn5 (fl : Int32) : x_cntOf n t xs ys lf sy fl 5 = m_edgesThat n xs ys lf sy 3 := by
  unfold x_cntOf
  rw [if_neg (by decide), if_neg (by decide), if_neg (by decide), if_neg (by decide), if_neg (by decide), if_pos rfl]
theorem cn1 (fl : Int32) : x_cntOf n t xs ys lf sy fl 1 = nI t := by
  unfold x_cntOf
  rw [if_neg (by decide), if_pos rfl]
theorem cn6 (fl : Int32) : x_cntOf n t xs ys lf sy fl 6 = fl := by
  unfold x_cntOf
  rw [if_neg (by decide), if_neg (by decide), if_neg (by decide), if_neg (by decide), if_neg (by decide), if_neg (by decide)]
theorem lT_euler (h : lT m hs n t xs ys lf sy co C T nS S P L St f z) (fx : Int32) : x_cntOf n t xs ys lf sy fx 2 + 1 = nI n + x_cntOf n t xs ys lf sy fx 1 ∧ 2 * x_cntOf n t xs ys lf sy fx 2 = 3 * x_cntOf n t xs ys lf sy fx 1 + x_cntOf n t xs ys lf sy fx 3 := by
  obtain ⟨hA, hM, hE, hC, h2, hz, hL, hnm, ht, hu⟩ := h
  have u1 := hu.1
  have u2 := hu.2
  rw [cn1, cn2, cn3, edges0 hA hM, edges1 hA hM]
  constructor
  · rw [show (1 : Int32) = nI 1 from rfl, nI_add, nI_add, u1]
  · rw [show (2 : Int32) = nI 2 from rfl, show (3 : Int32) = nI 3 from rfl, pk_mul, pk_mul, nI_add, u2]
theorem fF_no {P : Nat → g_P} {L : Nat → Nat → Option Nat} {St : Nat → Nat → Bool} {n : Nat} (h : fF P L St n = none) {i j : Nat} (hi : i < n) (hj : j < n) : fU P L St i j = false := by
  cases e : fU P L St i j with
  | false => rfl
  | true =>
    exfalso
    obtain ⟨b, e2, -⟩ := rg_fst_ex ⟨j, hj, e⟩
    have e3 : fA P L St n i = true := by unfold fA; rw [e2]; rfl
    obtain ⟨a, e4, ha, e5, -⟩ := rg_fst_ex ⟨i, hi, e3⟩
    unfold fF at h
    rw [e4] at h
    replace h : (match rg_fst (fU P L St a) n with | some b => some (a, b) | none => none) = none := h
    unfold fA at e5
    cases e6 : rg_fst (fU P L St a) n with
    | none => rw [e6] at e5; cases e5
    | some c => rw [e6] at h; cases h
theorem settled_fair (h : ti_A n t P L St f) (hF : fF P L St n = none) {i j : Nat} (hi : i < n) (hj : j < n) (hu : uB P L i j = true) : St i j = true := by
  have key : ∀ i j, i < n → j < n → i < j → uB P L i j = true → St i j = true := fun i j hi hj hij hu => by
    have := fF_no hF hi hj
    unfold fU at this
    rw [if_neg (by omega), hu] at this
    simpa using this
  rcases Nat.lt_trichotomy i j with w | w | w
  · exact key i j hi hj w hu
  · subst w
    have := uB_eB hu
    unfold eB at this
    rw [h.irr i] at this
    cases this
  · rw [h.sym]; exact key j i hj hi w (by rw [uB_swap h]; exact hu)
theorem bI_1 {b : Bool} (h : bI b = 1) : b = true := by
  cases b
  · exact absurd h (by decide)
  · rfl
end LW
set_option maxHeartbeats 1000000 in
theorem lR_b1 (u : lX) (v : lS) (x : Int32) (h : lR 15 u v) : q_b1 (lR 15) 20444 47664 u v x := by
  obtain ⟨hs, fx, n, t, xs, ys, lf, sy, co, n2, t2, xs2, ys2, lf2, sy2, co2⟩ := u
  obtain ⟨nC, C, nT, T, nS, S, fl⟩ := v
  have hR := h
  obtain ⟨e1, e2, e3, P, L, St, f, z, hT⟩ := h
  subst e1 e2 e3
  obtain ⟨b1, b2, b3, b4, b5⟩ := lT_bd hT (Nat.le_refl 15)
  obtain ⟨W1, V1, mW, mV, s2, s3', s4, L', f', s5, s6⟩ := lT_settle hT fin15
  have hn := hT.1.n17
  unfold q_b1
  refine ⟨_, _, W1, V1, ⟨by omega, by omega⟩, ⟨by omega, by omega⟩, by omega, ⟨by omega, by omega⟩, by omega, lT_okF hT, lT_okR hT, hR, rfl, rfl, lT_euler hT fx, mW, mV, ⟨s2, rfl, ?_, rfl, P, L', St, f', z, ?_⟩, ?_, ?_, fun i j hi hj => ⟨okEd_t hn hi hj (w := 3) (by decide), okEd_t hn hi hj (w := 2) (by decide), fun hu hs0 => ?_⟩⟩
  · rw [s3', s4]
  · rw [s3']; exact s5
  · rw [cn6, cn6]
  · rw [cn4, cn4, edges2 s5.1 s5.2.1, edges2 hT.1 hT.2.1]
  · obtain ⟨-, -, q2, q3, -⟩ := eThat s5.1 s5.2.1 hi hj
    have hu' : bI (m_isEdgeThat n xs ys (m_tuS n xs ys sy (t, lf, co) (m_tuN n xs ys sy (t, lf, co))).2.1 sy 3 (nI i) (nI j)) = 1 := hu
    have hs' : bI (m_isEdgeThat n xs ys (m_tuS n xs ys sy (t, lf, co) (m_tuN n xs ys sy (t, lf, co))).2.1 sy 2 (nI i) (nI j)) = 0 := hs0
    rw [q3] at hu'
    rw [q2, settled_fair s5.1 s6 hi hj (bI_1 hu')] at hs'
    exact absurd hs' (by decide)
theorem flip_swap {n : Nat} {P : Nat → g_P} {L : Nat → Nat → Option Nat} (h : tr_Ok n P L) {a b c d : Nat} (q : tr_Quad n P L a b c d) : tr_flip L b a d c = tr_flip L a b c d := by
  obtain ⟨e1, e2, g1, g2⟩ := id q
  have q' : tr_Quad n P L b a d c := ⟨e2, e1, by have := gO_swap (P c) (P d) (P b); omega, by have := gO_swap (P c) (P d) (P a); omega⟩
  obtain ⟨z1, z2⟩ := tr_noedge h.pos h.tri h.un q
  have i1 := tr_flip_iff h.tri q z1 z2
  have i2 := tr_flip_iff h.tri q' z2 z1
  funext x y
  have : ∀ w, tr_flip L b a d c x y = some w ↔ tr_flip L a b c d x y = some w := fun w => by
    rw [i1, i2]
    constructor
    · rintro ((r | r) | ⟨r, r2⟩)
      · exact Or.inl (Or.inr r)
      · exact Or.inl (Or.inl r)
      · exact Or.inr ⟨r, fun y => r2 y.symm⟩
    · rintro ((r | r) | ⟨r, r2⟩)
      · exact Or.inl (Or.inr r)
      · exact Or.inl (Or.inl r)
      · exact Or.inr ⟨r, fun y => r2 y.symm⟩
  cases e : tr_flip L a b c d x y with
  | some w => exact (this w).mpr e
  | none =>
    cases e2 : tr_flip L b a d c x y with
    | none => rfl
    | some w => have := (this w).mp e2; rw [e] at this; cases this
section FL
variable {m n t : Nat} {hs xs ys lf sy co : Nat → Int32} {C T S : Nat → Nat → Int32} {nS : Nat} {P : Nat → g_P} {L : Nat → Nat → Option Nat} {St : Nat → Nat → Bool} {f z : Nat → Nat}
/-- the new edge of a flip, and the old one -/
theorem flip_new (h : ti_A n t P L St f) {a b c d : Nat} (q : tr_Quad n P L a b c d) : eB (tr_flip L a b c d) a b = false ∧ eB (tr_flip L a b c d) c d = true ∧ St c d = false ∧ (uB P L a b = true → uB P (tr_flip L a b c d) c d = false) := by
  obtain ⟨z1, z2⟩ := tr_noedge h.ok.pos h.ok.tri h.ok.un q
  have hL := tr_flip_iff h.ok.tri q z1 z2
  obtain ⟨e1, e2, g1, g2⟩ := id q
  have f5 : tr_flip L a b c d d c = some a := (hL _ _ _).mpr (Or.inl (Or.inl (Or.inl ⟨rfl, rfl, rfl⟩)))
  have f6 : tr_flip L a b c d c d = some b := (hL _ _ _).mpr (Or.inl (Or.inr (Or.inl ⟨rfl, rfl, rfl⟩)))
  have fs := flip_some h.ok q
  refine ⟨?_, ?_, ?_, fun hu => ?_⟩
  · unfold eB
    rw [fs, fs, if_pos (Or.inl ⟨rfl, rfl⟩), if_pos (Or.inr ⟨rfl, rfl⟩)]; rfl
  · unfold eB
    rw [f6]; rfl
  · cases e : St c d with
    | false => rfl
    | true =>
      have := (h.stlt e).2.2.2
      unfold eB at this
      rw [z1, z2] at this
      cases this
  · unfold uB at hu ⊢
    rw [e1, e2] at hu
    rw [f5, f6]
    have hu' := of_decide_eq_true hu
    have e : gD (P c) (P d) (P b) (P a) = - gD (P a) (P b) (P c) (P d) := by unfold gD gO; grind
    exact decide_eq_false (by rw [e]; omega)
end FL
set_option maxHeartbeats 1000000 in
theorem lR_b2 (u : lX) (v : lS) (x : Int32) (h : lR 15 u v) : q_b2 (lR 15) u v x := by
  obtain ⟨hs, fx, n, t, xs, ys, lf, sy, co, n2, t2, xs2, ys2, lf2, sy2, co2⟩ := u
  obtain ⟨nC, C, nT, T, nS, S, fl⟩ := v
  have hR := h
  obtain ⟨e1, e2, e3, P, L, St, f, z, hT⟩ := h
  subst e1 e2 e3
  obtain ⟨b1, b2, b3, b4, b5⟩ := lT_bd hT (Nat.le_refl 15)
  have hn := hT.1.n17
  obtain ⟨ka, eka⟩ : ∃ k, k = l_bel x n := ⟨_, rfl⟩
  obtain ⟨kb, ekb⟩ : ∃ k, k = l_bel (x >>> (5 &&& 31)) n := ⟨_, rfl⟩
  have hka : ka < n := by rw [eka]; exact l_bel_lt (by omega)
  have hkb : kb < n := by rw [ekb]; exact l_bel_lt (by omega)
  unfold q_b2
  refine ⟨_, _, ka, kb, ⟨by omega, by omega⟩, ⟨by omega, by omega⟩, by omega, ⟨by omega, by omega⟩, by omega, lT_okF hT, lT_okR hT, hR, rfl, rfl, lT_euler hT fx, eka, ekb, okEd_t hn hka hkb (w := 4) (by decide), okEd_t hn hka hkb (w := 3) (by decide), fun h4 => ?_⟩
  obtain ⟨-, -, -, q3, q4⟩ := eThat hT.1 hT.2.1 hka hkb
  have h4' : bI (m_isEdgeThat n xs ys lf sy 4 (nI ka) (nI kb)) = 1 := h4
  rw [q4] at h4'
  have tb := bI_1 h4'
  have tb' : tB P L St kb ka = true := by rw [tB_swap hT.1]; exact tb
  obtain ⟨c, d, f1, hc, hd, l1, l2, hq, w1, w2, w3, w4, w5, w6, w7⟩ := lT_flip hT hka hkb tb
  obtain ⟨d', c', f2, hd', hc', l1', l2', hq', -, -, w3', w4', w5', -, w7'⟩ := lT_flip hT hkb hka tb'
  rw [l2] at l1'
  rw [l1] at l2'
  cases l1'
  cases l2'
  rw [flip_swap hT.1.ok hq] at w7'
  have hT9 : lT 15 hs n t xs ys (m_tE n xs ys lf (nI kb) (nI ka)) sy (m_list n (m_tE n xs ys lf (nI kb) (nI ka)) co).2 C (s_flip t T (nI ka) (nI kb)).2 nS S P (tr_flip L ka kb c d) St f2 z := ⟨w7'.1, w7'.2.1, w7.2.2.1, w7.2.2.2⟩
  have e16 : s_edge t T (nI ka) (nI kb) / 16 = nI (min c d) := by
    rw [w3, show (16 : Int32) = nI 16 from rfl, pk_div (by omega) (by decide) (by decide)]
    congr 1
    omega
  have e17 : s_edge t T (nI ka) (nI kb) - s_edge t T (nI ka) (nI kb) / 16 * 16 = nI (max c d) := by
    rw [e16, w3, show (16 : Int32) = nI 16 from rfl, pk_mul, pk_sub (by omega)]
    congr 1
    omega
  obtain ⟨n0, n1, n2', n3⟩ := flip_new hT.1 hq
  obtain ⟨a0, -⟩ := eThat hT9.1 hT9.2.1 hka hkb
  have hmin : min c d < n := by omega
  have hmax : max c d < n := by omega
  obtain ⟨m0, -, m2, m3, -⟩ := eThat hT9.1 hT9.2.1 hmin hmax
  have sw : ∀ p : Nat → Nat → Bool, (∀ a b, p a b = p b a) → p (min c d) (max c d) = p c d := fun p hp => by
    rcases Nat.le_total c d with w | w
    · rw [show min c d = c by omega, show max c d = d by omega]
    · rw [show min c d = d by omega, show max c d = c by omega, hp]
  rw [sw _ (eB_swap _)] at m0
  rw [sw _ hT.1.sym] at m2
  rw [sw _ (uB_swap hT9.1)] at m3
  rw [e17, e16]
  refine ⟨w1, okFl_t hT hkb hka tb', ?_, ⟨okEd_t hn hka hkb (w := 0) (by decide), ?_⟩, ⟨okEd_t hn hmin hmax (w := 0) (by decide), ?_⟩, ⟨okEd_t hn hmin hmax (w := 2) (by decide), ?_⟩, okEd_t hn hmin hmax (w := 3) (by decide), ?_, fun hu hv => ?_, rfl, ?_, rfl, P, tr_flip L ka kb c d, St, f2, z, ?_⟩
  · rw [w4', w3, Nat.min_comm, Nat.max_comm]
  · show bI (m_isEdgeThat n xs ys (m_tE n xs ys lf (nI kb) (nI ka)) sy 0 (nI ka) (nI kb)) = 0
    rw [a0, n0]; rfl
  · show bI (m_isEdgeThat n xs ys (m_tE n xs ys lf (nI kb) (nI ka)) sy 0 (nI (min c d)) (nI (max c d))) = 1
    rw [m0, n1]; rfl
  · show bI (m_isEdgeThat n xs ys (m_tE n xs ys lf (nI kb) (nI ka)) sy 2 (nI (min c d)) (nI (max c d))) = 0
    rw [m2, n2']; rfl
  · rw [cn2, cn2, edges0 hT9.1 hT9.2.1, edges0 hT.1 hT.2.1]
    have u1 := hT.2.2.2.2.2.2.2.2.2.1
    have u2 := hT9.2.2.2.2.2.2.2.2.2.1
    congr 1
    omega
  · have hu' : bI (m_isEdgeThat n xs ys lf sy 3 (nI ka) (nI kb)) = 1 := hu
    have hv' : bI (m_isEdgeThat n xs ys (m_tE n xs ys lf (nI kb) (nI ka)) sy 3 (nI (min c d)) (nI (max c d))) = 1 := hv
    rw [q3] at hu'
    rw [m3, n3 (bI_1 hu')] at hv'
    exact absurd hv' (by decide)
  · rw [w5', w6]
  · rw [w5']; exact hT9
