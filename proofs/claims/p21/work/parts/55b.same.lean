/-! both tell the same -/
section SM
variable {m n t : Nat} {hs xs ys lf sy co : Nat → Int32} {C T S : Nat → Nat → Int32} {nS : Nat} {P : Nat → g_P} {L : Nat → Nat → Option Nat} {St : Nat → Nat → Bool} {f z : Nat → Nat}
theorem same_e (h : lT m hs n t xs ys lf sy co C T nS S P L St f z) {i b : Nat} (hi : i < n) (hb : b < n) : ∀ w, w < 5 → x_eFact n xs ys lf sy (nI i) (nI b) (nI w) = s_eRow C t T nS S (nI i) (nI b) w := by
  obtain ⟨hA, hM, hE, hC, h2, hz, hL, hnm, ht, hu⟩ := h
  obtain ⟨q0, q1, q2, q3, q4⟩ := eThat hA hM hi hb
  intro w hw
  rcases (show w = 0 ∨ w = 1 ∨ w = 2 ∨ w = 3 ∨ w = 4 by omega) with rfl | rfl | rfl | rfl | rfl
  · show bI (m_isEdgeThat n xs ys lf sy 0 (nI i) (nI b)) = bI (s_isB t T (nI i) (nI b))
    rw [q0, isB_eq hA hE hi hb]
  · show bI (m_isEdgeThat n xs ys lf sy 1 (nI i) (nI b)) = bI (s_one t T (nI i) (nI b))
    rw [q1, one_eq hA hE hi hb]
  · show bI (m_isEdgeThat n xs ys lf sy 2 (nI i) (nI b)) = bI (s_isS t T nS S (nI i) (nI b))
    rw [q2, isS_eq hA hE hL hi hb]
  · show bI (m_isEdgeThat n xs ys lf sy 3 (nI i) (nI b)) = bI (s_unf C t T (nI i) (nI b))
    rw [q3, sv_unf hA (tb := rfP f) (fun _ _ => rfl) (hE.rows hA.en).1 hC hi hb]
  · show bI (m_isEdgeThat n xs ys lf sy 4 (nI i) (nI b)) = bI (s_flp C t T nS S (nI i) (nI b))
    rw [q4, sv_flp hA (tb := rfP f) (fun _ _ => rfl) (hE.rows hA.en).1 hC (stay_eq hA hL i b hi hb) hi hb]
theorem same_c (h : lT m hs n t xs ys lf sy co C T nS S P L St f z) (hm : m ≤ 15) {i : Nat} (hi : i < n) : ∀ w, w < 5 → x_cFact n xs ys lf hs (nI i) (nI w) = s_tRow n C t T nS S i w := by
  obtain ⟨b1, b2, b3, b4, b5⟩ := lT_bd h hm
  obtain ⟨hA, hM, hE, hC, h2, hz, hL, hnm, ht, hu⟩ := h
  have hn := hA.n17
  have hV := (hE.rows hA.en).1
  intro w hw
  unfold x_cFact
  rcases (show w = 0 ∨ w = 1 ∨ w = 2 ∨ w = 3 ∨ w = 4 by omega) with rfl | rfl | rfl | rfl | rfl
  · rw [if_pos (by decide), m_xOf_nI (by omega), (hM.1 i hi).1]
    exact (hC i hi).1.symm
  · rw [if_neg (by decide), if_pos (by decide), m_xOf_nI (by omega), (hM.1 i hi).2]
    exact (hC i hi).2.symm
  · rw [if_neg (by decide), if_neg (by decide), if_pos (by decide), x_hOf_nI (by omega)]
    exact (h2 i hi).symm
  · rw [if_neg (by decide), if_neg (by decide), if_neg (by decide), if_pos (by decide)]
    show nI (rg_ct (m_pEdge lf (nI i)) n) = s_hasN C t T nS S i n
    rw [hasN_eq hA hE hi]
    refine congrArg nI (rg_ct_congr fun j hj => ?_)
    exact m_edge_eq hA hM.2.1 (by omega) (by omega)
  · rw [if_neg (by decide), if_neg (by decide), if_neg (by decide), if_neg (by decide), triAt_eq hA hM.2.1 (tb := rfP f) (fun _ _ => rfl) hi]
    show nI (rg_ct (r_pH (rfP f) (nI i)) t) = nI (rg_ct (s_inP T i) t)
    refine congrArg nI (rg_ct_congr fun k hk => ?_)
    exact (sv_has hV (by omega) hk (nI i)).symm
theorem same_t (h : lT m hs n t xs ys lf sy co C T nS S P L St f z) (hm : m ≤ 15) {k : Nat} (hk : k < t) : ∀ w, w < 4 → x_tFact xs ys co (nI k) (nI w) = s_trI C T k w := by
  obtain ⟨b1, b2, b3, b4, b5⟩ := lT_bd h hm
  obtain ⟨hA, hM, hE, hC, h2, hz, hL, hnm, ht, hu⟩ := h
  have hn := hA.n17
  obtain ⟨k1, k2, k3, -, -⟩ := ti_k hA hk
  obtain ⟨c0, c1, c2⟩ := m_corner_eq hM.2.2.2 (ti_t28 hA) hk
  obtain ⟨r0, r1, r2⟩ := (hE.rows hA.en).2 k hk
  intro w hw
  unfold x_tFact s_trI
  rcases (show w = 0 ∨ w = 1 ∨ w = 2 ∨ w = 3 by omega) with rfl | rfl | rfl | rfl
  · rw [if_neg (by decide), if_neg (by decide), r0]; exact c0
  · rw [if_neg (by decide), if_neg (by decide), r1]; exact c1
  · rw [if_neg (by decide), if_neg (by decide), r2]; exact c2
  · rw [if_pos (by decide), if_pos (by decide), m_areaOf_eq hA hM.1 hM.2.2.2 hk]
    unfold s_area
    rw [r0, r1, r2, nI_clamp (by omega), nI_clamp (by omega), nI_clamp (by omega), s_cross_eq hC (by omega) (by omega) k3]
    have b := gO_bd (hA.sq (f k / 32 / 32) (by omega)) (hA.sq (f k / 32 % 32) (by omega)) (hA.sq (f k % 32) k3)
    rw [iN_abs (by omega)]
theorem same_n (h : lT m hs n t xs ys lf sy co C T nS S P L St f z) (hm : m ≤ 15) (fl : Int32) : ∀ w, w < 7 → x_cntOf n t xs ys lf sy fl (nI w) = s_cRow n C t T nS S fl w := by
  obtain ⟨b1, b2, b3, b4, b5⟩ := lT_bd h hm
  obtain ⟨hA, hM, hE, hC, h2, hz, hL, hnm, ht, hu⟩ := h
  have hu1 := hu.1
  have hu2 := hu.2
  intro w hw
  unfold x_cntOf
  rcases (show w = 0 ∨ w = 1 ∨ w = 2 ∨ w = 3 ∨ w = 4 ∨ w = 5 ∨ w = 6 by omega) with rfl | rfl | rfl | rfl | rfl | rfl | rfl
  · rw [if_pos (by decide)]; rfl
  · rw [if_neg (by decide), if_pos (by decide)]; rfl
  · rw [if_neg (by decide), if_neg (by decide), if_pos (by decide), edges0 hA hM]
    show nI (ecn L n) = s_eO n C t T nS S n / 2
    rw [eO_eq hA hE, show (2 : Int32) = nI 2 from rfl, pk_div (by omega) (by decide) (by decide), Nat.mul_div_cancel_left _ (by decide)]
  · rw [if_neg (by decide), if_neg (by decide), if_neg (by decide), if_pos (by decide), edges1 hA hM]
    show nI (bcn L n) = s_bdO n C t T nS S n / 2
    rw [bdO_eq hA hE n (Nat.le_refl _), bd_full hA, show (2 : Int32) = nI 2 from rfl, pk_div (by omega) (by decide) (by decide), Nat.mul_div_cancel_left _ (by decide)]
  · rw [if_neg (by decide), if_neg (by decide), if_neg (by decide), if_neg (by decide), if_pos (by decide), edges2 hA hM]
    show nI (cnt St n) = nI nS
    rw [sv_L_cnt hA hL]
  · rw [if_neg (by decide), if_neg (by decide), if_neg (by decide), if_neg (by decide), if_neg (by decide), if_pos (by decide), edges3 hA hM]
    show nI (cnt (uB P L) n) = nI (s_uN C t T n)
    rw [uN_eq hA hE hC]
  · rw [if_neg (by decide), if_neg (by decide), if_neg (by decide), if_neg (by decide), if_neg (by decide), if_neg (by decide)]; rfl
theorem same_m (h : lT m hs n t xs ys lf sy co C T nS S P L St f z) (hm : m ≤ 15) : x_mean n xs ys lf sy = FP.ddiv (FP.i2d (s_eO n C t T nS S n)) (FP.i2d (nI n)) ∧ vf_n64 (FP.ddiv (FP.i2d (s_eO n C t T nS S n)) (FP.i2d (nI n))) ∧ Op.cmpValue (FP.dcmp (FP.ddiv (FP.i2d (s_eO n C t T nS S n)) (FP.i2d (nI n))) (FP.ddiv (FP.i2d (s_eO n C t T nS S n)) (FP.i2d (nI n)))) .l = 0 := by
  obtain ⟨b1, b2, b3, b4, b5⟩ := lT_bd h hm
  obtain ⟨hA, hM, hE, hC, h2, hz, hL, hnm, ht, hu⟩ := h
  have hu1 := hu.1
  have e : s_eO n C t T nS S n = 2 * nI (ecn L n) := by rw [eO_eq hA hE, show (2 : Int32) = nI 2 from rfl, pk_mul]
  rw [e]
  refine ⟨?_, dv_n64 (by omega) (by omega) (by omega), dv_cmp0 (by omega) (by omega) (by omega)⟩
  unfold x_mean
  rw [edges0 hA hM]
end SM
theorem lR_same (u : lX) (v : lS) (h : lR 15 u v) : q_same u v := by
  obtain ⟨hs, fx, n, t, xs, ys, lf, sy, co, n2, t2, xs2, ys2, lf2, sy2, co2⟩ := u
  obtain ⟨nC, C, nT, T, nS, S, fl⟩ := v
  obtain ⟨e1, e2, e3, P, L, St, f, z, hT⟩ := h
  subst e1 e2 e3
  obtain ⟨b1, b2, b3, b4, b5⟩ := lT_bd hT (Nat.le_refl 15)
  have hn := hT.1.n17
  unfold q_same
  exact ⟨by omega, by omega, by omega, by omega, by omega, lT_okF hT, lT_okR hT, s_cO_bd (by omega) (by omega), fun i b w hi hb hw => ⟨okEd_t hn hi hb hw, same_e hT hi hb w hw⟩, fun i w hi hw => ⟨okTd_t hn hi hw, same_c hT (Nat.le_refl 15) hi w hw⟩, fun k w hk hw => ⟨okTr_t (by omega) hk hw, same_t hT (Nat.le_refl 15) hk w hw⟩, fun w hw => ⟨what_t w hw, same_n hT (Nat.le_refl 15) fx w hw⟩, same_m hT (Nat.le_refl 15)⟩
