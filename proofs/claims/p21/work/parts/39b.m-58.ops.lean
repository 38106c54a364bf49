/-! flips, settling, what would be -/
section Z
variable {n t u : Nat} {fl : Int32} {hs xs ys lf sy co hr xr yr tb : Nat → Int32} {sg : Nat → Nat → Int32}
theorem turnable_edge {P : Nat → g_P} {L : Nat → Nat → Option Nat} {St : Nat → Nat → Bool} {a b : Nat} (h : tB P L St a b = true) : eB L a b = true ∧ ∃ c d, L a b = some c ∧ L b a = some d ∧ St a b = false ∧ gO (P c) (P d) (P a) < 0 ∧ 0 < gO (P c) (P d) (P b) := by
  unfold tB at h
  split at h
  · rename_i c d e1 e2
    simp at h
    refine ⟨by unfold eB; rw [e1]; rfl, c, d, e1, e2, ?_⟩
    obtain ⟨⟨q1, q2⟩, q3⟩ := h
    exact ⟨q1, q2, q3⟩
  · cases h
theorem op_flip (h : ti_Z n (u + 1 + 1) hs xs ys lf sy co hr xr yr tb sg) (a b : Int32) : (r_isIn a 0 (nI n - 1) = true → r_isIn b 0 (nI n - 1) = true → r_canFlip (u + 1 + 1) xr yr tb sg a b = true → r_okFl u tb a b (r_fr tb a b 1 (u + 1 + 1)) (r_fr tb a b 0 (u + 1 + 1))) ∧ x_k (x_okFl n xs ys lf sy a b) (x_exFx n a b) xIOB = r_b2 (r_isIn a 0 (nI n - 1)) (r_isIn b 0 (nI n - 1)) (r_b1 (r_canFlip (u + 1 + 1) xr yr tb sg a b) 0 2) 1 ∧ (x_okFl n xs ys lf sy a b = true → 16 * min32 (m_leftOf lf a b) (m_leftOf lf b a) + max32 (m_leftOf lf a b) (m_leftOf lf b a) = r_b3 (r_isIn a 0 (nI n - 1)) (r_isIn b 0 (nI n - 1)) (r_canFlip (u + 1 + 1) xr yr tb sg a b) (16 * min32 (r_fr tb a b 1 (u + 1 + 1)) (r_fr tb a b 0 (u + 1 + 1)) + max32 (r_fr tb a b 1 (u + 1 + 1)) (r_fr tb a b 0 (u + 1 + 1))) 0 ∧ ti_W n ((m_list n (m_tE n xs ys lf a b) co).1) (fl + 1) hs xs ys (m_tE n xs ys lf a b) sy ((m_list n (m_tE n xs ys lf a b) co).2) n (u + 1 + 1) (r_b3 (r_isIn a 0 (nI n - 1)) (r_isIn b 0 (nI n - 1)) (r_canFlip (u + 1 + 1) xr yr tb sg a b) (fl + 1) fl) hr xr yr (r_b3 (r_isIn a 0 (nI n - 1)) (r_isIn b 0 (nI n - 1)) (r_canFlip (u + 1 + 1) xr yr tb sg a b) (r_flTb u tb a b (r_fr tb a b 1 (u + 1 + 1)) (r_fr tb a b 0 (u + 1 + 1))) tb) (r_b3 (r_isIn a 0 (nI n - 1)) (r_isIn b 0 (nI n - 1)) (r_canFlip (u + 1 + 1) xr yr tb sg a b) (r_let sg (r_fr tb a b 1 (u + 1 + 1)) (r_fr tb a b 0 (u + 1 + 1)) 0) sg)) ∧ (x_okFl n xs ys lf sy a b = false → ti_W n (u + 1 + 1) fl hs xs ys lf sy co n (u + 1 + 1) (r_b3 (r_isIn a 0 (nI n - 1)) (r_isIn b 0 (nI n - 1)) (r_canFlip (u + 1 + 1) xr yr tb sg a b) (fl + 1) fl) hr xr yr (r_b3 (r_isIn a 0 (nI n - 1)) (r_isIn b 0 (nI n - 1)) (r_canFlip (u + 1 + 1) xr yr tb sg a b) (r_flTb u tb a b (r_fr tb a b 1 (u + 1 + 1)) (r_fr tb a b 0 (u + 1 + 1))) tb) (r_b3 (r_isIn a 0 (nI n - 1)) (r_isIn b 0 (nI n - 1)) (r_canFlip (u + 1 + 1) xr yr tb sg a b) (r_let sg (r_fr tb a b 1 (u + 1 + 1)) (r_fr tb a b 0 (u + 1 + 1)) 0) sg)) := by
  have hb := Z_bd h
  have nIE : ¬ xISE = xIOB := by decide
  rw [Z_cairn h, Z_cairn h]
  unfold x_okFl x_exFx r_b3 r_b2 r_b1 x_k
  cases e1 : m_isCairn n a with
  | false => exact ⟨fun q => by simp at q, by simp, fun q => by simp at q, fun _ => W_of h⟩
  | true =>
    cases e2 : m_isCairn n b with
    | false => exact ⟨fun _ q => by simp at q, by simp, fun q => by simp at q, fun _ => W_of h⟩
    | true =>
      obtain ⟨i, hi, rfl⟩ := cairn_of (by omega) e1
      obtain ⟨j, hj, rfl⟩ := cairn_of (by omega) e2
      have hH := h
      obtain ⟨P, L, St, f, h1, h2, h3, h4, h5, h6⟩ := h
      rw [m_edge_eq h1 h2.2.1 (by omega) (by omega), m_turnable_eq h1 h2.1 h2.2.1 h2.2.2.1 hi hj, r_canFlip_eq h1 h3.1 h3.2.1 h3.2.2 hi hj]
      cases e3 : tB P L St i j with
      | false =>
        refine ⟨fun _ _ q => by simp at q, ?_, fun q => ?_, fun _ => W_of hH⟩
        · cases eB L i j <;> simp [nIE]
        · cases w : eB L i j <;> rw [w] at q <;> simp at q
      | true =>
        obtain ⟨hE, c, d, l1, l2, hst, g1, g2⟩ := turnable_edge e3
        rw [hE]
        have hq : tr_Quad n P L i j c d := ⟨l1, l2, g1, g2⟩
        have hfr := fr2 (h1.R h3.2.1) hi hj l1 l2
        have hc := (h1.lt l1).2.2
        have hd := (h1.lt l2).2.2
        obtain ⟨k1, k2, f', k3, k4⟩ := flip_tie h1 h3.2.1 h3.2.2 hq hst hfr
        obtain ⟨m1, m2⟩ := flip_m h1 h2 hq k3
        refine ⟨fun _ _ _ => k1, by simp, fun _ => ?_, fun q => by simp at q⟩
        rw [if_pos rfl, if_pos rfl, if_pos rfl, if_pos rfl, if_pos rfl, if_pos rfl, if_pos rfl, if_pos rfl, if_pos rfl]
        rw [m_left_eq h2.2.1 (by omega) (by omega), m_left_eq h2.2.1 (by omega) (by omega), l1, l2]
        refine ⟨?_, rfl, m1.symm, rfl, ?_⟩
        · show 16 * min32 (nI c) (nI d) + max32 (nI c) (nI d) = _
          rcases hfr with ⟨q1, q2⟩ | ⟨q1, q2⟩
          · rw [q1, q2]
          · rw [q1, q2, min_nI (by omega) (by omega), min_nI (by omega) (by omega), max_nI (by omega) (by omega), max_nI (by omega) (by omega), Nat.min_comm, Nat.max_comm]
        · rw [m1]
          exact ⟨P, tr_flip L i j c d, St, f', k3, m2, ⟨h3.1, k4, k2⟩, h4, h5, h6⟩
theorem op_settle (h : ti_Z n (u + 1 + 1) hs xs ys lf sy co hr xr yr tb sg) : ∃ N, (∀ k, k < N → (r_fu u n xr yr (r_tuS u n xr yr (tb, sg, fl) k)).isSome = true) ∧ r_fu u n xr yr (r_tuS u n xr yr (tb, sg, fl) N) = none ∧ (∀ k, k ≤ N → r_okS u n xr yr (r_tuS u n xr yr (tb, sg, fl) k)) ∧ nI (m_tuN n xs ys sy (u + 1 + 1, lf, co)) = (r_tuS u n xr yr (tb, sg, fl) N).2.2 - fl ∧ ti_W n ((m_tuS n xs ys sy (u + 1 + 1, lf, co) (m_tuN n xs ys sy (u + 1 + 1, lf, co))).1) (fl + nI (m_tuN n xs ys sy (u + 1 + 1, lf, co))) hs xs ys ((m_tuS n xs ys sy (u + 1 + 1, lf, co) (m_tuN n xs ys sy (u + 1 + 1, lf, co))).2.1) sy ((m_tuS n xs ys sy (u + 1 + 1, lf, co) (m_tuN n xs ys sy (u + 1 + 1, lf, co))).2.2) n (u + 1 + 1) ((r_tuS u n xr yr (tb, sg, fl) N).2.2) hr xr yr ((r_tuS u n xr yr (tb, sg, fl) N).1) ((r_tuS u n xr yr (tb, sg, fl) N).2.1) := by
  obtain ⟨P, L, St, f, h1, h2, h3, h4, h5, h6⟩ := h
  obtain ⟨N, L', f', n1, n2, ⟨k1, k2, k3, k4, k5, -⟩, n4, n5, n6⟩ := settle_eq (fl := fl) h1 h2 h3
  refine ⟨N, n4, n5, n6, ?_, ?_⟩
  · rw [n2, k5, Int32.add_comm, Int32.add_sub_cancel]
  · rw [n2]
    refine ⟨rfl, k2.symm, k5, ?_⟩
    rw [k2]
    exact ⟨P, L', St, f', k1, k3, k4, h4, by omega, h6⟩
theorem okO_eq (h : ti_Z n t hs xs ys lf sy co hr xr yr tb sg) (x y : Int32) : r_okO n xr yr x y = x_okWd n xs ys x y ∧ x_k (x_okWd n xs ys x y) (x_exWd x y) xIAE = r_thO n xr yr x y := by
  have hb := Z_bd h
  obtain ⟨P, L, St, f, h1, h2, h3, h4, h5, h6⟩ := h
  have hc := hasCairn_eq (n := n) (by omega) h2.1 h3.1 x y
  have nIE : ¬ xISE = xIAE := by decide
  unfold r_okO r_thO x_okWd x_exWd x_k
  rw [← place_eq]
  cases e1 : x_place x y with
  | false => simp
  | true =>
    by_cases e4 : r_cairnAt n xr yr x y = -1
    · have e5 : m_hasCairnAt n xs ys x y = false := by
        cases e : m_hasCairnAt n xs ys x y with
        | false => rfl
        | true => exact absurd e4 (hc.mp e)
      simp [e4, e5]
    · have e5 : m_hasCairnAt n xs ys x y = true := hc.mpr e4
      simp [e4, e5, nIE]
theorem op_would (h : ti_Z n t hs xs ys lf sy co hr xr yr tb sg) (x y : Int32) : (r_okO n xr yr x y = true → r_okAd n t xr yr tb sg x y) ∧ (r_okO n xr yr x y = true → ∀ a b, a < n + 1 → b < n + 1 → r_okF (r_adS n t xr yr tb sg x y).1 (r_adS n t xr yr tb sg x y).2.1 (nI a) (nI b)) ∧ x_k (x_okWd n xs ys x y) (x_exWd x y) xIAE = r_thO n xr yr x y ∧ (x_okWd n xs ys x y = true → m_edgesThat (n + 1) (m_ac n xs x) (m_ac n ys y) (m_inLf n (m_ac n xs x) (m_ac n ys y) lf (m_corner co (m_find t xs ys co x y) 0) (m_corner co (m_find t xs ys co x y) 1) (m_corner co (m_find t xs ys co x y) 2) x y) (m_inSy n (m_ac n xs x) (m_ac n ys y) sy (m_corner co (m_find t xs ys co x y) 0) (m_corner co (m_find t xs ys co x y) 1) (m_corner co (m_find t xs ys co x y) 2) x y) 3 = r_b1 (r_okO n xr yr x y) (r_edges (n + 1) (r_adS n t xr yr tb sg x y).1 (m_ac n xr x) (m_ac n yr y) (r_adS n t xr yr tb sg x y).2.1 (r_adSg n t xr yr tb sg x y) 3) 0) ∧ ti_W n t fl hs xs ys lf sy co n t fl (r_b1 (r_okO n xr yr x y) (m_ac n hr 0) hr) (r_b1 (r_okO n xr yr x y) (m_ac n xr x) xr) (r_b1 (r_okO n xr yr x y) (m_ac n yr y) yr) tb sg := by
  have hb := Z_bd h
  obtain ⟨e, ek⟩ := okO_eq h x y
  have ins : x_okWd n xs ys x y = true → ∃ p : g_P, tr_sq p ∧ x = iN p.1 ∧ y = iN p.2 ∧ ∀ P : Nat → g_P, (∀ i, i < n → tr_sq (P i)) → ti_X n P xs ys → ∀ i, i < n → P i ≠ p := by
    intro q
    unfold x_okWd at q
    split at q
    · rename_i q1
      split at q
      · cases q
      · rename_i q4
        obtain ⟨p, p1, rfl, rfl⟩ := x_place_of q1
        exact ⟨p, p1, rfl, rfl, fun P hP hX => noCairn (by omega) hP hX p1 (by simpa using q4)⟩
    · cases q
  rw [e]
  refine ⟨fun q => ?_, fun q => ?_, ek, fun q => ?_, ?_⟩
  · obtain ⟨p, p1, rfl, rfl, p2⟩ := ins q
    obtain ⟨P, L, St, f, h1, h2, h3, h4, h5, h6⟩ := h
    exact (insert_tie h1 h2 h3 h4 p1 (p2 P h1.sq h2.1)).1
  · obtain ⟨p, p1, rfl, rfl, p2⟩ := ins q
    obtain ⟨P, L, St, f, h1, h2, h3, h4, h5, h6⟩ := h
    obtain ⟨-, t', P', L', St', f', k1, k2, k3, k4, k5, k6, k7⟩ := insert_tie h1 h2 h3 h4 p1 (p2 P h1.sq h2.1)
    rw [k6]
    exact fun a b ha hb => okF_tie k3 k7.2.1 ha hb
  · obtain ⟨p, p1, rfl, rfl, p2⟩ := ins q
    obtain ⟨P, L, St, f, h1, h2, h3, h4, h5, h6⟩ := h
    obtain ⟨-, t', P', L', St', f', k1, k2, k3, k4, k5, k6, k7⟩ := insert_tie h1 h2 h3 h4 p1 (p2 P h1.sq h2.1)
    rw [b1_t q, k6]
    exact edges_eq k3 k5 k7 (w := 3) (by decide)
  · refine ⟨rfl, rfl, rfl, ?_⟩
    obtain ⟨P, L, St, f, h1, h2, h3, h4, h5, h6⟩ := h
    cases q : x_okWd n xs ys x y with
    | false => exact ⟨P, L, St, f, h1, h2, h3, h4, h5, h6⟩
    | true =>
      refine ⟨P, L, St, f, h1, h2, ⟨fun i hi => ?_, h3.2.1, h3.2.2⟩, h4, h5, fun i hi => ?_⟩
      · show m_ac n xr x i = _ ∧ m_ac n yr y i = _
        rw [ac_eq (by omega), ac_eq (by omega), if_neg (by omega), if_neg (by omega)]
        exact h3.1 i hi
      · show hs i = m_ac n hr 0 i
        rw [ac_eq (by omega), if_neg (by omega)]
        exact h6 i hi
end Z

