/-! what holds of both states -/
abbrev lT (m : Nat) (hs : Nat → Int32) (n t : Nat) (xs ys lf sy co : Nat → Int32) (C T : Nat → Nat → Int32) (nS : Nat) (S : Nat → Nat → Int32) (P : Nat → g_P) (L : Nat → Nat → Option Nat) (St : Nat → Nat → Bool) (f z : Nat → Nat) : Prop := ti_A n t P L St f ∧ ti_m n t P L St f xs ys lf sy co ∧ sv_E (tr_S L) t T ∧ sv_C n P C ∧ (∀ i, i < n → C i 2 = hs i) ∧ (∀ i, i < n → hs i = nI (z i) ∧ z i < 100) ∧ sv_L (qS St) nS S ∧ n ≤ m ∧ 2 ≤ t ∧ eu_ n t L
def lR (m : Nat) : lX → lS → Prop
  | (hs, fx, n, t, xs, ys, lf, sy, co, _, _, _, _, _, _, _), (nC, C, nT, T, nS, S, fl) => n = nC ∧ t = nT ∧ fx = fl ∧ ∃ P L St f z, lT m hs n t xs ys lf sy co C T nS S P L St f z
section LT
variable {m n t : Nat} {hs xs ys lf sy co : Nat → Int32} {C T S : Nat → Nat → Int32} {nS : Nat} {P : Nat → g_P} {L : Nat → Nat → Option Nat} {St : Nat → Nat → Bool} {f z : Nat → Nat}
theorem lT_bd (h : lT m hs n t xs ys lf sy co C T nS S P L St f z) (hm : m ≤ 15) : 4 ≤ n ∧ n ≤ 15 ∧ 2 ≤ t ∧ t + 6 ≤ 2 * n ∧ nS ≤ 40 := by
  obtain ⟨hA, -, -, -, -, -, hL, hn, ht, hu⟩ := h
  have := hA.n4
  have := hA.t2
  have := sv_L_le hA hL hu
  exact ⟨by omega, by omega, by omega, by omega, by omega⟩
theorem lT_okF (h : lT m hs n t xs ys lf sy co C T nS S P L St f z) : s_okF n t T := by
  obtain ⟨hA, -, hE, -⟩ := h
  exact sv_okF hA (tb := rfP f) (fun _ _ => rfl) (hE.rows hA.en).1
theorem lT_okR (h : lT m hs n t xs ys lf sy co C T nS S P L St f z) : ∀ k : Nat, k < t → ∀ j : Nat, j < 3 → vp_in (T k j) n := by
  obtain ⟨hA, -, hE, -⟩ := h
  exact sv_okR hA (tb := rfP f) (fun _ _ => rfl) (hE.rows hA.en).1
/-- two corners of a row, one behind the other, are an edge -/
theorem lT_side (h : lT m hs n t xs ys lf sy co C T nS S P L St f z) {k j : Nat} (hk : k < t) (hj : j < 3) : ∃ a b, a < n ∧ b < n ∧ eB L a b = true ∧ T k j = nI a ∧ T k ((j + 1) % 3) = nI b := by
  obtain ⟨hA, -, hE, -⟩ := h
  obtain ⟨k1, k2, k3, -, k5⟩ := ti_k hA hk
  obtain ⟨r0, r1, r2⟩ := (hE.rows hA.en).2 k hk
  have ed : eB L (f k / 32 / 32) (f k / 32 % 32) = true ∧ eB L (f k / 32 % 32) (f k % 32) = true ∧ eB L (f k % 32) (f k / 32 / 32) = true := by
    rcases k5 with e | e
    · have e1 := hA.ok.tri.rot e
      have e2 := hA.ok.tri.rot2 e
      unfold eB
      rw [e, e1, e2]
      exact ⟨rfl, rfl, rfl⟩
    · have e1 := hA.ok.tri.rot e
      have e2 := hA.ok.tri.rot2 e
      unfold eB
      rw [e, e1, e2, Bool.or_comm, Bool.or_comm (L (f k / 32 % 32) (f k % 32)).isSome, Bool.or_comm (L (f k % 32) (f k / 32 / 32)).isSome]
      exact ⟨rfl, rfl, rfl⟩
  rcases (show j = 0 ∨ j = 1 ∨ j = 2 by omega) with rfl | rfl | rfl
  · exact ⟨_, _, by omega, by omega, ed.1, r0, r1⟩
  · exact ⟨_, _, by omega, k3, ed.2.1, r1, r2⟩
  · exact ⟨_, _, k3, by omega, ed.2.2, r2, r0⟩
theorem okFx_t (h : lT m hs n t xs ys lf sy co C T nS S P L St f z) {a b : Nat} (ha : a < n) (hb : b < n) (e : eB L a b = true) : x_okFx n lf (nI a) (nI b) = true := by
  obtain ⟨hA, hM, -⟩ := h
  have hn := hA.n17
  unfold x_okFx
  rw [m_cairn_eq hn (by omega), m_cairn_eq hn (by omega), decide_eq_true ha, decide_eq_true hb, m_edge_eq hA hM.2.1 (by omega) (by omega), e]
  rfl
theorem what_t : ∀ w : Nat, w < 7 → x_what (nI w) 7 = true := by decide +kernel
theorem what5_t : ∀ w : Nat, w < 5 → x_what (nI w) 5 = true := by decide +kernel
theorem what4_t : ∀ w : Nat, w < 4 → x_what (nI w) 4 = true := by decide +kernel
theorem hgt_t : ∀ v : Nat, v < 100 → x_hgt (nI v) = true := by decide +kernel
theorem okEd_t (hn : n ≤ 17) {a b w : Nat} (ha : a < n) (hb : b < n) (hw : w < 5) : x_okEd n (nI a) (nI b) (nI w) = true := by
  unfold x_okEd
  rw [m_cairn_eq hn (by omega), m_cairn_eq hn (by omega), decide_eq_true ha, decide_eq_true hb, what5_t w hw]
  rfl
theorem okTd_t (hn : n ≤ 17) {a w : Nat} (ha : a < n) (hw : w < 5) : x_okTd n (nI a) (nI w) = true := by
  unfold x_okTd
  rw [m_cairn_eq hn (by omega), decide_eq_true ha, what5_t w hw]
  rfl
theorem okTr_t (ht : t ≤ 28) {k w : Nat} (hk : k < t) (hw : w < 4) : x_okTr t (nI k) (nI w) = true := by
  unfold x_okTr
  rw [if_neg (nI_pos (by omega)), if_pos ((nI_ltI (by omega) (by omega)).mpr hk), what4_t w hw]
theorem okFl_t (h : lT m hs n t xs ys lf sy co C T nS S P L St f z) {a b : Nat} (ha : a < n) (hb : b < n) (e : tB P L St a b = true) : x_okFl n xs ys lf sy (nI a) (nI b) = true := by
  obtain ⟨hA, hM, -⟩ := h
  have hn := hA.n17
  unfold x_okFl
  rw [m_cairn_eq hn (by omega), m_cairn_eq hn (by omega), decide_eq_true ha, decide_eq_true hb, m_edge_eq hA hM.2.1 (by omega) (by omega), tB_eB e, m_turnable_eq hA hM.1 hM.2.1 hM.2.2.1 ha hb, e]
  rfl
/-- a flip, in the class and in the law's moor -/
theorem lT_flip (h : lT m hs n t xs ys lf sy co C T nS S P L St f z) {a b : Nat} (ha : a < n) (hb : b < n) (e : tB P L St a b = true) : ∃ c d f', c < n ∧ d < n ∧ L a b = some c ∧ L b a = some d ∧ tr_Quad n P L a b c d ∧ (s_fa T (nI a) (nI b) t).1 = 2 ∧ (((s_fa T (nI a) (nI b) t).2.1 = nI c ∧ (s_fa T (nI a) (nI b) t).2.2 = nI d) ∨ ((s_fa T (nI a) (nI b) t).2.1 = nI d ∧ (s_fa T (nI a) (nI b) t).2.2 = nI c)) ∧ s_edge t T (nI a) (nI b) = nI (16 * min c d + max c d) ∧ 16 * min32 (m_leftOf lf (nI a) (nI b)) (m_leftOf lf (nI b) (nI a)) + max32 (m_leftOf lf (nI a) (nI b)) (m_leftOf lf (nI b) (nI a)) = nI (16 * min c d + max c d) ∧ (m_list n (m_tE n xs ys lf (nI a) (nI b)) co).1 = t ∧ (s_flip t T (nI a) (nI b)).1 = t ∧ lT m hs n t xs ys (m_tE n xs ys lf (nI a) (nI b)) sy (m_list n (m_tE n xs ys lf (nI a) (nI b)) co).2 C (s_flip t T (nI a) (nI b)).2 nS S P (tr_flip L a b c d) St f' z := by
  obtain ⟨hA, hM, hE, hC, h2, hz, hL, hnm, ht, hu⟩ := h
  have hn := hA.n17
  obtain ⟨hE9, c, d, l1, l2, hst, g1, g2⟩ := turnable_edge e
  have hq : tr_Quad n P L a b c d := ⟨l1, l2, g1, g2⟩
  have hc := (hA.lt l1).2.2
  have hd := (hA.lt l2).2.2
  obtain ⟨u, rfl⟩ : ∃ u, t = u + 1 + 1 := ⟨t - 2, by omega⟩
  obtain ⟨f', a'⟩ := sv_flip_ti hA hq hst
  obtain ⟨m1, m2⟩ := flip_m hA hM hq a'
  obtain ⟨q1, q2⟩ := sv_two hA (tb := rfP f) (fun _ _ => rfl) (hE.rows hA.en).1 ha hb l1 l2
  obtain ⟨v1, v2⟩ := sv_flip hA.ok hn hE hq q2
  have mm : ∀ x y : Nat, x < n → y < n → 16 * min32 (nI x) (nI y) + max32 (nI x) (nI y) = nI (16 * min x y + max x y) := fun x y hx hy => by
    rw [min_nI (by omega) (by omega), max_nI (by omega) (by omega), show (16 : Int32) = nI 16 from rfl, pk_mul, nI_add]
  refine ⟨c, d, f', hc, hd, l1, l2, hq, q1, q2, ?_, ?_, m1, v1, a', m2, v2, hC, h2, hz, hL, hnm, ht, hu.flip hA.ok hq⟩
  · unfold s_edge
    rcases q2 with ⟨w1, w2⟩ | ⟨w1, w2⟩
    · rw [w1, w2, mm c d hc hd]
    · rw [w1, w2, mm d c hd hc, Nat.min_comm, Nat.max_comm]
  · rw [m_left_eq hM.2.1 (by omega) (by omega), m_left_eq hM.2.1 (by omega) (by omega), l1, l2]
    exact mm c d hc hd
/-- settling -/
theorem lT_settle (h : lT m hs n t xs ys lf sy co C T nS S P L St f z) {M N9 : Nat} (hfin : ∀ n : Nat, n < m + 1 → ∀ t : Nat, t < 2 * m - 5 → (n + n * (n - 1) / 2 - 2 * t) * (n * (n - 1) / 2 + 7 * t + 10) ≤ M ∧ (n + n * (n - 1) / 2 - 2 * t) * (2 * (n * (n - 1) / 2) + 18 * t + 20) ≤ N9) : ∃ W1 V1, (m_tuN n xs ys sy (t, lf, co) + 1) * W1 ≤ M ∧ (m_tuN n xs ys sy (t, lf, co) + 1) * V1 ≤ N9 ∧ s_okSt n C t T nS S (m_tuN n xs ys sy (t, lf, co)) W1 V1 ∧ (m_tuS n xs ys sy (t, lf, co) (m_tuN n xs ys sy (t, lf, co))).1 = t ∧ (s_sq n C nS S (t, T) (m_tuN n xs ys sy (t, lf, co))).1 = t ∧ ∃ L' f', lT m hs n t xs ys (m_tuS n xs ys sy (t, lf, co) (m_tuN n xs ys sy (t, lf, co))).2.1 sy (m_tuS n xs ys sy (t, lf, co) (m_tuN n xs ys sy (t, lf, co))).2.2 C (s_sq n C nS S (t, T) (m_tuN n xs ys sy (t, lf, co))).2 nS S P L' St f' z ∧ fF P L' St n = none := by
  obtain ⟨hA, hM, hE, hC, h2, hz, hL, hnm, ht, hu⟩ := h
  have hn := hA.n17
  have t2 := hA.t2
  have n4 := hA.n4
  obtain ⟨u, rfl⟩ : ∃ u, t = u + 1 + 1 := ⟨t - 2, by omega⟩
  obtain ⟨N, eN, h1, h3, h4, h5⟩ := sv_settle (m := n) (Nat.le_refl n) hn hC (stay_eq hA hL) hA hM hE hu
  rw [eN]
  obtain ⟨L', f', a1, a2, a3, a4, a5, a6, a7⟩ := h1 N (Nat.le_refl _)
  have lb := low_bd a1 a7
  obtain ⟨f1, f2⟩ := hfin n (by omega) (u + 1 + 1) (by omega)
  have N1 : N + 1 ≤ n + n * (n - 1) / 2 - 2 * (u + 1 + 1) := by omega
  refine ⟨n * (n - 1) / 2 + 7 * (u + 1 + 1) + 10, 2 * (n * (n - 1) / 2) + 18 * (u + 1 + 1) + 20, Nat.le_trans (Nat.mul_le_mul_right _ N1) f1, Nat.le_trans (Nat.mul_le_mul_right _ N1) f2, ⟨h3, h4, fun k hk => ?_, fun k hk => ?_, fun k hk => ?_⟩, a2, a4, L', f', ⟨a1, a3, a5, hC, h2, hz, hL, hnm, ht, a7⟩, h5 L' f' ⟨a1, a2, a3, a4, a5, a6, a7⟩⟩
  · obtain ⟨L9, f9, b1, b2, b3, b4, b5, b6, b7⟩ := h1 k hk
    rw [b4]
    exact ⟨by omega, sv_okF b1 (tb := rfP f9) (fun _ _ => rfl) (b5.rows b1.en).1⟩
  · obtain ⟨L9, f9, b1, b2, b3, b4, b5, b6, b7⟩ := h1 k hk
    have w := s_dO_bd b1 b5
    rw [cnt_pr] at w
    rw [b4]
    omega
  · obtain ⟨L9, f9, b1, b2, b3, b4, b5, b6, b7⟩ := h1 k hk
    have w := s_dO_bd b1 b5
    rw [cnt_pr] at w
    rw [b4]
    omega
theorem place_t {p : g_P} (hp : tr_sq p) : x_place (iN p.1) (iN p.2) = true := by
  obtain ⟨p1, p2, p3, p4⟩ := hp
  unfold x_place
  rw [if_neg (fun w => by rw [show (0 : Int32) = iN 0 from rfl, iN_lt (by omega) (by decide)] at w; omega), if_neg (fun w => by rw [show (30 : Int32) = iN 30 from rfl, iN_lt (by decide) (by omega)] at w; omega), if_neg (fun w => by rw [show (0 : Int32) = iN 0 from rfl, iN_lt (by omega) (by decide)] at w; omega), if_pos (by rw [show (30 : Int32) = iN 30 from rfl, iN_le (by omega) (by decide)]; omega)]
theorem sq_eq {p q : g_P} (hp : tr_sq p) (hq : tr_sq q) (e1 : iN p.1 = iN q.1) (e2 : iN p.2 = iN q.2) : p = q := by
  obtain ⟨p1, p2, p3, p4⟩ := hp
  obtain ⟨q1, q2, q3, q4⟩ := hq
  rw [iN_eq (by omega) (by omega)] at e1 e2
  exact Prod.ext e1 e2
/-- a new cairn, in the class and in the law's moor -/
theorem lT_build (h : lT m hs n t xs ys lf sy co C T nS S P L St f z) (hnm : n + 1 ≤ m) (hm : m ≤ 15) {p : g_P} (hp : tr_sq p) (hc : s_cat n C (iN p.1) (iN p.2) < 0) {v : Nat} (hv : v < 100) : s_okV n C t T nS S (iN p.1) (iN p.2) (nI v) 60 ∧ x_okBd n xs ys (iN p.1) (iN p.2) (nI v) = true ∧ x_okWd n xs ys (iN p.1) (iN p.2) = true ∧ ∃ t' P' L' St' f', (∀ i, i < n → P' i = P i) ∧ P' n = p ∧ ti_A n t P' L St f ∧ ti_how n t P' L L' St St' t' ∧ (m_list (n + 1) (m_inLf2 n t xs ys lf co (iN p.1) (iN p.2)) co).1 = t' ∧ (s_bO (s_more C n (s3 (iN p.1) (iN p.2) (nI v))) (iN p.1) (iN p.2) (nI n) T (t, T, nS, S) t).1 = t' ∧ lT m (x_setH hs (nI n) (nI v)) (n + 1) t' (m_ac n xs (iN p.1)) (m_ac n ys (iN p.2)) (m_inLf2 n t xs ys lf co (iN p.1) (iN p.2)) (m_inSy2 n t xs ys sy co (iN p.1) (iN p.2)) (m_list (n + 1) (m_inLf2 n t xs ys lf co (iN p.1) (iN p.2)) co).2 (s_more C n (s3 (iN p.1) (iN p.2) (nI v))) (s_bO (s_more C n (s3 (iN p.1) (iN p.2) (nI v))) (iN p.1) (iN p.2) (nI n) T (t, T, nS, S) t).2.1 (s_bO (s_more C n (s3 (iN p.1) (iN p.2) (nI v))) (iN p.1) (iN p.2) (nI n) T (t, T, nS, S) t).2.2.1 (s_bO (s_more C n (s3 (iN p.1) (iN p.2) (nI v))) (iN p.1) (iN p.2) (nI n) T (t, T, nS, S) t).2.2.2 P' L' St' f' (fun i => if i = n then v else z i) := by
  obtain ⟨b1, b2, b3, b4, b5⟩ := lT_bd h hm
  obtain ⟨hA, hM, hE, hC, h2, hz, hL, -, ht, hu⟩ := h
  have hno : ∀ i, i < n → P i ≠ p := fun i hi e => by
    have q : s_cP C (iN p.1) (iN p.2) i = true := by
      unfold s_cP
      rw [(hC i hi).1, (hC i hi).2, e, if_pos rfl, if_pos rfl]
    obtain ⟨j, e2, hj, -⟩ := rg_fst_ex ⟨i, hi, q⟩
    unfold s_cat at hc
    rw [e2] at hc
    exact nI_pos (show j < 2 ^ 31 by omega) hc
  have hcn : m_hasCairnAt n xs ys (iN p.1) (iN p.2) = false := rg_any_f (fun j hj => by
    cases e : m_pAt xs ys (iN p.1) (iN p.2) j with
    | false => rfl
    | true =>
      exfalso
      unfold m_pAt at e
      rw [m_xOf_nI (by omega), m_xOf_nI (by omega), (hM.1 j hj).1, (hM.1 j hj).2] at e
      by_cases w1 : iN (P j).1 = iN p.1
      · by_cases w2 : iN (P j).2 = iN p.2
        · exact hno j hj (sq_eq (hA.sq j hj) hp w1 w2)
        · rw [if_pos w1, if_neg w2] at e; cases e
      · rw [if_neg w1] at e; cases e)
  have pl := place_t hp
  obtain ⟨-, t', P', L', St', f', ht1, hPe, hA', hPn, how, hl1, hM', -⟩ := insert_tie2 hA hM (ref_of hM) (by omega) hp hno
  have hA9 := hA.congr hPe
  have hPos := hA'.ok.pos
  have hC' : sv_C (n + 1) P' (s_more C n (s3 (iN p.1) (iN p.2) (nI v))) := fun i hi => by
    unfold s_more
    by_cases w : i = n
    · rw [if_pos w, w, hPn]; exact ⟨rfl, rfl⟩
    · rw [if_neg w, hPe i (by omega)]; exact hC i (by omega)
  obtain ⟨k1, k2, k3⟩ := sv_build hA9 (by omega) hPos hC' hE hL how
  have k4 : s_okV n C t T nS S (iN (P' n).1) (iN (P' n).2) (nI v) 60 := sv_okV hA9 (by omega) hPos (by rw [hPn]; exact hC') hE how (by omega) b5
  rw [hPn] at k1 k2 k3 k4
  refine ⟨k4, ?_, ?_, t', P', L', St', f', hPe, hPn, hA9, how, hl1, k1, hA', hM', k2, hC', fun i hi => ?_, fun i hi => ?_, k3, hnm, by omega, (eu_how hA9 how hu).1⟩
  · unfold x_okBd
    rw [pl, hgt_t v hv, hcn, if_pos rfl, if_pos rfl, if_pos (show nI n < 16 from (nI_ltI (a := n) (b := 16) (by omega) (by decide)).mpr (by omega)), if_neg (by decide)]
  · unfold x_okWd
    rw [pl, hcn, if_pos rfl, if_neg (by decide)]
  · rw [setH_nI (by omega), upd_if]
    unfold s_more
    by_cases w : i = n
    · rw [if_pos w, if_pos w]; rfl
    · rw [if_neg w, if_neg w]; exact h2 i (by omega)
  · rw [setH_nI (by omega), upd_if]
    show (if i = n then nI v else hs i) = nI (if i = n then v else z i) ∧ (if i = n then v else z i) < 100
    by_cases w : i = n
    · rw [if_pos w, if_pos w]; exact ⟨rfl, hv⟩
    · rw [if_neg w, if_neg w]; exact hz i (by omega)
end LT
