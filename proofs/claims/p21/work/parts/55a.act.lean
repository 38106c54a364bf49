/-! a step of the law keeps the relation -/
theorem l_place (c : Prop) [Decidable c] (u v : Int32) : ∃ w : Int, 0 ≤ w ∧ w ≤ 30 ∧ (if c then (1 : Int32) * nI (l_bel u 31) else (5 : Int32) * nI (l_bel v 7)) = iN w := by
  have h1 := l_bel_lt (v := u) (n := 31) (by decide)
  have h2 := l_bel_lt (v := v) (n := 7) (by decide)
  by_cases w : c
  · rw [if_pos w]
    exact ⟨(l_bel u 31 : Nat), by omega, by omega, by rw [show (1 : Int32) = nI 1 from rfl, pk_mul, Nat.one_mul, iN_nI]⟩
  · rw [if_neg w]
    exact ⟨((5 * l_bel v 7 : Nat) : Int), by omega, by omega, by rw [show (5 : Int32) = nI 5 from rfl, pk_mul, iN_nI]⟩
section AC
variable {m n t : Nat} {hs xs ys lf sy co : Nat → Int32} {C T S : Nat → Nat → Int32} {nS : Nat} {P : Nat → g_P} {L : Nat → Nat → Option Nat} {St : Nat → Nat → Bool} {f z : Nat → Nat}
theorem lT_raise (h : lT m hs n t xs ys lf sy co C T nS S P L St f z) (hm : m ≤ 15) {c v : Nat} (hc : c < n) (hv : v < 100) : x_okRs n (nI c) (nI v) = true ∧ x_hOf hs (nI c) = C c 2 ∧ lT m (x_setH hs (nI c) (nI v)) n t xs ys lf sy co (s_more C c (s3 (C c 0) (C c 1) (nI v))) T nS S P L St f (fun i => if i = c then v else z i) := by
  obtain ⟨b1, b2, b3, b4, b5⟩ := lT_bd h hm
  obtain ⟨hA, hM, hE, hC, h2, hz, hL, hnm, ht, hu⟩ := h
  refine ⟨?_, ?_, hA, hM, hE, fun i hi => ?_, fun i hi => ?_, fun i hi => ?_, hL, hnm, ht, hu⟩
  · unfold x_okRs
    rw [m_cairn_eq (by omega) (by omega), decide_eq_true hc, if_pos rfl, hgt_t v hv]
  · rw [x_hOf_nI (by omega), h2 c hc]
  · unfold s_more
    by_cases w : i = c
    · rw [if_pos w, w]; exact hC c hc
    · rw [if_neg w]; exact hC i hi
  · rw [setH_nI (by omega), upd_if]
    unfold s_more
    by_cases w : i = c
    · rw [if_pos w, if_pos w]; rfl
    · rw [if_neg w, if_neg w]; exact h2 i hi
  · rw [setH_nI (by omega), upd_if]
    show (if i = c then nI v else hs i) = nI (if i = c then v else z i) ∧ (if i = c then v else z i) < 100
    by_cases w : i = c
    · rw [if_pos w, if_pos w]; exact ⟨rfl, hv⟩
    · rw [if_neg w, if_neg w]; exact hz i hi
theorem lT_fix (h : lT m hs n t xs ys lf sy co C T nS S P L St f z) {a b : Nat} (ha : a < n) (hb : b < n) (e : eB L a b = true) (v : Bool) : m_mustStay n sy (nI a) (nI b) = s_stay nS S (nI a) (nI b) ∧ lT m hs n t xs ys lf (m_setSt n sy (nI a) (nI b) (bI v)) co C T (s_fixS nS S (nI a) (nI b) v).1 (s_fixS nS S (nI a) (nI b) v).2 P L (st_set St a b v) f z := by
  obtain ⟨hA, hM, hE, hC, h2, hz, hL, hnm, ht, hu⟩ := h
  have hn := hA.n17
  refine ⟨?_, ⟨hA.ok, hA.n4, hA.n17, hA.t2, hA.en, fun x y q => ?_, st_set_sym hA.sym a b v⟩, ⟨hM.1, hM.2.1, setSt_eq hn hM.2.2.1 ha hb v, hM.2.2.2⟩, hE, hC, h2, hz, ?_, hnm, ht, hu⟩
  · rw [m_stay_eq hn hM.2.2.1 ha hb, stay_eq hA hL a b ha hb]
  · unfold st_set at q
    split at q
    · rename_i w
      have hE := eB_E.mp e
      rcases w with ⟨rfl, rfl⟩ | ⟨rfl, rfl⟩
      · exact hE
      · exact hE.symm
    · exact hA.ed x y q
  · exact (hL.fix (a := a) (b := b) (by omega) (by omega) v).congr (fun x => qS_set hA.sym (by omega) (by omega) v x)
end AC
set_option maxHeartbeats 1000000 in
theorem lR_act {m M N : Nat} (h13 : 13 ≤ m) (hm : m ≤ 15) (hfin : ∀ n : Nat, n < m + 1 → ∀ t : Nat, t < 2 * m - 5 → (n + n * (n - 1) / 2 - 2 * t) * (n * (n - 1) / 2 + 7 * t + 10) ≤ M ∧ (n + n * (n - 1) / 2 - 2 * t) * (2 * (n * (n - 1) / 2) + 18 * t + 20) ≤ N) (hM0 : 600 ≤ M) (hN0 : 25000 ≤ N) (u : lX) (v : lS) (x : Int32) (h : lR m u v) : q_act (lR m) M N u v x := by
  obtain ⟨hs, fx, n, t, xs, ys, lf, sy, co, n2, t2, xs2, ys2, lf2, sy2, co2⟩ := u
  obtain ⟨nC, C, nT, T, nS, S, fl⟩ := v
  have hR := h
  obtain ⟨e1, e2, e3, P, L, St, f, z, hT⟩ := h
  subst e1 e2 e3
  obtain ⟨b1, b2, b3, b4, b5⟩ := lT_bd hT hm
  have okF := lT_okF hT
  have okR := lT_okR hT
  obtain ⟨W1, V1, mW, mV, s2, s3', s4, L', f', s5, -⟩ := lT_settle hT hfin
  obtain ⟨kT, ekT⟩ : ∃ k, k = l_bel (x >>> (2 &&& 31)) t := ⟨_, rfl⟩
  obtain ⟨jT, ejT⟩ : ∃ k, k = l_bel x 3 := ⟨_, rfl⟩
  obtain ⟨c9, ec9⟩ : ∃ k, k = l_bel x n := ⟨_, rfl⟩
  obtain ⟨z9, ez9⟩ : ∃ k, k = l_bel (x >>> (3 &&& 31)) 100 := ⟨_, rfl⟩
  obtain ⟨o9, eo9⟩ : ∃ k, k = l_bel (x >>> (4 &&& 31)) 3 := ⟨_, rfl⟩
  obtain ⟨p1, p2, p3, ep⟩ := l_place (nI (l_bel (x >>> (7 &&& 31)) 2) = 0) (x >>> (1 &&& 31)) (x >>> (1 &&& 31))
  obtain ⟨q1, q2, q3, eq⟩ := l_place (nI (l_bel (x >>> (7 &&& 31)) 2) = 0) (x >>> (5 &&& 31)) (x >>> (5 &&& 31))
  have hkT : kT < t := by rw [ekT]; exact l_bel_lt (by omega)
  have hjT : jT < 3 := by rw [ejT]; exact l_bel_lt (by decide)
  have hc9 : c9 < n := by rw [ec9]; exact l_bel_lt (by omega)
  have hz9 : z9 < 100 := by rw [ez9]; exact l_bel_lt (by decide)
  obtain ⟨a, b, ha, hb, eab, ea, eb⟩ := lT_side hT hkT hjT
  obtain ⟨r1, r2, r3⟩ := lT_raise hT hm hc9 hz9
  obtain ⟨f1, f2⟩ := lT_fix hT ha hb eab (l_z (nI o9))
  unfold q_act
  refine ⟨W1, V1, kT, jT, c9, z9, o9, T kT jT, T kT ((jT + 1) % 3), iN p1, iN q1, hM0, hN0, ⟨by omega, by omega⟩, ⟨by omega, by omega⟩, by omega, by omega, by omega, okF, okR, ekT, ejT, rfl, rfl, ec9, ez9, eo9, ep.symm, eq.symm, mW, mV, hR, ?_, ?_, ?_, ?_, ?_⟩
  · exact ⟨r1, r2, rfl, rfl, rfl, P, L, St, f, _, r3⟩
  · rw [ea, eb]
    exact ⟨okFx_t hT ha hb eab, f1, rfl, rfl, rfl, P, L, _, f, z, f2⟩
  · rw [ea, eb]
    intro hfl
    rw [sv_flp hT.1 (tb := rfP f) (fun _ _ => rfl) (hT.2.2.1.rows hT.1.en).1 hT.2.2.2.1 (stay_eq hT.1 hT.2.2.2.2.2.2.1 a b ha hb) ha hb] at hfl
    obtain ⟨c, d, f9, hc, hd, l1, l2, hq, w1, w2, w3, w4, w5, w6, w7⟩ := lT_flip hT ha hb hfl
    refine ⟨okFl_t hT ha hb hfl, w4.trans w3.symm, rfl, ?_, rfl, P, tr_flip L a b c d, St, f9, z, ?_⟩
    · rw [w5, w6]
    · rw [w5]; exact w7
  · refine ⟨s2, rfl, ?_, rfl, P, L', St, f', z, ?_⟩
    · rw [s3', s4]
    · rw [s3']; exact s5
  · intro hn13 hcat
    have hn12 : n < 13 := by
      rcases Nat.lt_or_ge n 13 with w | w
      · exact w
      · exact absurd ((nI_leI (a := 13) (b := n) (by decide) (by omega)).mpr w) hn13
    have hp : tr_sq (p1, q1) := ⟨p2, p3, q2, q3⟩
    obtain ⟨g1, g2, g3, t', P', L9, St9, f9, g4, g5, g6, g7, g8, g9, g10⟩ := lT_build hT (by omega) hm (p := (p1, q1)) hp hcat hz9
    refine ⟨g1, g2, fun _ w => ?_, rfl, rfl, ?_, rfl, P', L9, St9, f9, (fun i => if i = n then z9 else z i), ?_⟩
    · obtain ⟨k, hk, fe, -⟩ := find_m hT.1 hT.2.1 hp
      exact nI_m19w (by omega) (fe.symm.trans w)
    · exact g8.trans g9.symm
    · have g8' : (m_list (n + 1) (m_inLf n (m_ac n xs (iN p1)) (m_ac n ys (iN q1)) lf (m_corner co (m_find t xs ys co (iN p1) (iN q1)) 0) (m_corner co (m_find t xs ys co (iN p1) (iN q1)) 1) (m_corner co (m_find t xs ys co (iN p1) (iN q1)) 2) (iN p1) (iN q1)) co).1 = t' := g8
      rw [g8']
      exact g10
theorem lR_act13 (u : lX) (v : lS) (x : Int32) (h : lR 13 u v) : q_act (lR 13) 11800 27500 u v x := lR_act (by decide) (by decide) fin13 (by decide) (by decide) u v x h
theorem lR_act15 (u : lX) (v : lS) (x : Int32) (h : lR 15 u v) : q_act (lR 15) 20444 47664 u v x := lR_act (by decide) (by decide) fin15 (by decide) (by decide) u v x h
theorem lR_up (u : lX) (v : lS) (h : lR 13 u v) : lR 15 u v := by
  obtain ⟨hs, fx, n, t, xs, ys, lf, sy, co, n2, t2, xs2, ys2, lf2, sy2, co2⟩ := u
  obtain ⟨nC, C, nT, T, nS, S, fl⟩ := v
  obtain ⟨e1, e2, e3, P, L, St, f, z, hA, hM, hE, hC, h2, hz, hL, hnm, ht, hu⟩ := h
  exact ⟨e1, e2, e3, P, L, St, f, z, hA, hM, hE, hC, h2, hz, hL, by omega, ht, hu⟩
