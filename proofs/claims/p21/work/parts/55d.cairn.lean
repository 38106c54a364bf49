/-! what the law asks behind act, for i % 3 = 0: a new cairn -/
theorem p30_all : ∀ a : Nat, a < 31 → ∀ b : Nat, b < 31 → l_p30 (nI a) (nI b) = decide (a = 0 ∨ a = 30 ∨ b = 0 ∨ b = 30) := by decide +kernel
theorem p30 {a b : Nat} (ha : a < 31) (hb : b < 31) {p : g_P} (hp : p = ((a : Int), (b : Int))) : l_p30 (nI a) (nI b) = decide (bdP p) := by
  rw [p30_all a ha b hb, decide_eq_decide, hp]
  show _ ↔ ((a : Int) = 0 ∨ (a : Int) = 30 ∨ (b : Int) = 0 ∨ (b : Int) = 30)
  omega
section CA
variable {n t : Nat} {xs ys lf sy co hs : Nat → Int32} {P : Nat → g_P} {L : Nat → Nat → Option Nat} {St : Nat → Nat → Bool} {f : Nat → Nat}
theorem cF3 (h : ti_A (n + 1) t P L St f) (hm : ti_m (n + 1) t P L St f xs ys lf sy co) : x_cFact (n + 1) xs ys lf hs (nI n) 3 = nI (rg_ct (fun x => eB L x n) n) := by
  have hn := h.n17
  unfold x_cFact
  rw [if_neg (by decide), if_neg (by decide), if_neg (by decide), if_pos rfl]
  show nI (rg_ct (m_pEdge lf (nI n)) (n + 1)) = _
  have e : ∀ j, j < n + 1 → m_pEdge lf (nI n) j = eB L j n := fun j hj => by
    rw [eB_swap]
    exact m_edge_eq h hm.2.1 (by omega) (by omega)
  rw [rg_ct_f (by rw [e n (by omega)]; unfold eB; rw [h.irr n]; rfl), rg_ct_congr (fun j hj => e j (by omega))]
end CA
set_option maxHeartbeats 2000000 in
theorem lR_b0 (u : lX) (v : lS) (x : Int32) (h : lR 15 u v) : q_b0 (lR 15) u v x := by
  obtain ⟨hs, fx, n, t, xs, ys, lf, sy, co, n2, t2, xs2, ys2, lf2, sy2, co2⟩ := u
  obtain ⟨nC, C, nT, T, nS, S, fl⟩ := v
  have hR := h
  obtain ⟨e1, e2, e3, P, L, St, f, z, hT⟩ := h
  subst e1 e2 e3
  obtain ⟨b1, b2, b3, b4, b5⟩ := lT_bd hT (Nat.le_refl 15)
  have hn := hT.1.n17
  obtain ⟨p9, ep⟩ : ∃ k, k = l_bel (x >>> (2 &&& 31)) 31 := ⟨_, rfl⟩
  obtain ⟨q9, eq⟩ : ∃ k, k = l_bel (x >>> (4 &&& 31)) 31 := ⟨_, rfl⟩
  have hp9 : p9 < 31 := by rw [ep]; exact l_bel_lt (by decide)
  have hq9 : q9 < 31 := by rw [eq]; exact l_bel_lt (by decide)
  unfold q_b0
  refine ⟨p9, q9, ⟨by omega, by omega⟩, ⟨by omega, by omega⟩, by omega, ⟨by omega, by omega⟩, by omega, lT_okF hT, lT_okR hT, hR, ep, eq, lT_euler hT fx, fun h15 hcat => ?_⟩
  have hn14 : n + 1 ≤ 15 := by
    rcases Nat.lt_or_ge n 15 with w | w
    · exact w
    · exact absurd ((nI_leI (a := 15) (b := n) (by decide) (by omega)).mpr w) h15
  obtain ⟨p, epp⟩ : ∃ p : g_P, p = ((p9 : Int), (q9 : Int)) := ⟨_, rfl⟩
  have l30 := p30 hp9 hq9 epp
  have ex : nI p9 = iN p.1 := by rw [epp]; exact iN_nI p9
  have ey : nI q9 = iN p.2 := by rw [epp]; exact iN_nI q9
  have hp : tr_sq p := by
    rw [epp]
    exact ⟨by show (0 : Int) ≤ (p9 : Int); omega, by show (p9 : Int) ≤ 30; omega, by show (0 : Int) ≤ (q9 : Int); omega, by show (q9 : Int) ≤ 30; omega⟩
  rw [l30]
  rw [ex, ey] at hcat ⊢
  obtain ⟨k, hk, fe, hcB⟩ := find_m hT.1 hT.2.1 hp
  obtain ⟨v, hv, hh⟩ := height_bd hT.1 hT.2.1 (by omega) hp hT.2.2.2.2.2.1
  obtain ⟨g1, g2, g3, t', P', L9, St9, f9, g4, g5, g6, g7, g8, g9, g10⟩ := lT_build hT hn14 (Nat.le_refl 15) hp hcat hv
  unfold m_inLf2 at g8 g10
  unfold m_inSy2 at g10
  rw [g8]
  obtain ⟨c0, c1, c2⟩ := m_corner_eq hT.2.1.2.2.2 (ti_t28 hT.1) hk
  obtain ⟨k1, k2, k3, -, -⟩ := ti_k hT.1 hk
  have hPos := g10.1.ok.pos
  have t28 := g10.1.t2
  obtain ⟨v1', v2'⟩ := g10.2.2.2.2.2.2.2.2.2
  have u2 := hT.2.2.2.2.2.2.2.2.2
  have u1' := u2.1
  have u2' := u2.2
  have J : eB L9 n (f k / 32 / 32) = true ∧ eB L9 n (f k / 32 % 32) = true ∧ eB L9 n (f k % 32) = true := by
    have hc' : cB (P' (f k / 32 / 32)) (P' (f k / 32 % 32)) (P' (f k % 32)) (P' n) = true := by
      rw [g4 _ (by omega), g4 _ (by omega), g4 _ k3, g5]; exact hcB
    obtain ⟨x, y, w, e, s, q⟩ := (cB_face g6 hk).mp hc'
    obtain ⟨j1, j2, j3⟩ := join_how g6 hPos g7 e q
    obtain ⟨hx, hy, hw, -⟩ := g6.ok.tri _ _ _ e
    rcases sc_perm (a := x) (b := y) (c := w) (by omega) (by omega) (by omega) with ⟨q0, q1, q2⟩ | ⟨q0, q1, q2⟩ | ⟨q0, q1, q2⟩ | ⟨q0, q1, q2⟩ | ⟨q0, q1, q2⟩ | ⟨q0, q1, q2⟩ <;> rw [s, q0, q1, q2]
    · exact ⟨j1, j2, j3⟩
    · exact ⟨j1, j3, j2⟩
    · exact ⟨j2, j1, j3⟩
    · exact ⟨j2, j3, j1⟩
    · exact ⟨j3, j1, j2⟩
    · exact ⟨j3, j2, j1⟩
  have bd := bd_how g6 hPos g7
  rw [g5] at bd
  obtain ⟨-, d3, d4⟩ := eu_how g6 g7 u2
  have hn' : n + 1 ≤ 17 := by omega
  have ed : ∀ j, j < n → eB L9 n j = true → x_okEd (n + 1) (nI n) (nI j) 0 = true := fun j hj _ => okEd_t hn' (a := n) (b := j) (w := 0) (by omega) (by omega) (by decide)
  refine ⟨nI k, nI (f k / 32 / 32), nI (f k / 32 % 32), nI (f k % 32), nI v, _, place_t hp, fe, ⟨okTr_t (ti_t28 hT.1) hk (w := 0) (by decide), ?_⟩, ⟨okTr_t (ti_t28 hT.1) hk (w := 1) (by decide), ?_⟩, ⟨okTr_t (ti_t28 hT.1) hk (w := 2) (by decide), ?_⟩, hh, ⟨g3, fun _ w => nI_m19w (show k < 2 ^ 31 by omega) (fe.symm.trans w), rfl⟩, g1, g2, by omega, cn5 fx, ?_, ⟨ed _ (by omega) J.1, ?_⟩, ⟨ed _ (by omega) J.2.1, ?_⟩, ⟨ed _ k3 J.2.2, ?_⟩, ?_, ?_, okTd_t hn' (a := n) (w := 3) (by omega) (by decide), ?_, ?_, rfl, g9.symm, rfl, P', L9, St9, f9, (fun i => if i = n then v else z i), g10⟩
  · unfold x_tFact
    rw [if_neg (by decide)]
    exact c0
  · unfold x_tFact
    rw [if_neg (by decide)]
    exact c1
  · unfold x_tFact
    rw [if_neg (by decide)]
    exact c2
  · have e := height_new g6 hPos g7 g10.1 g10.2.1 (by omega) g10.2.2.2.2.2.1
    rw [g5] at e
    exact e.trans (congrArg nI (if_pos rfl))
  · have e := (eThat g10.1 g10.2.1 (a := n) (b := f k / 32 / 32) (by omega) (by omega)).1
    rw [J.1] at e
    exact congrArg bI e
  · have e := (eThat g10.1 g10.2.1 (a := n) (b := f k / 32 % 32) (by omega) (by omega)).1
    rw [J.2.1] at e
    exact congrArg bI e
  · have e := (eThat g10.1 g10.2.1 (a := n) (b := f k % 32) (by omega) (by omega)).1
    rw [J.2.2] at e
    exact congrArg bI e
  · rw [cn2, cn2, cn3, cn3, edges0 g10.1 g10.2.1, edges0 hT.1 hT.2.1, edges1 g10.1 g10.2.1, edges1 hT.1 hT.2.1]
    simp only [iN_nI, show (3 : Int32) = iN 3 from rfl, iN_add, iN_sub]
    refine congrArg iN ?_
    omega
  · rw [cn3, cn3, edges1 g10.1 g10.2.1, edges1 hT.1 hT.2.1]
    rcases bd with ⟨w1, w2⟩ | ⟨w1, w2⟩
    · rw [decide_eq_false w2, show bcn L9 (n + 1) = bcn L n by omega, Int32.sub_self]; rfl
    · rw [decide_eq_true w2, show bcn L9 (n + 1) = bcn L n + 1 by omega]
      simp only [iN_nI, iN_sub]
      show iN _ = iN 1
      refine congrArg iN ?_
      omega
  · rw [cF3 g10.1 g10.2.1]
    intro w
    have := (nI_ltI (a := rg_ct (fun x => eB L9 x n) n) (b := 3) (by omega) (by decide)).mp w
    omega
  · rw [cF3 g10.1 g10.2.1]
    exact (nI_leI (a := rg_ct (fun x => eB L9 x n) n) (b := 4) (by omega) (by decide)).mpr (by omega)
