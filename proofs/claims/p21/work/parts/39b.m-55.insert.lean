/-! a new cairn: the whole of it -/
section I
variable {n t : Nat} {P : Nat → g_P} {L L' : Nat → Nat → Option Nat} {St St' : Nat → Nat → Bool} {f : Nat → Nat} {xs ys lf sy co : Nat → Int32} {xr yr tb : Nat → Int32} {sg : Nat → Nat → Int32}
def in_3r (L : Nat → Nat → Option Nat) (n a b c : Nat) : Nat → Nat → Option Nat := tr_put (tr_put (tr_put (tr_del L a c b) a n b) b n c) c n a
theorem in_3r_iff (h : tr_Tri n P L) {a b c : Nat} (e : L a c = some b) (x y z : Nat) : in_3r L n a b c x y = some z ↔ (tr_rot a c n x y z ∨ tr_rot c b n x y z ∨ tr_rot b a n x y z) ∨ (L x y = some z ∧ ¬ tr_rot a c b x y z) := by
  obtain ⟨ha, hc, hb, hp, e1⟩ := h a c b e
  obtain ⟨n1, n2, n3⟩ := tr_ne hp
  have e2 := h.rot2 e
  have a1 : a ≠ n := by omega
  have a2 : b ≠ n := by omega
  have a3 : c ≠ n := by omega
  have k1 := (tr_new h a).1
  have k2 := (tr_new h a).2
  have k3 := (tr_new h b).1
  have k4 := (tr_new h b).2
  have k5 := (tr_new h c).1
  have k6 := (tr_new h c).2
  clear h hp ha hb hc
  unfold in_3r tr_put tr_del tr_set3 tr_rot
  grind (splits := 80)
theorem in_case (h : ti_A n t P L St f) (hn : n ≤ 16) (hP : tr_Pos (n + 1) P) (hm : ti_X (n + 1) P xs ys) (hL : ti_L L lf) (hX : ti_X n P xr yr) (hT : ti_T t f tb) (hG : ti_G St sg) {a b c : Nat} (hab : a < b) (hbc : b < c) (hf : (L a b = some c ∧ 0 < gO (P a) (P b) (P n) ∧ 0 < gO (P b) (P c) (P n) ∧ 0 < gO (P c) (P a) (P n)) ∨ (L a c = some b ∧ gO (P a) (P b) (P n) < 0 ∧ gO (P b) (P c) (P n) < 0 ∧ gO (P c) (P a) (P n) < 0)) : ti_new n t P St (m_addT (n + 1) xs ys (m_addT (n + 1) xs ys (m_addT (n + 1) xs ys (m_remT (n + 1) xs ys lf (nI a) (nI b) (nI c)) (nI a) (nI b) (nI n)) (nI b) (nI c) (nI n)) (nI c) (nI a) (nI n)) xr yr tb sg := by
  have hp : tr_sq (P n) := hP.1 n (by omega)
  have h17 := h.n17
  have ht2 := h.t2
  have cov : ∀ (x y w : Nat), L x y = some w → gIn (P x) (P y) (P w) (P n) → ∀ j, j < t → (r_pCov xr yr tb (iN (P n).1) (iN (P n).2) j = true ↔ f j = sc x y w) := by
    intro x y w e z j hj
    rw [pCov_eq h hX hT hp hj, cB_face h hj]
    constructor
    · rintro ⟨x', y', w', e', s, q⟩
      exact s.trans (rot_sc (tr_one h.ok hp e z e' q))
    · intro s
      exact ⟨x, y, w, e, s, z.w⟩
  rcases hf with ⟨e, z1, z2, z3⟩ | ⟨e, z1, z2, z3⟩
  · obtain ⟨ha, hb, hc, g1, -⟩ := h.ok.tri _ _ _ e
    have hiff := in_3_iff (n := n) h.ok.tri e
    obtain ⟨r1, r2, ⟨f', r3, r4⟩, r5, -⟩ := ref_3 h hn hX hT hG hp hab hbc hc ⟨a, b, c, e, rfl⟩ (by omega) (by omega) (by omega) (cov a b c e ⟨z1, z2, z3⟩)
    have hA : ti_A (n + 1) (t + 2) P (in_3 L n a b c) St f' := ⟨h.ok.ins3 hP e z1 z2 z3 hiff, by omega, by omega, by omega, r3.congr (fun z => tr_S_in3 h.ok.tri h17 e hiff z) (fun _ _ => rfl), fun i j q => E_in3 hiff (h.ed i j q), h.sym⟩
    refine ⟨r1, t + 2, _, f', by omega, hA, ?_, r2, r4, adSg_eq hA r2 r4 r5 (fun _ _ _ => rfl)⟩
    exact addT_l hm (by omega) hP.1 (addT_l hm (by omega) hP.1 (addT_l hm (by omega) hP.1 (remT_l hm (by omega) hP.1 hL (a := a) (b := b) (c := c) (by omega) (by omega) (by omega) g1) (a := a) (b := b) (c := n) (by omega) (by omega) (by omega) z1) (a := b) (b := c) (c := n) (by omega) (by omega) (by omega) z2) (a := c) (b := a) (c := n) (by omega) (by omega) (by omega) z3
  · obtain ⟨ha, hc, hb, g1, -⟩ := h.ok.tri _ _ _ e
    have s1 := gO_swap (P a) (P b) (P n)
    have s2 := gO_swap (P b) (P c) (P n)
    have s3 := gO_swap (P c) (P a) (P n)
    have s4 := gO_swap2 (P a) (P b) (P c)
    have hiff := in_3r_iff (n := n) h.ok.tri e
    obtain ⟨r1, r2, ⟨f', r3, r4⟩, r5, -⟩ := ref_3 h hn hX hT hG hp hab hbc hc ⟨a, c, b, e, (sc_swap2 _ _ _).symm⟩ (by omega) (by omega) (by omega) (fun j hj => (cov a c b e ⟨by omega, by omega, by omega⟩ j hj).trans (by rw [sc_swap2 a b c]))
    have hA : ti_A (n + 1) (t + 2) P (in_3r L n a b c) St f' := by
      refine ⟨h.ok.ins3 hP e (by omega) (by omega) (by omega) hiff, by omega, by omega, by omega, r3.congr (fun z => ?_) (fun _ _ => rfl), fun i j q => E_in3 hiff (h.ed i j q), h.sym⟩
      rw [tr_S_in3 h.ok.tri h17 e hiff z, sc_swap2 a b c, sc_swap c a n, sc_swap b c n, sc_swap a b n]
      constructor
      · rintro (((q | q) | q) | q)
        · exact Or.inl (Or.inl (Or.inl q))
        · exact Or.inr q
        · exact Or.inl (Or.inr q)
        · exact Or.inl (Or.inl (Or.inr q))
      · rintro (((q | q) | q) | q)
        · exact Or.inl (Or.inl (Or.inl q))
        · exact Or.inr q
        · exact Or.inl (Or.inr q)
        · exact Or.inl (Or.inl (Or.inr q))
    refine ⟨r1, t + 2, _, f', by omega, hA, ?_, r2, r4, adSg_eq hA r2 r4 r5 (fun _ _ _ => rfl)⟩
    exact addT_r hm (by omega) hP.1 (addT_r hm (by omega) hP.1 (addT_r hm (by omega) hP.1 (remT_r hm (by omega) hP.1 hL (a := a) (b := b) (c := c) (by omega) (by omega) (by omega) (by omega)) (a := a) (b := b) (c := n) (by omega) (by omega) (by omega) z1) (a := b) (b := c) (c := n) (by omega) (by omega) (by omega) z2) (a := c) (b := a) (c := n) (by omega) (by omega) (by omega) z3
theorem ti_A.congr {P' : Nat → g_P} (h : ti_A n t P L St f) (e : ∀ i, i < n → P' i = P i) : ti_A n t P' L St f := ⟨tr_Ok.congr h.ok e, h.2⟩
theorem ti_X.congr {P' : Nat → g_P} (h : ti_X n P xs ys) (e : ∀ i, i < n → P' i = P i) : ti_X n P' xs ys := fun i hi => by rw [e i hi]; exact h i hi
theorem ac_eq (hn : n < 2 ^ 31) {x : Int32} (i : Nat) : m_ac n xs x i = if i = n then x else xs i := by
  unfold m_ac; rw [nI_clamp hn, upd_if]
theorem ac_X {p : g_P} (hn : n ≤ 16) (h : ti_X n P xs ys) : ti_X (n + 1) (fun i => if i = n then p else P i) (m_ac n xs (iN p.1)) (m_ac n ys (iN p.2)) := by
  intro i hi
  rw [ac_eq (by omega), ac_eq (by omega)]
  by_cases e : i = n
  · subst e; rw [if_pos rfl, if_pos rfl]; simp
  · rw [if_neg e, if_neg e]
    have : (fun i => if i = n then p else P i) i = P i := if_neg e
    rw [this]
    exact h i (by omega)
/-- building: class and reference stay together -/
theorem insert_tie (h : ti_A n t P L St f) (hm : ti_m n t P L St f xs ys lf sy co) (hr : ti_r n t P St f xr yr tb sg) (hn : n ≤ 16) {p : g_P} (hp : tr_sq p) (hno : ∀ i, i < n → P i ≠ p) : r_okAd n t xr yr tb sg (iN p.1) (iN p.2) ∧ ∃ t' P' L' St' f', t + 1 ≤ t' ∧ (∀ i, i < n → P' i = P i) ∧ ti_A (n + 1) t' P' L' St' f' ∧ (m_list (n + 1) (m_inLf2 n t xs ys lf co (iN p.1) (iN p.2)) co).1 = t' ∧ ti_m (n + 1) t' P' L' St' f' (m_ac n xs (iN p.1)) (m_ac n ys (iN p.2)) (m_inLf2 n t xs ys lf co (iN p.1) (iN p.2)) (m_inSy2 n t xs ys sy co (iN p.1) (iN p.2)) (m_list (n + 1) (m_inLf2 n t xs ys lf co (iN p.1) (iN p.2)) co).2 ∧ (r_adS n t xr yr tb sg (iN p.1) (iN p.2)).1 = t' ∧ ti_r (n + 1) t' P' St' f' (m_ac n xr (iN p.1)) (m_ac n yr (iN p.2)) (r_adS n t xr yr tb sg (iN p.1) (iN p.2)).2.1 (r_adSg n t xr yr tb sg (iN p.1) (iN p.2)) := by
  obtain ⟨k, hk, fe, -, hcB⟩ := find_eq h hm hr hp
  obtain ⟨hX, hL, hS, hC⟩ := hm
  obtain ⟨hX', hT, hG⟩ := hr
  obtain ⟨k1, k2, k3, -, k5⟩ := ti_k h hk
  obtain ⟨c0, c1, c2⟩ := m_corner_eq hC (ti_t28 h) hk
  have h17 := h.n17
  -- the places, with the new one
  have hPe : ∀ i, i < n → (fun i => if i = n then p else P i) i = P i := fun i hi => if_neg (by omega)
  have hPn : (fun i => if i = n then p else P i) n = p := if_pos rfl
  have aX := ac_X (xs := xs) (ys := ys) (p := p) hn hX
  have aX' := ac_X (xs := xr) (ys := yr) (p := p) hn hX'
  have hPos : tr_Pos (n + 1) (fun i => if i = n then p else P i) := by
    refine ⟨fun i hi => ?_, fun i j hi hj q => ?_⟩
    · by_cases e : i = n
      · subst e; rw [hPn]; exact hp
      · rw [hPe i (by omega)]; exact h.sq i (by omega)
    · by_cases e : i = n
      · by_cases e2 : j = n
        · omega
        · subst e
          rw [hPn, hPe j (by omega)] at q
          exact absurd q.symm (hno j (by omega))
      · by_cases e2 : j = n
        · subst e2
          rw [hPn, hPe i (by omega)] at q
          exact absurd q (hno i (by omega))
        · rw [hPe i (by omega), hPe j (by omega)] at q
          exact h.ok.pos.2 i j (by omega) (by omega) q
  have h9 := h.congr hPe
  have hX9 := ti_X.congr hX' hPe
  generalize (fun i => if i = n then p else P i) = P' at *
  -- the corners of the triangle that has the place
  unfold cB at hcB
  rw [decide_eq_true_eq] at hcB
  unfold m_inLf2 m_inSy2
  rw [fe, c0, c1, c2]
  generalize f k / 32 / 32 = a at *
  generalize f k / 32 % 32 = b at *
  generalize f k % 32 = c at *
  have ea := hPe a (by omega)
  have eb := hPe b (by omega)
  have ec := hPe c (by omega)
  rw [← ea, ← eb, ← ec, ← hPn] at hcB
  have hface : (L a b = some c ∧ 0 < gO (P' a) (P' b) (P' c)) ∨ (L a c = some b ∧ 0 < gO (P' a) (P' c) (P' b)) := by
    rcases k5 with e | e
    · exact Or.inl ⟨e, (h9.ok.tri _ _ _ e).2.2.2.1⟩
    · exact Or.inr ⟨e, (h9.ok.tri _ _ _ e).2.2.2.1⟩
  have nec : ∀ i, i < n → P' n ≠ P' i := fun i hi q => by
    have := hPos.2 n i (by omega) (by omega) q
    omega
  have sm := gO_sum (P' a) (P' b) (P' c) (P' n)
  have sw := gO_swap2 (P' a) (P' b) (P' c)
  have sw1 := gO_swap (P' a) (P' b) (P' n)
  have sw2 := gO_swap (P' b) (P' c) (P' n)
  have sw3 := gO_swap (P' c) (P' a) (P' n)
  have rt1 := gO_rot (P' a) (P' b) (P' c)
  have rt2 := gO_rot (P' b) (P' c) (P' a)
  have rt3 := gO_rot (P' a) (P' c) (P' b)
  have rt4 := gO_rot (P' c) (P' b) (P' a)
  -- not on two sides at once
  have nc : ¬ (gO (P' a) (P' b) (P' n) = 0 ∧ gO (P' b) (P' c) (P' n) = 0) ∧ ¬ (gO (P' b) (P' c) (P' n) = 0 ∧ gO (P' c) (P' a) (P' n) = 0) ∧ ¬ (gO (P' c) (P' a) (P' n) = 0 ∧ gO (P' a) (P' b) (P' n) = 0) := by
    rcases hface with ⟨-, g⟩ | ⟨-, g⟩
    · exact ⟨fun q => nec b (by omega) (g_corner g q.1 q.2), fun q => nec c (by omega) (g_corner (a := P' b) (b := P' c) (c := P' a) (by omega) q.1 q.2), fun q => nec a (by omega) (g_corner (a := P' c) (b := P' a) (c := P' b) (by omega) q.1 q.2)⟩
    · refine ⟨fun q => nec b (by omega) (g_corner (a := P' c) (b := P' b) (c := P' a) (by omega) (by omega) (by omega)), fun q => nec c (by omega) (g_corner (a := P' a) (b := P' c) (c := P' b) g (by omega) (by omega)), fun q => nec a (by omega) (g_corner (a := P' b) (b := P' a) (c := P' c) (by omega) (by omega) (by omega))⟩
  obtain ⟨nc1, nc2, nc3⟩ := nc
  have z1 : m_turn (m_ac n xs (iN p.1)) (m_ac n ys (iN p.2)) (nI a) (nI b) (iN p.1) (iN p.2) = 0 ↔ gO (P' a) (P' b) (P' n) = 0 := by
    rw [m_turn_eq aX (by omega) (by omega) (by omega), hPn]
    have := gO_bd (hPos.1 a (by omega)) (hPos.1 b (by omega)) hp
    exact iN_eq (b := 0) (by omega) (by decide)
  have z2 : m_turn (m_ac n xs (iN p.1)) (m_ac n ys (iN p.2)) (nI b) (nI c) (iN p.1) (iN p.2) = 0 ↔ gO (P' b) (P' c) (P' n) = 0 := by
    rw [m_turn_eq aX (by omega) (by omega) (by omega), hPn]
    have := gO_bd (hPos.1 b (by omega)) (hPos.1 c (by omega)) hp
    exact iN_eq (b := 0) (by omega) (by decide)
  have z3 : m_turn (m_ac n xs (iN p.1)) (m_ac n ys (iN p.2)) (nI c) (nI a) (iN p.1) (iN p.2) = 0 ↔ gO (P' c) (P' a) (P' n) = 0 := by
    rw [m_turn_eq aX (by omega) (by omega) (by omega), hPn]
    have := gO_bd (hPos.1 c (by omega)) (hPos.1 a (by omega)) hp
    exact iN_eq (b := 0) (by omega) (by decide)
  have fin : ∀ (lf' sy' : Nat → Int32) (St' : Nat → Nat → Bool), ti_new n t P' St' lf' xr yr tb sg → ti_S St' sy' → r_okAd n t xr yr tb sg (iN p.1) (iN p.2) ∧ ∃ t' P' L' St' f', t + 1 ≤ t' ∧ (∀ i, i < n → P' i = P i) ∧ ti_A (n + 1) t' P' L' St' f' ∧ (m_list (n + 1) lf' co).1 = t' ∧ ti_m (n + 1) t' P' L' St' f' (m_ac n xs (iN p.1)) (m_ac n ys (iN p.2)) lf' sy' (m_list (n + 1) lf' co).2 ∧ (r_adS n t xr yr tb sg (iN p.1) (iN p.2)).1 = t' ∧ ti_r (n + 1) t' P' St' f' (m_ac n xr (iN p.1)) (m_ac n yr (iN p.2)) (r_adS n t xr yr tb sg (iN p.1) (iN p.2)).2.1 (r_adSg n t xr yr tb sg (iN p.1) (iN p.2)) := by
    intro lf' sy' St' hnew hS'
    unfold ti_new at hnew
    rw [hPn] at hnew
    obtain ⟨q1, t', L', f', q2, q3, q4, q5, q6, q7⟩ := hnew
    obtain ⟨l1, l2⟩ := list_eq q3.ok.tri q3.n17 q4 q3.en (ti_t28 q3) co
    exact ⟨q1, t', P', L', St', f', q2, hPe, q3, l1, ⟨aX, q4, hS', l2⟩, q5, aX', q6, q7⟩
  unfold m_inLf m_inSy
  by_cases w1 : gO (P' a) (P' b) (P' n) = 0
  · rw [if_pos (z1.mpr w1), if_pos (z1.mpr w1)]
    refine fin _ _ (cutSt St n a b) (cut_case (c := c) h9 hn hPos aX hL hX9 hT hG (by omega) w1 ?_) (cESy_eq hn hS (by omega) (by omega))
    rcases hface with ⟨e, g⟩ | ⟨e, g⟩
    · exact Or.inl ⟨e, by omega, by omega⟩
    · exact Or.inr ⟨h9.ok.tri.rot2 e, by omega, by omega⟩
  · rw [if_neg (fun q => w1 (z1.mp q)), if_neg (fun q => w1 (z1.mp q))]
    by_cases w2 : gO (P' b) (P' c) (P' n) = 0
    · rw [if_pos (z2.mpr w2), if_pos (z2.mpr w2)]
      refine fin _ _ (cutSt St n b c) (cut_case (c := a) h9 hn hPos aX hL hX9 hT hG (by omega) w2 ?_) (cESy_eq hn hS (by omega) (by omega))
      rcases hface with ⟨e, g⟩ | ⟨e, g⟩
      · exact Or.inl ⟨h9.ok.tri.rot e, by omega, by omega⟩
      · exact Or.inr ⟨h9.ok.tri.rot e, by omega, by omega⟩
    · rw [if_neg (fun q => w2 (z2.mp q)), if_neg (fun q => w2 (z2.mp q))]
      by_cases w3 : gO (P' c) (P' a) (P' n) = 0
      · rw [if_pos (z3.mpr w3), if_pos (z3.mpr w3)]
        refine fin _ _ (cutSt St n c a) (cut_case (c := b) h9 hn hPos aX hL hX9 hT hG (by omega) w3 ?_) (cESy_eq hn hS (by omega) (by omega))
        rcases hface with ⟨e, g⟩ | ⟨e, g⟩
        · exact Or.inl ⟨h9.ok.tri.rot2 e, by omega, by omega⟩
        · exact Or.inr ⟨e, by omega, by omega⟩
      · rw [if_neg (fun q => w3 (z3.mp q)), if_neg (fun q => w3 (z3.mp q))]
        refine fin _ _ St (in_case (c := c) h9 hn hPos aX hL hX9 hT hG k1 k2 ?_) hS
        rcases hface with ⟨e, g⟩ | ⟨e, g⟩
        · exact Or.inl ⟨e, by omega, by omega, by omega⟩
        · exact Or.inr ⟨e, by omega, by omega, by omega⟩
end I

