/-! a new cairn, and how the triangles become -/
section HOW
variable {n t : Nat} {P : Nat → g_P} {L L' : Nat → Nat → Option Nat} {St St' : Nat → Nat → Bool} {f : Nat → Nat} {xs ys lf sy co : Nat → Int32} {xr yr tb : Nat → Int32} {sg : Nat → Nat → Int32}
def ti_how (n t : Nat) (P : Nat → g_P) (L L' : Nat → Nat → Option Nat) (St St' : Nat → Nat → Bool) (t' : Nat) : Prop :=
  (∃ a b c, L a b = some c ∧ 0 < gO (P a) (P b) (P n) ∧ 0 < gO (P b) (P c) (P n) ∧ 0 < gO (P c) (P a) (P n) ∧ t' = t + 2 ∧ (∀ i j, St' i j = St i j) ∧ ∀ x y z, L' x y = some z ↔ (tr_rot a b n x y z ∨ tr_rot b c n x y z ∨ tr_rot c a n x y z) ∨ (L x y = some z ∧ ¬ tr_rot a b c x y z))
  ∨ (∃ a b c d, L a b = some c ∧ L b a = some d ∧ gO (P a) (P b) (P n) = 0 ∧ 0 < gO (P b) (P c) (P n) ∧ 0 < gO (P c) (P a) (P n) ∧ t' = t + 2 ∧ (∀ i j, St' i j = cutSt St n a b i j) ∧ ∀ x y z, L' x y = some z ↔ ((tr_rot a n c x y z ∨ tr_rot n b c x y z) ∨ tr_rot b n d x y z ∨ tr_rot n a d x y z) ∨ (L x y = some z ∧ ¬ (tr_rot a b c x y z ∨ tr_rot b a d x y z)))
  ∨ ∃ a b c, L a b = some c ∧ L b a = none ∧ gO (P a) (P b) (P n) = 0 ∧ 0 < gO (P b) (P c) (P n) ∧ 0 < gO (P c) (P a) (P n) ∧ t' = t + 1 ∧ (∀ i j, St' i j = cutSt St n a b i j) ∧ ∀ x y z, L' x y = some z ↔ (tr_rot a n c x y z ∨ tr_rot n b c x y z) ∨ (L x y = some z ∧ ¬ tr_rot a b c x y z)
abbrev ti_new2 (n t : Nat) (P : Nat → g_P) (L : Nat → Nat → Option Nat) (St St' : Nat → Nat → Bool) (lf' : Nat → Int32) (xr yr tb : Nat → Int32) (sg : Nat → Nat → Int32) : Prop := r_okAd n t xr yr tb sg (iN (P n).1) (iN (P n).2) ∧ ∃ t' L' f', t + 1 ≤ t' ∧ ti_A (n + 1) t' P L' St' f' ∧ ti_how n t P L L' St St' t' ∧ ti_L L' lf' ∧ (r_adS n t xr yr tb sg (iN (P n).1) (iN (P n).2)).1 = t' ∧ ti_T t' f' (r_adS n t xr yr tb sg (iN (P n).1) (iN (P n).2)).2.1 ∧ ti_G St' (r_adSg n t xr yr tb sg (iN (P n).1) (iN (P n).2))
theorem in_case2 (h : ti_A n t P L St f) (hn : n ≤ 16) (hP : tr_Pos (n + 1) P) (hm : ti_X (n + 1) P xs ys) (hL : ti_L L lf) (hX : ti_X n P xr yr) (hT : ti_T t f tb) (hG : ti_G St sg) {a b c : Nat} (hab : a < b) (hbc : b < c) (hf : (L a b = some c ∧ 0 < gO (P a) (P b) (P n) ∧ 0 < gO (P b) (P c) (P n) ∧ 0 < gO (P c) (P a) (P n)) ∨ (L a c = some b ∧ gO (P a) (P b) (P n) < 0 ∧ gO (P b) (P c) (P n) < 0 ∧ gO (P c) (P a) (P n) < 0)) : ti_new2 n t P L St St (m_addT (n + 1) xs ys (m_addT (n + 1) xs ys (m_addT (n + 1) xs ys (m_remT (n + 1) xs ys lf (nI a) (nI b) (nI c)) (nI a) (nI b) (nI n)) (nI b) (nI c) (nI n)) (nI c) (nI a) (nI n)) xr yr tb sg := by
  have hp : tr_sq (P n) := hP.1 n (by omega)
  have h17 := h.n17
  have ht2 := h.t2
  have cov : ∀ (x y w : Nat), L x y = some w → gIn (P x) (P y) (P w) (P n) → ∀ j, j < t → (r_pCov xr yr tb (iN (P n).1) (iN (P n).2) j = true ↔ f j = sc x y w) := by
    intro x y w e z j hj
    rw [pCov_eq h hX hT hp hj, cB_face h hj]
    constructor
    · rintro ⟨x', y', w', e', s, q⟩
      exact s.trans (rot_sc (tr_one h.ok hp e z e' q))
    · intro s
      exact ⟨x, y, w, e, s, z.w⟩
  rcases hf with ⟨e, z1, z2, z3⟩ | ⟨e, z1, z2, z3⟩
  · obtain ⟨ha, hb, hc, g1, -⟩ := h.ok.tri _ _ _ e
    have hiff := in_3_iff (n := n) h.ok.tri e
    obtain ⟨r1, r2, ⟨f', r3, r4⟩, r5, -⟩ := ref_3 h hn hX hT hG hp hab hbc hc ⟨a, b, c, e, rfl⟩ (by omega) (by omega) (by omega) (cov a b c e ⟨z1, z2, z3⟩)
    have hA : ti_A (n + 1) (t + 2) P (in_3 L n a b c) St f' := ⟨h.ok.ins3 hP e z1 z2 z3 hiff, by omega, by omega, by omega, r3.congr (fun z => tr_S_in3 h.ok.tri h17 e hiff z) (fun _ _ => rfl), fun i j q => E_in3 hiff (h.ed i j q), h.sym⟩
    refine ⟨r1, t + 2, _, f', by omega, hA, Or.inl ⟨a, b, c, e, z1, z2, z3, rfl, fun _ _ => rfl, hiff⟩, ?_, r2, r4, adSg_eq hA r2 r4 r5 (fun _ _ _ => rfl)⟩
    exact addT_l hm (by omega) hP.1 (addT_l hm (by omega) hP.1 (addT_l hm (by omega) hP.1 (remT_l hm (by omega) hP.1 hL (a := a) (b := b) (c := c) (by omega) (by omega) (by omega) g1) (a := a) (b := b) (c := n) (by omega) (by omega) (by omega) z1) (a := b) (b := c) (c := n) (by omega) (by omega) (by omega) z2) (a := c) (b := a) (c := n) (by omega) (by omega) (by omega) z3
  · obtain ⟨ha, hc, hb, g1, -⟩ := h.ok.tri _ _ _ e
    have s1 := gO_swap (P a) (P b) (P n)
    have s2 := gO_swap (P b) (P c) (P n)
    have s3 := gO_swap (P c) (P a) (P n)
    have s4 := gO_swap2 (P a) (P b) (P c)
    have hiff := in_3r_iff (n := n) h.ok.tri e
    obtain ⟨r1, r2, ⟨f', r3, r4⟩, r5, -⟩ := ref_3 h hn hX hT hG hp hab hbc hc ⟨a, c, b, e, (sc_swap2 _ _ _).symm⟩ (by omega) (by omega) (by omega) (fun j hj => (cov a c b e ⟨by omega, by omega, by omega⟩ j hj).trans (by rw [sc_swap2 a b c]))
    have hA : ti_A (n + 1) (t + 2) P (in_3r L n a b c) St f' := by
      refine ⟨h.ok.ins3 hP e (by omega) (by omega) (by omega) hiff, by omega, by omega, by omega, r3.congr (fun z => ?_) (fun _ _ => rfl), fun i j q => E_in3 hiff (h.ed i j q), h.sym⟩
      rw [tr_S_in3 h.ok.tri h17 e hiff z, sc_swap2 a b c, sc_swap c a n, sc_swap b c n, sc_swap a b n]
      constructor
      · rintro (((q | q) | q) | q)
        · exact Or.inl (Or.inl (Or.inl q))
        · exact Or.inr q
        · exact Or.inl (Or.inr q)
        · exact Or.inl (Or.inl (Or.inr q))
      · rintro (((q | q) | q) | q)
        · exact Or.inl (Or.inl (Or.inl q))
        · exact Or.inr q
        · exact Or.inl (Or.inr q)
        · exact Or.inl (Or.inl (Or.inr q))
    refine ⟨r1, t + 2, _, f', by omega, hA, Or.inl ⟨a, c, b, e, by omega, by omega, by omega, rfl, fun _ _ => rfl, hiff⟩, ?_, r2, r4, adSg_eq hA r2 r4 r5 (fun _ _ _ => rfl)⟩
    exact addT_r hm (by omega) hP.1 (addT_r hm (by omega) hP.1 (addT_r hm (by omega) hP.1 (remT_r hm (by omega) hP.1 hL (a := a) (b := b) (c := c) (by omega) (by omega) (by omega) (by omega)) (a := a) (b := b) (c := n) (by omega) (by omega) (by omega) z1) (a := b) (b := c) (c := n) (by omega) (by omega) (by omega) z2) (a := c) (b := a) (c := n) (by omega) (by omega) (by omega) z3
theorem cut_case2 (h : ti_A n t P L St f) (hn : n ≤ 16) (hP : tr_Pos (n + 1) P) (hm : ti_X (n + 1) P xs ys) (hL : ti_L L lf) (hX : ti_X n P xr yr) (hT : ti_T t f tb) (hG : ti_G St sg) {a b c : Nat} (hab : a ≠ b) (z : gO (P a) (P b) (P n) = 0) (hf : (L a b = some c ∧ 0 < gO (P b) (P c) (P n) ∧ 0 < gO (P c) (P a) (P n)) ∨ (L b a = some c ∧ 0 < gO (P a) (P c) (P n) ∧ 0 < gO (P c) (P b) (P n))) : ti_new2 n t P L St (cutSt St n a b) (m_cELf (n + 1) xs ys lf (nI a) (nI b) (nI n)) xr yr tb sg := by
  have hp : tr_sq (P n) := hP.1 n (by omega)
  have h17 := h.n17
  have ht2 := h.t2
  have hl : ∀ {x y w : Nat}, L x y = some w → x < n ∧ y < n ∧ w < n ∧ 0 < gO (P x) (P y) (P w) := fun e => by
    obtain ⟨h1, h2, h3, h4, -⟩ := h.ok.tri _ _ _ e
    exact ⟨h1, h2, h3, h4⟩
  have zs := gO_swap (P a) (P b) (P n)
  -- the faces on both sides
  have cov : ∀ (x y w : Nat), L x y = some w → gO (P x) (P y) (P n) = 0 → 0 < gO (P y) (P w) (P n) → 0 < gO (P w) (P x) (P n) → ∀ j, j < t → (r_pCov xr yr tb (iN (P n).1) (iN (P n).2) j = true ↔ (f j = sc x y w ∨ ∃ d, L y x = some d ∧ f j = sc x y d)) := by
    intro x y w e z1 z2 z3 j hj
    rw [pCov_eq h hX hT hp hj, cB_face h hj]
    constructor
    · rintro ⟨x', y', w', e', s, q⟩
      rcases tr_two h.ok hp e z1 z2 z3 e' q with r | ⟨d, e2, r⟩
      · exact Or.inl (s.trans (rot_sc r))
      · exact Or.inr ⟨d, e2, s.trans ((rot_sc r).trans (sc_swap _ _ _))⟩
    · rintro (s | ⟨d, e2, s⟩)
      · exact ⟨x, y, w, e, s, by unfold gInW; omega⟩
      · obtain ⟨k1, k2, k3⟩ := g_onEdge (hl e).2.2.2 (hl e2).2.2.2 z1 z2 z3
        exact ⟨y, x, d, e2, s.trans (sc_swap _ _ _).symm, by unfold gInW; omega⟩
  have two : ∀ c d, L a b = some c → L b a = some d → 0 < gO (P b) (P c) (P n) → 0 < gO (P c) (P a) (P n) → ti_new2 n t P L St (cutSt St n a b) (m_cELf (n + 1) xs ys lf (nI a) (nI b) (nI n)) xr yr tb sg := by
    intro c d e1 e2 z2 z3
    obtain ⟨ha, hb, hc, g1⟩ := hl e1
    obtain ⟨-, -, hd, g2⟩ := hl e2
    obtain ⟨n1, n2, n3⟩ := tr_ne g1
    obtain ⟨n4, n5, n6⟩ := tr_ne g2
    obtain ⟨k1, k2, k3⟩ := g_onEdge g1 g2 z z2 z3
    have ncd : c ≠ d := by
      rintro rfl
      have := gO_swap (P a) (P b) (P c)
      omega
    have s3 := gO_swap (P d) (P b) (P n)
    have s4 := gO_swap (P a) (P d) (P n)
    have hiff := in_12_iff (n := n) h.ok.tri e1 e2
    have hcov := cov a b c e1 z z2 z3
    obtain ⟨r1, r2, ⟨f', r3, r4⟩, r5, -⟩ := ref_2 h hn hX hT hG hp n1 n2 n3 (fun q => n6 q.symm) (fun q => n5 q.symm) ncd ha hb hc hd ⟨a, b, c, e1, rfl⟩ ⟨b, a, d, e2, (sc_swap _ _ _).symm⟩ z (by omega) (by omega) (by omega) (by omega) (fun j hj => (hcov j hj).trans ⟨fun q => by
      rcases q with q | ⟨d', q, q'⟩
      · exact Or.inl q
      · rw [e2] at q
        cases q
        exact Or.inr q', fun q => by
      rcases q with q | q
      · exact Or.inl q
      · exact Or.inr ⟨d, e2, q⟩⟩)
    have hok := h.ok.cut2 hP e1 e2 z z2 z3 hiff
    obtain ⟨c1, c2⟩ := cutSt_ed (n := n) h.ed h.sym (E_in12 hiff)
    have hA : ti_A (n + 1) (t + 2) P (in_2 (in_1 L n a b c) n a b d) (cutSt St n a b) f' := ⟨hok, by omega, by omega, by omega, r3.congr (fun z => tr_S_in12 h.ok.tri h17 e1 e2 hiff z) (fun _ _ => rfl), c1, c2⟩
    have noE : ¬ tr_E (in_2 (in_1 L n a b c) n a b d) a b := by
      rintro (⟨w, q⟩ | ⟨w, q⟩)
      · rcases (hiff _ _ _).mp q with q | ⟨q, q'⟩
        · unfold tr_rot at q; omega
        · rw [e1] at q; cases q
          exact q' (Or.inl (tr_rot.refl _ _ _))
      · rcases (hiff _ _ _).mp q with q | ⟨q, q'⟩
        · unfold tr_rot at q; omega
        · rw [e2] at q; cases q
          exact q' (Or.inr (tr_rot.refl _ _ _))
    refine ⟨r1, t + 2, _, f', by omega, hA, Or.inr (Or.inl ⟨a, b, c, d, e1, e2, z, z2, z3, rfl, fun _ _ => rfl, hiff⟩), ?_, r2, r4, adSg_eq hA r2 r4 r5 (fun i j q => mid_cut noE ha hb i j q)⟩
    unfold m_cELf
    rw [m_left_eq hL (by omega) (by omega), m_left_eq hL (by omega) (by omega), e1, e2]
    exact cutT_r hn hm hP.1 (cutT_l hn hm hP.1 hL ha hb hc g1 z2 z3) ha hb hd g2 k2 k3
  rcases hf with ⟨e1, z2, z3⟩ | ⟨e2, z2, z3⟩
  · cases e2 : L b a with
    | some d => exact two c d e1 e2 z2 z3
    | none =>
      obtain ⟨ha, hb, hc, g1⟩ := hl e1
      obtain ⟨n1, n2, n3⟩ := tr_ne g1
      have hiff := in_1_iff (n := n) h.ok.tri e1
      have hcov := cov a b c e1 z z2 z3
      obtain ⟨r1, r2, ⟨f', r3, r4⟩, r5, -⟩ := ref_1 h hn hX hT hG hp n1 n2 n3 ha hb hc ⟨a, b, c, e1, rfl⟩ z (by omega) (by omega) (fun j hj => (hcov j hj).trans ⟨fun q => by
        rcases q with q | ⟨d', q, q'⟩
        · exact q
        · exact absurd q (by rw [e2]; simp), fun q => Or.inl q⟩)
      have hok := h.ok.cut1 hP e1 e2 z z2 z3 hiff
      obtain ⟨c1, c2⟩ := cutSt_ed (n := n) h.ed h.sym (E_in1 hiff)
      have hA : ti_A (n + 1) (t + 1) P (in_1 L n a b c) (cutSt St n a b) f' := ⟨hok, by omega, by omega, by omega, r3.congr (fun z => tr_S_in1 h.ok.tri h17 e1 hiff z) (fun _ _ => rfl), c1, c2⟩
      have noE : ¬ tr_E (in_1 L n a b c) a b := by
        rintro (⟨w, q⟩ | ⟨w, q⟩)
        · rcases (hiff _ _ _).mp q with q | ⟨q, q'⟩
          · unfold tr_rot at q; omega
          · rw [e1] at q; cases q
            exact q' (tr_rot.refl _ _ _)
        · rcases (hiff _ _ _).mp q with q | ⟨q, q'⟩
          · unfold tr_rot at q; omega
          · rw [e2] at q; cases q
      refine ⟨r1, t + 1, _, f', by omega, hA, Or.inr (Or.inr ⟨a, b, c, e1, e2, z, z2, z3, rfl, fun _ _ => rfl, hiff⟩), ?_, r2, r4, adSg_eq hA r2 r4 r5 (fun i j q => mid_cut noE ha hb i j q)⟩
      unfold m_cELf
      rw [m_left_eq hL (by omega) (by omega), m_left_eq hL (by omega) (by omega), e1, e2]
      show ti_L _ (m_cutT (n + 1) xs ys (m_cutT (n + 1) xs ys lf (nI a) (nI b) (nI c) (nI n)) (nI a) (nI b) (-1) (nI n))
      rw [cutT_0]
      exact cutT_l hn hm hP.1 hL ha hb hc g1 z2 z3
  · cases e1 : L a b with
    | some d =>
      obtain ⟨ha, hb, hc, g1⟩ := hl e1
      obtain ⟨-, -, hd, g2⟩ := hl e2
      obtain ⟨k1, k2, k3⟩ := g_onEdge g2 g1 (by omega) z2 z3
      exact two d c e1 e2 k2 k3
    | none =>
      obtain ⟨hb, ha, hc, g1⟩ := hl e2
      obtain ⟨n1, n2, n3⟩ := tr_ne g1
      have hiff := in_2_iff (n := n) h.ok.tri e2
      have hcov := cov b a c e2 (by omega) z2 z3
      obtain ⟨r1, r2, ⟨f', r3, r4⟩, r5, -⟩ := ref_1 h hn hX hT hG hp n1 n2 n3 hb ha hc ⟨b, a, c, e2, rfl⟩ (by omega) (by omega) (by omega) (fun j hj => (hcov j hj).trans ⟨fun q => by
        rcases q with q | ⟨d', q, q'⟩
        · exact q
        · exact absurd q (by rw [e1]; simp), fun q => Or.inl q⟩)
      have hok := h.ok.cut1 hP e2 e1 (by omega) z2 z3 hiff
      obtain ⟨c1, c2⟩ := cutSt_ed (n := n) (a := b) (b := a) h.ed h.sym (E_in1 hiff)
      have cs : ∀ i j, cutSt St n b a i j = cutSt St n a b i j := by
        intro i j
        unfold cutSt
        rw [h.sym b a]
        by_cases e : St a b = true
        · rw [if_pos e, if_pos e]
          unfold st_set
          by_cases w1 : (i = b ∧ j = n) ∨ (i = n ∧ j = b) <;> by_cases w2 : (i = a ∧ j = n) ∨ (i = n ∧ j = a) <;> by_cases w3 : (i = a ∧ j = b) ∨ (i = b ∧ j = a)
          all_goals
            have w3' : ((i = b ∧ j = a) ∨ (i = a ∧ j = b)) = ((i = a ∧ j = b) ∨ (i = b ∧ j = a)) := propext Or.comm
            simp only [w3']
            simp only [w1, w2, w3, if_true, if_false]
        · rw [if_neg e, if_neg e]
      have hA : ti_A (n + 1) (t + 1) P (in_2 L n a b c) (cutSt St n a b) f' := ⟨hok, by omega, by omega, by omega, r3.congr (fun z => tr_S_in1 h.ok.tri h17 e2 hiff z) (fun _ _ => rfl), fun i j q => c1 i j (by rw [cs]; exact q), fun i j => by rw [← cs, ← cs]; exact c2 i j⟩
      have noE : ¬ tr_E (in_2 L n a b c) b a := by
        rintro (⟨w, q⟩ | ⟨w, q⟩)
        · rcases (hiff _ _ _).mp q with q | ⟨q, q'⟩
          · unfold tr_rot at q; omega
          · rw [e2] at q; cases q
            exact q' (tr_rot.refl _ _ _)
        · rcases (hiff _ _ _).mp q with q | ⟨q, q'⟩
          · unfold tr_rot at q; omega
          · rw [e1] at q; cases q
      refine ⟨r1, t + 1, _, f', by omega, hA, Or.inr (Or.inr ⟨b, a, c, e2, e1, by omega, z2, z3, rfl, fun i j => (cs i j).symm, hiff⟩), ?_, r2, r4, adSg_eq hA r2 r4 r5 (fun i j q => (mid_cut noE hb ha i j q).trans (cs i j))⟩
      unfold m_cELf
      rw [m_left_eq hL (by omega) (by omega), m_left_eq hL (by omega) (by omega), e1, e2]
      show ti_L _ (m_cutT (n + 1) xs ys (m_cutT (n + 1) xs ys lf (nI a) (nI b) (-1) (nI n)) (nI a) (nI b) (nI c) (nI n))
      rw [cutT_0]
      exact cutT_r hn hm hP.1 hL ha hb hc g1 z2 z3
theorem insert_tie2 (h : ti_A n t P L St f) (hm : ti_m n t P L St f xs ys lf sy co) (hr : ti_r n t P St f xr yr tb sg) (hn : n ≤ 16) {p : g_P} (hp : tr_sq p) (hno : ∀ i, i < n → P i ≠ p) : r_okAd n t xr yr tb sg (iN p.1) (iN p.2) ∧ ∃ t' P' L' St' f', t + 1 ≤ t' ∧ (∀ i, i < n → P' i = P i) ∧ ti_A (n + 1) t' P' L' St' f' ∧ P' n = p ∧ ti_how n t P' L L' St St' t' ∧ (m_list (n + 1) (m_inLf2 n t xs ys lf co (iN p.1) (iN p.2)) co).1 = t' ∧ ti_m (n + 1) t' P' L' St' f' (m_ac n xs (iN p.1)) (m_ac n ys (iN p.2)) (m_inLf2 n t xs ys lf co (iN p.1) (iN p.2)) (m_inSy2 n t xs ys sy co (iN p.1) (iN p.2)) (m_list (n + 1) (m_inLf2 n t xs ys lf co (iN p.1) (iN p.2)) co).2 ∧ (r_adS n t xr yr tb sg (iN p.1) (iN p.2)).1 = t' ∧ ti_r (n + 1) t' P' St' f' (m_ac n xr (iN p.1)) (m_ac n yr (iN p.2)) (r_adS n t xr yr tb sg (iN p.1) (iN p.2)).2.1 (r_adSg n t xr yr tb sg (iN p.1) (iN p.2)) := by
  obtain ⟨k, hk, fe, -, hcB⟩ := find_eq h hm hr hp
  obtain ⟨hX, hL, hS, hC⟩ := hm
  obtain ⟨hX', hT, hG⟩ := hr
  obtain ⟨k1, k2, k3, -, k5⟩ := ti_k h hk
  obtain ⟨c0, c1, c2⟩ := m_corner_eq hC (ti_t28 h) hk
  have h17 := h.n17
  -- the places, with the new one
  have hPe : ∀ i, i < n → (fun i => if i = n then p else P i) i = P i := fun i hi => if_neg (by omega)
  have hPn : (fun i => if i = n then p else P i) n = p := if_pos rfl
  have aX := ac_X (xs := xs) (ys := ys) (p := p) hn hX
  have aX' := ac_X (xs := xr) (ys := yr) (p := p) hn hX'
  have hPos : tr_Pos (n + 1) (fun i => if i = n then p else P i) := by
    refine ⟨fun i hi => ?_, fun i j hi hj q => ?_⟩
    · by_cases e : i = n
      · subst e; rw [hPn]; exact hp
      · rw [hPe i (by omega)]; exact h.sq i (by omega)
    · by_cases e : i = n
      · by_cases e2 : j = n
        · omega
        · subst e
          rw [hPn, hPe j (by omega)] at q
          exact absurd q.symm (hno j (by omega))
      · by_cases e2 : j = n
        · subst e2
          rw [hPn, hPe i (by omega)] at q
          exact absurd q (hno i (by omega))
        · rw [hPe i (by omega), hPe j (by omega)] at q
          exact h.ok.pos.2 i j (by omega) (by omega) q
  have h9 := h.congr hPe
  have hX9 := ti_X.congr hX' hPe
  generalize (fun i => if i = n then p else P i) = P' at *
  -- the corners of the triangle that has the place
  unfold cB at hcB
  rw [decide_eq_true_eq] at hcB
  unfold m_inLf2 m_inSy2
  rw [fe, c0, c1, c2]
  generalize f k / 32 / 32 = a at *
  generalize f k / 32 % 32 = b at *
  generalize f k % 32 = c at *
  have ea := hPe a (by omega)
  have eb := hPe b (by omega)
  have ec := hPe c (by omega)
  rw [← ea, ← eb, ← ec, ← hPn] at hcB
  have hface : (L a b = some c ∧ 0 < gO (P' a) (P' b) (P' c)) ∨ (L a c = some b ∧ 0 < gO (P' a) (P' c) (P' b)) := by
    rcases k5 with e | e
    · exact Or.inl ⟨e, (h9.ok.tri _ _ _ e).2.2.2.1⟩
    · exact Or.inr ⟨e, (h9.ok.tri _ _ _ e).2.2.2.1⟩
  have nec : ∀ i, i < n → P' n ≠ P' i := fun i hi q => by
    have := hPos.2 n i (by omega) (by omega) q
    omega
  have sm := gO_sum (P' a) (P' b) (P' c) (P' n)
  have sw := gO_swap2 (P' a) (P' b) (P' c)
  have sw1 := gO_swap (P' a) (P' b) (P' n)
  have sw2 := gO_swap (P' b) (P' c) (P' n)
  have sw3 := gO_swap (P' c) (P' a) (P' n)
  have rt1 := gO_rot (P' a) (P' b) (P' c)
  have rt2 := gO_rot (P' b) (P' c) (P' a)
  have rt3 := gO_rot (P' a) (P' c) (P' b)
  have rt4 := gO_rot (P' c) (P' b) (P' a)
  -- not on two sides at once
  have nc : ¬ (gO (P' a) (P' b) (P' n) = 0 ∧ gO (P' b) (P' c) (P' n) = 0) ∧ ¬ (gO (P' b) (P' c) (P' n) = 0 ∧ gO (P' c) (P' a) (P' n) = 0) ∧ ¬ (gO (P' c) (P' a) (P' n) = 0 ∧ gO (P' a) (P' b) (P' n) = 0) := by
    rcases hface with ⟨-, g⟩ | ⟨-, g⟩
    · exact ⟨fun q => nec b (by omega) (g_corner g q.1 q.2), fun q => nec c (by omega) (g_corner (a := P' b) (b := P' c) (c := P' a) (by omega) q.1 q.2), fun q => nec a (by omega) (g_corner (a := P' c) (b := P' a) (c := P' b) (by omega) q.1 q.2)⟩
    · refine ⟨fun q => nec b (by omega) (g_corner (a := P' c) (b := P' b) (c := P' a) (by omega) (by omega) (by omega)), fun q => nec c (by omega) (g_corner (a := P' a) (b := P' c) (c := P' b) g (by omega) (by omega)), fun q => nec a (by omega) (g_corner (a := P' b) (b := P' a) (c := P' c) (by omega) (by omega) (by omega))⟩
  obtain ⟨nc1, nc2, nc3⟩ := nc
  have z1 : m_turn (m_ac n xs (iN p.1)) (m_ac n ys (iN p.2)) (nI a) (nI b) (iN p.1) (iN p.2) = 0 ↔ gO (P' a) (P' b) (P' n) = 0 := by
    rw [m_turn_eq aX (by omega) (by omega) (by omega), hPn]
    have := gO_bd (hPos.1 a (by omega)) (hPos.1 b (by omega)) hp
    exact iN_eq (b := 0) (by omega) (by decide)
  have z2 : m_turn (m_ac n xs (iN p.1)) (m_ac n ys (iN p.2)) (nI b) (nI c) (iN p.1) (iN p.2) = 0 ↔ gO (P' b) (P' c) (P' n) = 0 := by
    rw [m_turn_eq aX (by omega) (by omega) (by omega), hPn]
    have := gO_bd (hPos.1 b (by omega)) (hPos.1 c (by omega)) hp
    exact iN_eq (b := 0) (by omega) (by decide)
  have z3 : m_turn (m_ac n xs (iN p.1)) (m_ac n ys (iN p.2)) (nI c) (nI a) (iN p.1) (iN p.2) = 0 ↔ gO (P' c) (P' a) (P' n) = 0 := by
    rw [m_turn_eq aX (by omega) (by omega) (by omega), hPn]
    have := gO_bd (hPos.1 c (by omega)) (hPos.1 a (by omega)) hp
    exact iN_eq (b := 0) (by omega) (by decide)
  have fin : ∀ (lf' sy' : Nat → Int32) (St' : Nat → Nat → Bool), ti_new2 n t P' L St St' lf' xr yr tb sg → ti_S St' sy' → r_okAd n t xr yr tb sg (iN p.1) (iN p.2) ∧ ∃ t' P' L' St' f', t + 1 ≤ t' ∧ (∀ i, i < n → P' i = P i) ∧ ti_A (n + 1) t' P' L' St' f' ∧ P' n = p ∧ ti_how n t P' L L' St St' t' ∧ (m_list (n + 1) lf' co).1 = t' ∧ ti_m (n + 1) t' P' L' St' f' (m_ac n xs (iN p.1)) (m_ac n ys (iN p.2)) lf' sy' (m_list (n + 1) lf' co).2 ∧ (r_adS n t xr yr tb sg (iN p.1) (iN p.2)).1 = t' ∧ ti_r (n + 1) t' P' St' f' (m_ac n xr (iN p.1)) (m_ac n yr (iN p.2)) (r_adS n t xr yr tb sg (iN p.1) (iN p.2)).2.1 (r_adSg n t xr yr tb sg (iN p.1) (iN p.2)) := by
    intro lf' sy' St' hnew hS'
    unfold ti_new2 at hnew
    rw [hPn] at hnew
    obtain ⟨q1, t', L', f', q2, q3, qh, q4, q5, q6, q7⟩ := hnew
    obtain ⟨l1, l2⟩ := list_eq q3.ok.tri q3.n17 q4 q3.en (ti_t28 q3) co
    exact ⟨q1, t', P', L', St', f', q2, hPe, q3, hPn, qh, l1, ⟨aX, q4, hS', l2⟩, q5, aX', q6, q7⟩
  unfold m_inLf m_inSy
  by_cases w1 : gO (P' a) (P' b) (P' n) = 0
  · rw [if_pos (z1.mpr w1), if_pos (z1.mpr w1)]
    refine fin _ _ (cutSt St n a b) (cut_case2 (c := c) h9 hn hPos aX hL hX9 hT hG (by omega) w1 ?_) (cESy_eq hn hS (by omega) (by omega))
    rcases hface with ⟨e, g⟩ | ⟨e, g⟩
    · exact Or.inl ⟨e, by omega, by omega⟩
    · exact Or.inr ⟨h9.ok.tri.rot2 e, by omega, by omega⟩
  · rw [if_neg (fun q => w1 (z1.mp q)), if_neg (fun q => w1 (z1.mp q))]
    by_cases w2 : gO (P' b) (P' c) (P' n) = 0
    · rw [if_pos (z2.mpr w2), if_pos (z2.mpr w2)]
      refine fin _ _ (cutSt St n b c) (cut_case2 (c := a) h9 hn hPos aX hL hX9 hT hG (by omega) w2 ?_) (cESy_eq hn hS (by omega) (by omega))
      rcases hface with ⟨e, g⟩ | ⟨e, g⟩
      · exact Or.inl ⟨h9.ok.tri.rot e, by omega, by omega⟩
      · exact Or.inr ⟨h9.ok.tri.rot e, by omega, by omega⟩
    · rw [if_neg (fun q => w2 (z2.mp q)), if_neg (fun q => w2 (z2.mp q))]
      by_cases w3 : gO (P' c) (P' a) (P' n) = 0
      · rw [if_pos (z3.mpr w3), if_pos (z3.mpr w3)]
        refine fin _ _ (cutSt St n c a) (cut_case2 (c := b) h9 hn hPos aX hL hX9 hT hG (by omega) w3 ?_) (cESy_eq hn hS (by omega) (by omega))
        rcases hface with ⟨e, g⟩ | ⟨e, g⟩
        · exact Or.inl ⟨h9.ok.tri.rot2 e, by omega, by omega⟩
        · exact Or.inr ⟨e, by omega, by omega⟩
      · rw [if_neg (fun q => w3 (z3.mp q)), if_neg (fun q => w3 (z3.mp q))]
        refine fin _ _ St (in_case2 (c := c) h9 hn hPos aX hL hX9 hT hG k1 k2 ?_) hS
        rcases hface with ⟨e, g⟩ | ⟨e, g⟩
        · exact Or.inl ⟨e, by omega, by omega, by omega⟩
        · exact Or.inr ⟨e, by omega, by omega, by omega⟩
end HOW
