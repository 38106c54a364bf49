/-! settling ends: an edge that it has flipped away never comes back -/
def tr_Lo (P : Nat → g_P) (L : Nat → Nat → Option Nat) (a b : Nat) : Prop := ∃ p q, L a p = some q ∧ 0 ≤ gO (P a) (P p) (P b) ∧ 0 ≤ gO (P a) (P b) (P q) ∧ gD (P a) (P p) (P q) (P b) < 0
theorem gD_neg {p q r s v : g_P} (h1 : 0 < gO p q r) (h2 : 0 ≤ gO p q s) (h3 : gD p q r v < 0) (h4 : 0 < gD p q r s) (h5 : 0 ≤ gO p q v) (h6 : 0 < gO p q s ∨ 0 < gO p q v) : gD p q s v < 0 := by
  have e := gD_4 p q r s v
  have p1 := Int.mul_nonpos_of_nonpos_of_nonneg (Int.le_of_lt h3) h2
  have p2 := Int.mul_nonneg (Int.le_of_lt h4) h5
  have p3 : gD p q s v * gO p q r < 0 := by
    rcases h6 with h | h
    · have := Int.mul_neg_of_neg_of_pos h3 h
      omega
    · have := Int.mul_pos h4 h
      omega
  rw [Int.mul_comm] at p3
  exact g_neg h1 p3
theorem tr_lo_core {P : Nat → g_P} {L' : Nat → Nat → Option Nat} {a b c d : Nat} (hp : 0 < gO (P a) (P b) (P c)) (hp2 : 0 < gO (P b) (P a) (P d)) (q1 : gO (P c) (P d) (P a) < 0) (q2 : 0 < gO (P c) (P d) (P b)) (hD : 0 < gD (P a) (P b) (P c) (P d)) (f1 : L' a d = some c) (f2 : L' b c = some d) (f3 : L' c a = some d) (f4 : L' c d = some b) {u v p q : Nat} (r : tr_rot a b c u p q) (k1 : 0 ≤ gO (P u) (P p) (P v)) (k2 : 0 ≤ gO (P u) (P v) (P q)) (k3 : gD (P u) (P p) (P q) (P v) < 0) : tr_Lo P L' u v := by
  have sacd : 0 < gO (P c) (P a) (P d) := by have := gO_swap2 (P c) (P d) (P a); omega
  have sbcd : 0 < gO (P b) (P c) (P d) := by have := gO_rot (P b) (P c) (P d); omega
  have sabd := gO_swap (P a) (P b) (P d)
  have rD1 := gD_rot (P a) (P b) (P c) (P d)
  have rD2 := gD_rot (P b) (P c) (P a) (P d)
  rcases r with ⟨rfl, rfl, rfl⟩ | ⟨rfl, rfl, rfl⟩ | ⟨rfl, rfl, rfl⟩
  · refine ⟨d, q, f1, ?_, k2, ?_⟩
    · have e := gO_pl (P u) (P p) (P q) (P d) (P v)
      have t1 : gO (P u) (P q) (P v) ≤ 0 := by have := gO_swap2 (P u) (P v) (P q); omega
      have t2 : gO (P u) (P q) (P d) < 0 := by have := gO_rot (P u) (P q) (P d); omega
      have m1 := Int.mul_nonneg_of_nonpos_of_nonpos (show gO (P u) (P p) (P d) ≤ 0 by omega) t1
      have m2 := Int.mul_nonpos_of_nonneg_of_nonpos k1 (Int.le_of_lt t2)
      exact g_nonneg hp (by omega)
    · have h := gD_neg (p := P q) (q := P u) (r := P p) (s := P d) (v := P v) (by have := gO_rot (P q) (P u) (P p); omega) (by omega) (by have := gD_rot (P q) (P u) (P p) (P v); omega) (by omega) (by have := gO_rot (P q) (P u) (P v); omega) (Or.inl sacd)
      have := gD_rot (P q) (P u) (P d) (P v)
      omega
  · refine ⟨p, d, f2, k1, ?_, ?_⟩
    · have e := gO_pl (P u) (P p) (P q) (P d) (P v)
      have t1 : gO (P u) (P q) (P v) ≤ 0 := by have := gO_swap2 (P u) (P v) (P q); omega
      have m1 := Int.mul_nonpos_of_nonneg_of_nonpos (Int.le_of_lt sbcd) t1
      have m2 := Int.mul_nonneg k1 (Int.le_of_lt hp2)
      have t3 : gO (P u) (P d) (P v) ≤ 0 := g_nonpos (k := gO (P u) (P p) (P q)) (by have := gO_rot (P q) (P u) (P p); omega) (by omega)
      have := gO_swap2 (P u) (P d) (P v)
      omega
    · exact gD_neg (p := P u) (q := P p) (r := P q) (s := P d) (v := P v) (by have := gO_rot (P q) (P u) (P p); omega) (by omega) k3 (by omega) k1 (Or.inl sbcd)
  · rcases g_lg 0 (gO (P u) (P d) (P v)) with hl | hl
    · refine ⟨d, q, f4, Int.le_of_lt hl, k2, ?_⟩
      have h := gD_neg (p := P q) (q := P u) (r := P p) (s := P d) (v := P v) (by have := gO_rot (P p) (P q) (P u); have := gO_rot (P q) (P u) (P p); omega) (by omega) (by have := gD_rot (P q) (P u) (P p) (P v); omega) (by omega) (by have := gO_rot (P q) (P u) (P v); omega) (Or.inl sbcd)
      have := gD_rot (P q) (P u) (P d) (P v)
      omega
    · refine ⟨p, d, f3, k1, by have := gO_swap2 (P u) (P d) (P v); omega, ?_⟩
      exact gD_neg (p := P u) (q := P p) (r := P q) (s := P d) (v := P v) (by have := gO_rot (P u) (P p) (P q); omega) (by omega) k3 (by omega) k1 (Or.inl sacd)
theorem tr_Lo.flip {n : Nat} {P : Nat → g_P} {L : Nat → Nat → Option Nat} {a b c d : Nat} (h : tr_Ok n P L) (q : tr_Quad n P L a b c d) (hD : 0 < gD (P a) (P b) (P c) (P d)) : (∀ u v, tr_Lo P L u v → tr_Lo P (tr_flip L a b c d) u v) ∧ tr_Lo P (tr_flip L a b c d) a b := by
  obtain ⟨z1, z2⟩ := tr_noedge h.pos h.tri h.un q
  have hL := tr_flip_iff h.tri q z1 z2
  obtain ⟨qab, qba, q1, q2⟩ := q
  obtain ⟨ha, hb, hc, hp, e1⟩ := h.tri a b c qab
  obtain ⟨-, -, hd, hp2, e2⟩ := h.tri b a d qba
  have f1 : tr_flip L a b c d c a = some d := (hL _ _ _).mpr (Or.inl (Or.inl (Or.inr (Or.inl ⟨rfl, rfl, rfl⟩))))
  have f2 : tr_flip L a b c d a d = some c := (hL _ _ _).mpr (Or.inl (Or.inl (Or.inr (Or.inr ⟨rfl, rfl, rfl⟩))))
  have f3 : tr_flip L a b c d d b = some c := (hL _ _ _).mpr (Or.inl (Or.inr (Or.inr (Or.inl ⟨rfl, rfl, rfl⟩))))
  have f4 : tr_flip L a b c d b c = some d := (hL _ _ _).mpr (Or.inl (Or.inr (Or.inr (Or.inr ⟨rfl, rfl, rfl⟩))))
  have f5 : tr_flip L a b c d d c = some a := (hL _ _ _).mpr (Or.inl (Or.inl (Or.inl ⟨rfl, rfl, rfl⟩)))
  have f6 : tr_flip L a b c d c d = some b := (hL _ _ _).mpr (Or.inl (Or.inr (Or.inl ⟨rfl, rfl, rfl⟩)))
  have s1 := gO_swap (P c) (P d) (P a)
  have s2 := gO_swap (P c) (P d) (P b)
  constructor
  · rintro u v ⟨p, r, e, k1, k2, k3⟩
    by_cases o : tr_rot a b c u p r ∨ tr_rot b a d u p r
    · rcases o with o | o
      · exact tr_lo_core hp hp2 q1 q2 hD f2 f4 f1 f6 o k1 k2 k3
      · exact tr_lo_core hp2 hp (by omega) (by omega) (by rw [gD_opp]; exact hD) f4 f2 f3 f5 o k1 k2 k3
    · exact ⟨p, r, (hL _ _ _).mpr (Or.inr ⟨e, o⟩), k1, k2, k3⟩
  · refine ⟨d, c, f2, ?_, Int.le_of_lt hp, ?_⟩
    · have := gO_rot (P b) (P a) (P d); omega
    · rw [gD_last]; omega
theorem g_cru (a b p q : g_P) : g_cr a b (q.1 - p.1, q.2 - p.2) = gO a b q - gO a b p := by unfold g_cr gO; grind
theorem g_cr_pl (o p q b v : g_P) : gO o p q * g_cr o b v = gO o p b * g_cr o q v - g_cr o p v * gO o q b := by unfold gO g_cr; grind
theorem g_cr_swap (a b v : g_P) : g_cr b a v = - g_cr a b v := by unfold g_cr; grind
theorem tr_Lo.not {n : Nat} {P : Nat → g_P} {L : Nat → Nat → Option Nat} {a b c d : Nat} (h : tr_Ok n P L) (qab : L a b = some c) (qba : L b a = some d) : ¬ tr_Lo P L a b := by
  rintro ⟨p, q, e, k1, k2, k3⟩
  obtain ⟨ha, hb, hc, hp, e1⟩ := h.tri a b c qab
  obtain ⟨-, -, hd, hp2, e2⟩ := h.tri b a d qba
  obtain ⟨-, hpn, hqn, hpq, e3⟩ := h.tri a p q e
  obtain ⟨n1, n2, n3⟩ := tr_ne hp
  obtain ⟨m1, m2, m3⟩ := tr_ne hpq
  have n4 : p ≠ b := by rintro rfl; rw [gD_b] at k3; omega
  have n5 : q ≠ b := by rintro rfl; rw [gD_c] at k3; omega
  have pa := h.pos.1 a ha
  have pb := h.pos.1 b hb
  have hab : P a ≠ P b := fun z => n1 (h.pos.2 a b ha hb z)
  have b1 : ((P b).1 - (P a).1).natAbs ≤ 100 := by omega
  have b2 : ((P b).2 - (P a).2).natAbs ≤ 100 := by omega
  have fin : ∀ (s : Bool) (x y z : Nat), tr_In P L x y z (g_G (P a) ((P b).1 - (P a).1, (P b).2 - (P a).2) (g_v s)) → tr_In P L a p q (g_G (P a) ((P b).1 - (P a).1, (P b).2 - (P a).2) (g_v s)) → tr_rot x y z a p q := fun s x y z i1 i2 => tr_Un.rot h.tri h.un (g_gen h.pos s b1 b2) i1 i2
  have r1 := gO_rot (P a) (P p) (P q)
  have r2 := gO_rot (P a) (P b) (P c)
  have r3 := gO_rot (P b) (P a) (P d)
  have r4 := gO_rot (P a) (P d) (P b)
  have r5 := gO_rot (P c) (P a) (P b)
  have r6 := gO_rot (P q) (P a) (P b)
  rcases g_lg 0 (gO (P a) (P p) (P b)) with hl | hl
  · obtain ⟨s, hs⟩ := g_v_pos (P b) (P a) pb pa hab.symm
    have hs' := g_cr_swap (P a) (P b) (g_v s)
    have i1 : tr_In P L a d b (g_G (P a) ((P b).1 - (P a).1, (P b).2 - (P a).2) (g_v s)) := by
      refine g_inG h.pos h.tri (h.tri.rot qba) b1 b2 (Or.inr ⟨gO_aba _ _, Or.inl ?_⟩) (Or.inl ?_) (Or.inr ⟨gO_ab _ _, Or.inr ⟨?_, hs⟩⟩)
      · rw [g_cru, gO_aba]; omega
      · omega
      · rw [g_cru, gO_ab, gO_aba]; omega
    have i2 : tr_In P L a p q (g_G (P a) ((P b).1 - (P a).1, (P b).2 - (P a).2) (g_v s)) := by
      refine g_inG h.pos h.tri e b1 b2 (Or.inr ⟨gO_aba _ _, Or.inl ?_⟩) (Or.inl ?_) (Or.inr ⟨gO_ab _ _, ?_⟩)
      · rw [g_cru, gO_aba]; omega
      · omega
      · rw [g_cru, gO_ab]
        rcases g_lg 0 (gO (P a) (P b) (P q)) with hz | hz
        · exact Or.inl (by omega)
        · refine Or.inr ⟨by omega, ?_⟩
          have id := g_cr_pl (P a) (P p) (P q) (P b) (g_v s)
          have z : gO (P a) (P q) (P b) = 0 := by have := gO_swap2 (P a) (P b) (P q); omega
          rw [z, Int.mul_zero, Int.sub_zero] at id
          have t := Int.mul_neg_of_pos_of_neg hpq (show g_cr (P a) (P b) (g_v s) < 0 by omega)
          have t2 : g_cr (P a) (P q) (g_v s) < 0 := g_neg hl (by omega)
          have := g_cr_swap (P a) (P q) (g_v s)
          omega
    have r := fin s a d b i1 i2
    unfold tr_rot at r
    omega
  · have z0 : gO (P a) (P p) (P b) = 0 := by omega
    obtain ⟨s, hs⟩ := g_v_pos (P a) (P b) pa pb hab
    have id := g_cr_pl (P a) (P p) (P q) (P b) (g_v s)
    rw [z0, Int.zero_mul, Int.zero_sub] at id
    have t := Int.mul_pos hpq hs
    have z := gO_swap2 (P a) (P b) (P q)
    rw [z, Int.mul_neg, Int.neg_neg] at id
    have t0 : 0 < gO (P a) (P b) (P q) := by
      rcases g_lg 0 (gO (P a) (P b) (P q)) with hz | hz
      · exact hz
      · have z9 : gO (P a) (P b) (P q) = 0 := by omega
        rw [z9, Int.mul_zero] at id
        omega
    have t3 : 0 < g_cr (P a) (P p) (g_v s) := by
      rw [Int.mul_comm] at id
      rw [Int.mul_comm (g_cr (P a) (P p) (g_v s))] at id
      rw [Int.mul_comm] at t
      exact g_pos t0 (by omega)
    have i1 : tr_In P L a b c (g_G (P a) ((P b).1 - (P a).1, (P b).2 - (P a).2) (g_v s)) := by
      refine g_inG h.pos h.tri qab b1 b2 (Or.inr ⟨gO_aba _ _, Or.inr ⟨?_, hs⟩⟩) (Or.inl ?_) (Or.inr ⟨gO_ab _ _, Or.inl ?_⟩)
      · rw [g_cru, gO_aba, gO_ab]; omega
      · omega
      · rw [g_cru, gO_ab]; omega
    have i2 : tr_In P L a p q (g_G (P a) ((P b).1 - (P a).1, (P b).2 - (P a).2) (g_v s)) := by
      refine g_inG h.pos h.tri e b1 b2 (Or.inr ⟨gO_aba _ _, Or.inr ⟨?_, t3⟩⟩) (Or.inl ?_) (Or.inr ⟨gO_ab _ _, Or.inl ?_⟩)
      · rw [g_cru, gO_aba]; omega
      · omega
      · rw [g_cru, gO_ab]; omega
    have r := fin s a b c i1 i2
    unfold tr_rot at r
    omega
theorem tr_ct_mono {p q : Nat → Bool} (h : ∀ e, p e = true → q e = true) : ∀ m, rg_ct p m ≤ rg_ct q m
  | 0 => Nat.le_refl _
  | m + 1 => by
    have := tr_ct_mono h m
    unfold rg_ct
    cases e : p m with
    | false => simp; omega
    | true => rw [h m e]; simp; omega
theorem tr_ct_lt {p q : Nat → Bool} (h : ∀ e, p e = true → q e = true) {e : Nat} (h1 : p e = false) (h2 : q e = true) : ∀ m, e < m → rg_ct p m < rg_ct q m
  | 0, hm => absurd hm (Nat.not_lt_zero _)
  | m + 1, hm => by
    unfold rg_ct
    rcases Nat.lt_or_ge e m with z | z
    · have := tr_ct_lt h h1 h2 m z
      cases k : p m with
      | false => simp; omega
      | true => rw [h m k]; simp; omega
    · have : e = m := by omega
      subst this
      have := tr_ct_mono h e
      simp [h1, h2]; omega
/-- how many pairs lie low -/
noncomputable def tr_low (P : Nat → g_P) (L : Nat → Nat → Option Nat) : Nat := rg_ct (fun e => @decide (tr_Lo P L (e / 17) (e % 17)) (Classical.propDecidable _)) 289
/-- a flip of an unfair edge -/
def tr_Un1 (P : Nat → g_P) (L : Nat → Nat → Option Nat) (a b c d : Nat) : Prop := L a b = some c ∧ L b a = some d ∧ 0 < gD (P a) (P b) (P c) (P d)
theorem tr_Ok.quad {n : Nat} {P : Nat → g_P} {L : Nat → Nat → Option Nat} {a b c d : Nat} (h : tr_Ok n P L) (q : tr_Un1 P L a b c d) : tr_Quad n P L a b c d := by
  obtain ⟨qab, qba, hD⟩ := q
  obtain ⟨ha, hb, hc, hp, e1⟩ := h.tri a b c qab
  obtain ⟨-, -, hd, hp2, e2⟩ := h.tri b a d qba
  obtain ⟨k1, k2⟩ := g_convex hp hp2 hD
  exact ⟨qab, qba, k1, k2⟩
theorem tr_low_lt {n : Nat} {P : Nat → g_P} {L : Nat → Nat → Option Nat} {a b c d : Nat} (hn : n ≤ 17) (h : tr_Ok n P L) (q : tr_Un1 P L a b c d) : tr_low P L < tr_low P (tr_flip L a b c d) := by
  obtain ⟨k1, k2⟩ := tr_Lo.flip h (h.quad q) q.2.2
  have k3 := tr_Lo.not h q.1 q.2.1
  obtain ⟨ha, hb, -⟩ := h.tri a b c q.1
  have e1 : (a * 17 + b) / 17 = a := by omega
  have e2 : (a * 17 + b) % 17 = b := by omega
  refine tr_ct_lt (e := a * 17 + b) (fun e he => ?_) ?_ ?_ 289 (by omega)
  · simp only [decide_eq_true_eq] at he ⊢
    exact k1 _ _ he
  · simp only [decide_eq_false_iff_not]
    rw [e1, e2]; exact k3
  · simp only [decide_eq_true_eq]
    rw [e1, e2]; exact k2
theorem tr_low_le (P : Nat → g_P) (L : Nat → Nat → Option Nat) : tr_low P L ≤ 289 := rg_ct_le _ _
/-- settling, flip after flip, is over after 289 at the most -/
theorem tr_run {n : Nat} {P : Nat → g_P} (hn : n ≤ 17) {T : Nat → Nat → Nat → Option Nat} (h0 : tr_Ok n P (T 0)) : ∀ K : Nat, (∀ k, k < K → ∃ a b c d, tr_Un1 P (T k) a b c d ∧ T (k + 1) = tr_flip (T k) a b c d) → tr_Ok n P (T K) ∧ K ≤ tr_low P (T K)
  | 0, _ => ⟨h0, Nat.zero_le _⟩
  | K + 1, hs => by
    obtain ⟨i1, i2⟩ := tr_run hn h0 K (fun k hk => hs k (by omega))
    obtain ⟨a, b, c, d, q, e⟩ := hs K (by omega)
    rw [e]
    have := tr_low_lt hn i1 q
    exact ⟨i1.flip (i1.quad q), by omega⟩
