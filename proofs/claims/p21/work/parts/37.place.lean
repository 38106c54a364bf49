/-! which faces have a place -/
theorem g_cr3 (a b x y z p : g_P) : g_cr a b (x.1 + y.1 + z.1 - 3 * p.1, x.2 + y.2 + z.2 - 3 * p.2) = gO a b x + gO a b y + gO a b z - 3 * gO a b p := by unfold g_cr gO; grind
theorem g_lx_neg2 {a b p u : g_P} {s : Bool} (ha : 0 ≤ a.1 ∧ a.1 ≤ 30 ∧ 0 ≤ a.2 ∧ a.2 ≤ 30) (hb : 0 ≤ b.1 ∧ b.1 ≤ 30 ∧ 0 ≤ b.2 ∧ b.2 ≤ 30) (hne : a ≠ b) (h : ¬ g_lx a b p u s) : g_lx b a p u s := by
  have n0 := g_cr_v s ha hb hne
  have s1 := gO_swap a b p
  have s2 := g_cr_swap a b u
  have s3 := g_cr_swap a b (g_v s)
  unfold g_lx at h ⊢
  omega
/-- within a face that has the place on it or on its edges there is a place beside it -/
theorem tr_beside {n : Nat} {P : Nat → g_P} {L : Nat → Nat → Option Nat} (h : tr_Ok n P L) {p : g_P} (hp : tr_sq p) {x y z : Nat} (e : L x y = some z) (k : gInW (P x) (P y) (P z) p) : ∃ u : g_P, u.1.natAbs ≤ 100 ∧ u.2.natAbs ≤ 100 ∧ (∀ s, tr_In P L x y z (g_G p u (g_v s))) ∧ u = ((P x).1 + (P y).1 + (P z).1 - 3 * p.1, (P x).2 + (P y).2 + (P z).2 - 3 * p.2) := by
  obtain ⟨hx, hy, hz, hpos, -⟩ := h.tri x y z e
  have bx := h.pos.1 x hx
  have by' := h.pos.1 y hy
  have bz := h.pos.1 z hz
  obtain ⟨h1, h2, h3, h4⟩ := hp
  have b1 : ((P x).1 + (P y).1 + (P z).1 - 3 * p.1).natAbs ≤ 100 := by omega
  have b2 : ((P x).2 + (P y).2 + (P z).2 - 3 * p.2).natAbs ≤ 100 := by omega
  refine ⟨_, b1, b2, fun s => ?_, rfl⟩
  have r1 := gO_rot (P x) (P y) (P z)
  have r2 := gO_rot (P y) (P z) (P x)
  obtain ⟨k1, k2, k3⟩ := k
  refine g_inG h.pos h.tri e b1 b2 ?_ ?_ ?_
  · rcases g_lg 0 (gO (P x) (P y) p) with q | q
    · exact Or.inl q
    · refine Or.inr ⟨by omega, Or.inl ?_⟩
      rw [g_cr3, gO_aba, gO_ab]; omega
  · rcases g_lg 0 (gO (P y) (P z) p) with q | q
    · exact Or.inl q
    · refine Or.inr ⟨by omega, Or.inl ?_⟩
      rw [g_cr3, gO_aba, gO_ab]; omega
  · rcases g_lg 0 (gO (P z) (P x) p) with q | q
    · exact Or.inl q
    · refine Or.inr ⟨by omega, Or.inl ?_⟩
      rw [g_cr3, gO_aba, gO_ab]; omega
/-- strictly within a face: no other face has it -/
theorem tr_one {n : Nat} {P : Nat → g_P} {L : Nat → Nat → Option Nat} (h : tr_Ok n P L) {p : g_P} (hp : tr_sq p) {a b c x y z : Nat} (e : L a b = some c) (k : gIn (P a) (P b) (P c) p) (f : L x y = some z) (k' : gInW (P x) (P y) (P z) p) : tr_rot a b c x y z := by
  obtain ⟨u, b1, b2, i2, -⟩ := tr_beside h hp f k'
  have i1 := g_inG (s := true) h.pos h.tri e b1 b2 (Or.inl k.1) (Or.inl k.2.1) (Or.inl k.2.2)
  exact tr_Un.rot h.tri h.un (g_gen h.pos true b1 b2) i1 (i2 true)
/-- on an edge of a face: only that one and the one on the other side have it -/
theorem tr_two {n : Nat} {P : Nat → g_P} {L : Nat → Nat → Option Nat} (h : tr_Ok n P L) {p : g_P} (hp : tr_sq p) {a b c x y z : Nat} (e : L a b = some c) (h1 : gO (P a) (P b) p = 0) (h2 : 0 < gO (P b) (P c) p) (h3 : 0 < gO (P c) (P a) p) (f : L x y = some z) (k' : gInW (P x) (P y) (P z) p) : tr_rot a b c x y z ∨ ∃ d, L b a = some d ∧ tr_rot b a d x y z := by
  obtain ⟨ha, hb, hc, hpos, -⟩ := h.tri a b c e
  obtain ⟨hx, hy, hz, hpos2, -⟩ := h.tri x y z f
  obtain ⟨n1, n2, n3⟩ := tr_ne hpos
  have hab : P a ≠ P b := fun z => n1 (h.pos.2 a b ha hb z)
  obtain ⟨u, b1, b2, i2, hu⟩ := tr_beside h hp f k'
  by_cases g : g_lx (P a) (P b) p u true
  · have i1 := g_inG (s := true) h.pos h.tri e b1 b2 g (Or.inl h2) (Or.inl h3)
    exact Or.inl (tr_Un.rot h.tri h.un (g_gen h.pos true b1 b2) i1 (i2 true))
  · have g' := g_lx_neg2 (h.pos.1 a ha) (h.pos.1 b hb) hab g
    cases j : L b a with
    | some d =>
      obtain ⟨-, -, hd, hp2, -⟩ := h.tri b a d j
      obtain ⟨-, h4, h5⟩ := g_onEdge hpos hp2 h1 h2 h3
      have i1 := g_inG (s := true) h.pos h.tri j b1 b2 g' (Or.inl h4) (Or.inl h5)
      exact Or.inr ⟨d, rfl, tr_Un.rot h.tri h.un (g_gen h.pos true b1 b2) i1 (i2 true)⟩
    | none =>
      exfalso
      have sd := h.bd _ _ _ e j
      have s1 := sd (P x) (h.pos.1 x hx)
      have s2 := sd (P y) (h.pos.1 y hy)
      have s3 := sd (P z) (h.pos.1 z hz)
      apply g
      refine Or.inr ⟨h1, Or.inl ?_⟩
      rw [hu, g_cr3]
      rcases g_lg 0 (gO (P a) (P b) (P x) + gO (P a) (P b) (P y) + gO (P a) (P b) (P z) - 3 * gO (P a) (P b) p) with q | q
      · exact q
      · exfalso
        have i9 := gO_pl (P a) (P b) (P x) (P y) (P z)
        have z1 : gO (P a) (P b) (P x) = 0 := by omega
        have z2 : gO (P a) (P b) (P y) = 0 := by omega
        have z3 : gO (P a) (P b) (P z) = 0 := by omega
        have w1 : (P b).1 - (P a).1 ≠ 0 ∨ (P b).2 - (P a).2 ≠ 0 := by
          by_cases t1 : (P b).1 - (P a).1 = 0
          · by_cases t2 : (P b).2 - (P a).2 = 0
            · exact absurd (Prod.ext (by omega) (by omega)) hab
            · exact Or.inr t2
          · exact Or.inl t1
        have e1 : gO (P x) (P y) (P z) * ((P b).1 - (P a).1) = (gO (P a) (P b) (P y) - gO (P a) (P b) (P x)) * ((P x).1 - (P z).1) + (gO (P a) (P b) (P z) - gO (P a) (P b) (P x)) * ((P y).1 - (P x).1) := by unfold gO; grind
        have e2 : gO (P x) (P y) (P z) * ((P b).2 - (P a).2) = (gO (P a) (P b) (P y) - gO (P a) (P b) (P x)) * ((P x).2 - (P z).2) + (gO (P a) (P b) (P z) - gO (P a) (P b) (P x)) * ((P y).2 - (P x).2) := by unfold gO; grind
        rw [z1, z2, z3] at e1 e2
        simp only [Int.sub_self, Int.zero_mul, Int.add_zero] at e1 e2
        rcases w1 with w | w
        · rcases Int.mul_eq_zero.mp e1 with v | v <;> omega
        · rcases Int.mul_eq_zero.mp e2 with v | v <;> omega
