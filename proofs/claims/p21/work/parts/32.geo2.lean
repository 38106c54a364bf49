/-! places on edges too; circles -/
def gInW (a b c q : g_P) : Prop := 0 ≤ gO a b q ∧ 0 ≤ gO b c q ∧ 0 ≤ gO c a q
theorem gInW_rot {a b c q : g_P} (h : gInW a b c q) : gInW b c a q := ⟨h.2.1, h.2.2, h.1⟩
theorem gIn.w {a b c q : g_P} (h : gIn a b c q) : gInW a b c q := ⟨Int.le_of_lt h.1, Int.le_of_lt h.2.1, Int.le_of_lt h.2.2⟩
theorem g_nonpos {k x : Int} (hk : 0 < k) (h : k * x ≤ 0) : x ≤ 0 := by
  have h1 := g_nonneg (x := -x) hk (by rw [Int.mul_neg]; omega)
  omega
theorem g_flipW {a b c d q : g_P} (habc : 0 < gO a b c) (hbad : 0 < gO b a d) (h1 : gO c d a < 0) (h2 : 0 < gO c d b) (hq : gInW a b c q) : gInW d c a q ∨ gInW c d b q := by
  obtain ⟨qab, qbc, qca⟩ := hq
  rcases g_lg (gO c d q) 0 with hl | hl
  · refine Or.inl ⟨by rw [gO_swap]; omega, qca, ?_⟩
    have e := gO_pl a b c d q
    have s1 : gO a b d < 0 := by have := gO_swap a b d; omega
    have s2 : gO a c q ≤ 0 := by have := gO_swap c a q; omega
    have s3 : gO a c d < 0 := by have := gO_rot a c d; omega
    have p1 := Int.mul_nonneg_of_nonpos_of_nonpos (Int.le_of_lt s1) s2
    have p2 := Int.mul_nonpos_of_nonneg_of_nonpos qab (Int.le_of_lt s3)
    exact g_nonneg habc (by omega)
  · refine Or.inr ⟨by omega, ?_, qbc⟩
    have e := gO_pl b c a d q
    have s1 : 0 < gO b c d := by have := gO_rot b c d; omega
    have s2 : gO b a q ≤ 0 := by have := gO_swap a b q; omega
    have s4 : 0 < gO b c a := by rw [gO_rot]; exact habc
    have p1 := Int.mul_nonpos_of_nonneg_of_nonpos (Int.le_of_lt s1) s2
    have p2 := Int.mul_nonneg qbc (Int.le_of_lt hbad)
    have h9 : gO b d q ≤ 0 := g_nonpos s4 (by omega)
    have := gO_swap b d q
    omega
theorem g_splitW {a b c p q : g_P} (h1 : 0 < gO a b p) (h2 : 0 < gO b c p) (h3 : 0 < gO c a p) (hq : gInW a b c q) : gInW a b p q ∨ gInW b c p q ∨ gInW c a p q := by
  obtain ⟨qab, qbc, qca⟩ := hq
  have e := gO_bar a b c p q
  have e1 := gO_swap a p q
  have e2 := gO_swap b p q
  have e3 := gO_swap c p q
  rcases g_lg (gO a p q) 0 with ha | ha
  · rcases g_lg (gO b p q) 0 with hb | hb
    · rcases g_lg (gO c p q) 0 with hc | hc
      · have p1 := Int.mul_neg_of_pos_of_neg h2 ha
        have p2 := Int.mul_neg_of_pos_of_neg h3 hb
        have p3 := Int.mul_neg_of_pos_of_neg h1 hc
        omega
      · exact Or.inr (Or.inl ⟨qbc, by omega, by omega⟩)
    · exact Or.inl ⟨qab, by omega, by omega⟩
  · rcases g_lg (gO c p q) 0 with hc | hc
    · exact Or.inr (Or.inr ⟨qca, by omega, by omega⟩)
    · rcases g_lg 0 (gO b p q) with hb | hb
      · have p1 := Int.mul_nonneg (Int.le_of_lt h2) (show 0 ≤ gO a p q by omega)
        have p2 := Int.mul_pos h3 hb
        have p3 := Int.mul_nonneg (Int.le_of_lt h1) (show 0 ≤ gO c p q by omega)
        omega
      · exact Or.inr (Or.inl ⟨qbc, by omega, by omega⟩)
theorem g_cutW {a b c p q : g_P} (h : 0 < gO a b c) (h1 : gO a b p = 0) (h2 : 0 < gO b c p) (h3 : 0 < gO c a p) (hq : gInW a b c q) : gInW a p c q ∨ gInW p b c q := by
  obtain ⟨qab, qbc, qca⟩ := hq
  have e1 := gO_pl a b c p q
  have e2 := gO_pl b c a p q
  have s1 : gO a c p < 0 := by have := gO_swap c a p; omega
  have s2 : gO b a p = 0 := by have := gO_swap a b p; omega
  have s3 : gO b a q ≤ 0 := by have := gO_swap a b q; omega
  have s4 : 0 < gO b c a := by rw [gO_rot]; exact h
  rw [h1] at e1
  rw [s2] at e2
  have p1 := Int.mul_nonpos_of_nonneg_of_nonpos qab (Int.le_of_lt s1)
  have p2 := Int.mul_nonpos_of_nonneg_of_nonpos (Int.le_of_lt h2) s3
  have t1 : 0 ≤ gO a p q := g_nonneg h (by omega)
  have t2 : gO b p q ≤ 0 := g_nonpos s4 (by omega)
  have e3 := gO_swap b p q
  have e4 := gO_swap p c q
  rcases g_lg (gO p c q) 0 with hl | hl
  · exact Or.inr ⟨by omega, qbc, by omega⟩
  · exact Or.inl ⟨t1, by omega, qca⟩
/-- a place on an edge of one triangle is on it of the other one too -/
theorem g_onEdge {a b c d p : g_P} (h : 0 < gO a b c) (hd : 0 < gO b a d) (h1 : gO a b p = 0) (h2 : 0 < gO b c p) (h3 : 0 < gO c a p) : gO b a p = 0 ∧ 0 < gO a d p ∧ 0 < gO d b p := by
  have e0 := gO_swap a b p
  have s0 := gO_swap a b d
  refine ⟨by omega, ?_, ?_⟩
  · have e := gO_pl a b c d p
    rw [h1] at e
    have s1 : gO a c p < 0 := by have := gO_swap c a p; omega
    have p1 := Int.mul_pos_of_neg_of_neg (show gO a b d < 0 by omega) s1
    exact g_pos h (by omega)
  · have e := gO_pl b c a d p
    have s1 : gO b a p = 0 := by omega
    rw [s1] at e
    have p1 := Int.mul_pos h2 hd
    have s4 : 0 < gO b c a := by rw [gO_rot]; exact h
    have h9 : gO b d p < 0 := g_neg s4 (by omega)
    have := gO_swap b d p
    omega
/-- on two sides: at the corner -/
theorem g_corner {a b c p : g_P} (h : 0 < gO a b c) (h1 : gO a b p = 0) (h2 : gO b c p = 0) : p = b := by
  have e1 : gO a b c * (p.1 - b.1) = gO b c p * (a.1 - b.1) + gO a b p * (c.1 - b.1) := by unfold gO; grind
  have e2 : gO a b c * (p.2 - b.2) = gO b c p * (a.2 - b.2) + gO a b p * (c.2 - b.2) := by unfold gO; grind
  rw [h1, h2] at e1 e2
  have z1 : p.1 - b.1 = 0 := by
    rcases Int.mul_eq_zero.mp (show gO a b c * (p.1 - b.1) = 0 by omega) with q | q
    · omega
    · exact q
  have z2 : p.2 - b.2 = 0 := by
    rcases Int.mul_eq_zero.mp (show gO a b c * (p.2 - b.2) = 0 by omega) with q | q
    · omega
    · exact q
  exact Prod.ext (by omega) (by omega)
/-- heights: the squares; greater than 0: d within the circle of a, b, c that turn left -/
def gQ (a : g_P) : Int := a.1 * a.1 + a.2 * a.2
def gD (a b c d : g_P) : Int := gQ a * gO d b c + gQ b * gO d c a + gQ c * gO d a b - gQ d * gO a b c
theorem gD_rot (a b c d : g_P) : gD b c a d = gD a b c d := by
  unfold gD; rw [gO_rot a b c]; omega
theorem gD_opp (a b c d : g_P) : gD b a d c = gD a b c d := by
  unfold gD gO; grind
theorem gD_last (a b c d : g_P) : gD a d c b = - gD a b c d := by
  unfold gD gO; grind
theorem gD_c (a b c : g_P) : gD a b c c = 0 := by unfold gD gO; grind
theorem gD_b (a b c : g_P) : gD a b c b = 0 := by unfold gD gO; grind
theorem gD_4 (p q r s b : g_P) : gD p q s b * gO p q r = gD p q r b * gO p q s - gD p q r s * gO p q b := by
  unfold gD
  have i1 := gO_pl p q r s b
  generalize gQ p = hp
  generalize gQ q = hq
  generalize gQ r = hr
  generalize gQ s = hs
  generalize gQ b = hb
  unfold gO; grind
def gN (a b : g_P) : Int := (a.1 - b.1) * (a.1 - b.1) + (a.2 - b.2) * (a.2 - b.2)
theorem gN_nn (a b : g_P) : 0 ≤ gN a b := by
  have h : ∀ x : Int, 0 ≤ x * x := fun x => by
    rcases g_lg x 0 with q | q
    · exact Int.le_of_lt (Int.mul_pos_of_neg_of_neg q q)
    · exact Int.mul_nonneg q q
  have h1 := h (a.1 - b.1)
  have h2 := h (a.2 - b.2)
  unfold gN; omega
theorem gD_id (a b c d : g_P) : gD a b c d * gO d c a = gO a b c * (gO d b c * gN a d + gO d a b * gN c d) - gO d b c * gO d a b * gN a c := by
  unfold gD gN gQ gO; grind
theorem g_convex1 {a b c d : g_P} (h : 0 < gO a b c) (hd : gO a b d < 0) (hD : 0 < gD a b c d) : 0 < gO d b c := by
  have e := gD_id a b c d
  have s := gO_sum a b c d
  have r1 : gO d b c = gO b c d := by have := gO_rot d b c; omega
  have r2 : gO d c a = gO c a d := by have := gO_rot d c a; omega
  have r3 : gO d a b = gO a b d := by have := gO_rot d a b; omega
  rcases g_lg 0 (gO d b c) with q | q
  · exact q
  · exfalso
    have hb : 0 < gO d c a := by omega
    have p0 := Int.mul_pos hD hb
    have p1 := Int.mul_nonneg_of_nonpos_of_nonpos q (show gO d a b ≤ 0 by omega)
    have p2 := Int.mul_nonneg p1 (gN_nn a c)
    have p3 := Int.mul_nonpos_of_nonpos_of_nonneg q (gN_nn a d)
    have p4 := Int.mul_nonpos_of_nonpos_of_nonneg (show gO d a b ≤ 0 by omega) (gN_nn c d)
    have p5 := Int.mul_nonpos_of_nonneg_of_nonpos (Int.le_of_lt h) (show gO d b c * gN a d + gO d a b * gN c d ≤ 0 by omega)
    omega
theorem g_convex {a b c d : g_P} (h : 0 < gO a b c) (hd : 0 < gO b a d) (hD : 0 < gD a b c d) : gO c d a < 0 ∧ 0 < gO c d b := by
  have hd' : gO a b d < 0 := by have := gO_swap a b d; omega
  have k1 := g_convex1 h hd' hD
  have e2 := gD_opp a b c d
  have k2 := g_convex1 (a := b) (b := a) (c := d) (d := c) hd (by have := gO_swap b a c; have := gO_swap a b c; omega) (by omega)
  have r1 := gO_rot c d b
  have r2 := gO_rot d b c
  have r3 := gO_rot c a d
  have r4 := gO_swap d c a
  have r5 := gO_rot d c a
  have r6 := gO_swap3 c a d
  exact ⟨by have := gO_swap2 c a d; omega, by have := gO_rot c d b; omega⟩
