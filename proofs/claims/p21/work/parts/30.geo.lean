/-! plane geometry over whole numbers: points are pairs; gO a b c: twice the area, greater than 0 if they turn left -/
abbrev g_P : Type := Int × Int
def gO (a b c : g_P) : Int := (b.1 - a.1) * (c.2 - a.2) - (b.2 - a.2) * (c.1 - a.1)
theorem gO_rot (a b c : g_P) : gO b c a = gO a b c := by unfold gO; grind
theorem gO_swap (a b c : g_P) : gO b a c = - gO a b c := by unfold gO; grind
theorem gO_swap2 (a b c : g_P) : gO a c b = - gO a b c := by unfold gO; grind
theorem gO_swap3 (a b c : g_P) : gO c b a = - gO a b c := by unfold gO; grind
theorem gO_sum (a b c q : g_P) : gO a b q + gO b c q + gO c a q = gO a b c := by unfold gO; grind
theorem gO_pl (a b c d q : g_P) : gO a b c * gO a d q = gO a b d * gO a c q - gO a b q * gO a c d := by unfold gO; grind
theorem gO_aa (a b : g_P) : gO a a b = 0 := by unfold gO; grind
theorem gO_ab (a b : g_P) : gO a b b = 0 := by unfold gO; grind
theorem gO_aba (a b : g_P) : gO a b a = 0 := by unfold gO; grind
theorem gO_bar (a b c p q : g_P) : gO b c p * gO a p q + gO c a p * gO b p q + gO a b p * gO c p q = 0 := by unfold gO; grind
theorem g_lg (a b : Int) : a < b ∨ b ≤ a := by omega
theorem g_pos {k x : Int} (hk : 0 < k) (h : 0 < k * x) : 0 < x := by
  rcases g_lg 0 x with q | q
  · exact q
  · have h1 := Int.mul_nonneg (Int.le_of_lt hk) (show 0 ≤ -x by omega)
    rw [Int.mul_neg] at h1
    omega
theorem g_neg {k x : Int} (hk : 0 < k) (h : k * x < 0) : x < 0 := by
  have h1 := g_pos (x := -x) hk (by rw [Int.mul_neg]; omega)
  omega
theorem g_nonneg {k x : Int} (hk : 0 < k) (h : 0 ≤ k * x) : 0 ≤ x := by
  rcases g_lg x 0 with q | q
  · have h1 := Int.mul_pos hk (show 0 < -x by omega)
    rw [Int.mul_neg] at h1
    omega
  · exact q
/-- within a triangle, beside its edges -/
def gIn (a b c q : g_P) : Prop := 0 < gO a b q ∧ 0 < gO b c q ∧ 0 < gO c a q
theorem gIn_rot {a b c q : g_P} (h : gIn a b c q) : gIn b c a q := ⟨h.2.1, h.2.2, h.1⟩
/-- a place within one triangle of a flipped edge is within one of the two new ones -/
theorem g_flip {a b c d q : g_P} (habc : 0 < gO a b c) (hbad : 0 < gO b a d) (h1 : gO c d a < 0) (h2 : 0 < gO c d b) (hq : gIn a b c q) (hcd : gO c d q ≠ 0) : gIn d c a q ∨ gIn c d b q := by
  obtain ⟨qab, qbc, qca⟩ := hq
  rcases g_lg (gO c d q) 0 with hl | hl
  · refine Or.inl ⟨by rw [gO_swap]; omega, qca, ?_⟩
    have e := gO_pl a b c d q
    have s1 : gO a b d < 0 := by have := gO_swap a b d; omega
    have s2 : gO a c q < 0 := by have := gO_swap c a q; omega
    have s3 : gO a c d < 0 := by have := gO_rot a c d; omega
    have p1 := Int.mul_pos_of_neg_of_neg s1 s2
    have p2 := Int.mul_neg_of_pos_of_neg qab s3
    exact g_pos habc (by omega)
  · refine Or.inr ⟨by omega, ?_, qbc⟩
    have e := gO_pl b c a d q
    have s1 : 0 < gO b c d := by have := gO_rot b c d; omega
    have s2 : gO b a q < 0 := by have := gO_swap a b q; omega
    have s4 : 0 < gO b c a := by rw [gO_rot]; exact habc
    have p1 := Int.mul_neg_of_pos_of_neg s1 s2
    have p2 := Int.mul_pos qbc hbad
    have h9 : gO b d q < 0 := g_neg s4 (by omega)
    have := gO_swap b d q
    omega
/-- a place within a triangle is within one of the three that a point in it makes -/
theorem g_split {a b c p q : g_P} (h1 : 0 < gO a b p) (h2 : 0 < gO b c p) (h3 : 0 < gO c a p) (hq : gIn a b c q) (n1 : gO a p q ≠ 0) (n2 : gO b p q ≠ 0) (n3 : gO c p q ≠ 0) : gIn a b p q ∨ gIn b c p q ∨ gIn c a p q := by
  obtain ⟨qab, qbc, qca⟩ := hq
  have e := gO_bar a b c p q
  have e1 := gO_swap a p q
  have e2 := gO_swap b p q
  have e3 := gO_swap c p q
  rcases g_lg (gO a p q) 0 with ha | ha
  · rcases g_lg (gO b p q) 0 with hb | hb
    · rcases g_lg (gO c p q) 0 with hc | hc
      · have p1 := Int.mul_neg_of_pos_of_neg h2 ha
        have p2 := Int.mul_neg_of_pos_of_neg h3 hb
        have p3 := Int.mul_neg_of_pos_of_neg h1 hc
        omega
      · exact Or.inr (Or.inl ⟨qbc, by omega, by omega⟩)
    · exact Or.inl ⟨qab, by omega, by omega⟩
  · rcases g_lg (gO c p q) 0 with hc | hc
    · exact Or.inr (Or.inr ⟨qca, by omega, by omega⟩)
    · rcases g_lg (gO b p q) 0 with hb | hb
      · exact Or.inr (Or.inl ⟨qbc, by omega, by omega⟩)
      · have p1 := Int.mul_pos h2 (show 0 < gO a p q by omega)
        have p2 := Int.mul_pos h3 (show 0 < gO b p q by omega)
        have p3 := Int.mul_pos h1 (show 0 < gO c p q by omega)
        omega
/-- within a part is within the whole -/
theorem g_part {a b c p q : g_P} (h : 0 < gO a b c) (h1 : 0 < gO a b p) (h2 : 0 ≤ gO b c p) (h3 : 0 ≤ gO c a p) (hq : gIn a b p q) : gIn a b c q := by
  obtain ⟨qab, qbp, qpa⟩ := hq
  refine ⟨qab, ?_, ?_⟩
  · have e := gO_pl b p a c q
    have s1 : 0 < gO b p a := by rw [gO_rot]; exact h1
    have s2 : gO b p c ≤ 0 := by have := gO_swap2 b c p; omega
    have s3 : gO b a q < 0 := by have := gO_swap a b q; omega
    have s4 : gO b a c < 0 := by have := gO_swap a b c; omega
    have p1 := Int.mul_nonneg_of_nonpos_of_nonpos s2 (Int.le_of_lt s3)
    have p2 := Int.mul_neg_of_pos_of_neg qbp s4
    exact g_pos s1 (by omega)
  · have e := gO_pl a b p c q
    have s1 : gO a p q < 0 := by have := gO_swap a p q; omega
    have s2 : 0 ≤ gO a p c := by have := gO_swap2 a p c; have := gO_swap c a p; omega
    have p1 := Int.mul_neg_of_pos_of_neg h s1
    have p2 := Int.mul_nonneg (Int.le_of_lt qab) s2
    have h9 : gO a c q < 0 := g_neg h1 (by omega)
    have := gO_swap a c q
    omega
/-- a point on an edge: the halves of a triangle -/
theorem g_cut {a b c p q : g_P} (h : 0 < gO a b c) (h1 : gO a b p = 0) (h2 : 0 < gO b c p) (h3 : 0 < gO c a p) (hq : gIn a b c q) (n1 : gO p c q ≠ 0) : gIn a p c q ∨ gIn p b c q := by
  obtain ⟨qab, qbc, qca⟩ := hq
  have e1 := gO_pl a b c p q
  have e2 := gO_pl b c a p q
  have s1 : gO a c p < 0 := by have := gO_swap c a p; omega
  have s2 : gO b a p = 0 := by have := gO_swap a b p; omega
  have s3 : gO b a q < 0 := by have := gO_swap a b q; omega
  have s4 : 0 < gO b c a := by rw [gO_rot]; exact h
  rw [h1] at e1
  rw [s2] at e2
  have p1 := Int.mul_neg_of_pos_of_neg qab s1
  have p2 := Int.mul_neg_of_pos_of_neg h2 s3
  have t1 : 0 < gO a p q := g_pos h (by omega)
  have t2 : gO b p q < 0 := g_neg s4 (by omega)
  have e3 := gO_swap b p q
  have e4 := gO_swap p c q
  rcases g_lg (gO p c q) 0 with hl | hl
  · exact Or.inr ⟨by omega, qbc, by omega⟩
  · exact Or.inl ⟨t1, by omega, qca⟩
theorem g_half1 {a b c p q : g_P} (h : 0 < gO a b c) (h1 : gO a b p = 0) (h2 : 0 < gO b c p) (h3 : 0 < gO c a p) (hq : gIn a p c q) : gIn a b c q := by
  obtain ⟨qap, qpc, qca⟩ := hq
  have e1 := gO_pl a b c p q
  rw [h1] at e1
  have s1 : gO a c p = - gO c a p := gO_swap c a p
  rw [s1] at e1
  have t1 : 0 < gO a b q := by
    have p1 := Int.mul_pos h qap
    refine g_pos h3 ?_
    rw [Int.mul_neg] at e1
    rw [Int.mul_comm]
    omega
  refine ⟨t1, ?_, qca⟩
  have e2 := gO_pl c a p b q
  have s2 : 0 < gO c a b := by have := gO_rot c a b; omega
  have s3 : gO c p q < 0 := by have := gO_swap p c q; omega
  have s4 : 0 < gO c p b := by have := gO_rot b c p; omega
  have p1 := Int.mul_neg_of_pos_of_neg s2 s3
  have p2 := Int.mul_pos qca s4
  have t2 : gO c b q < 0 := g_neg h3 (by omega)
  have := gO_swap c b q
  omega
theorem g_half2 {a b c p q : g_P} (h : 0 < gO a b c) (h1 : gO a b p = 0) (h2 : 0 < gO b c p) (h3 : 0 < gO c a p) (hq : gIn p b c q) : gIn a b c q := by
  obtain ⟨qpb, qbc, qcp⟩ := hq
  have e1 := gO_pl b c a p q
  have s2 : gO b a p = 0 := by have := gO_swap a b p; omega
  rw [s2] at e1
  have s4 : 0 < gO b c a := by rw [gO_rot]; exact h
  have s5 : gO b p q < 0 := by have := gO_swap p b q; omega
  have p1 := Int.mul_neg_of_pos_of_neg s4 s5
  have t1 : gO b a q < 0 := g_neg h2 (by omega)
  have e3 := gO_swap a b q
  refine ⟨by omega, qbc, ?_⟩
  have e2 := gO_pl c b p a q
  have s6 : gO c b p < 0 := by have := gO_swap b c p; omega
  have s7 : gO c b a < 0 := by have := gO_swap3 a b c; omega
  have s8 : gO c b q < 0 := by have := gO_swap b c q; omega
  have s9 : gO c p a < 0 := by have := gO_swap2 c a p; omega
  have p2 := Int.mul_neg_of_neg_of_pos s7 qcp
  have p3 := Int.mul_pos_of_neg_of_neg s8 s9
  have t3 : 0 < gO b c p * gO c a q := by
    have e4 : gO c b p = - gO b c p := gO_swap b c p
    rw [e4, Int.neg_mul] at e2
    omega
  exact g_pos h2 t3
/-! a place, and a step beside it that is as good as nothing: gM steps make a small one, gM * gM a whole one -/
def gM : Int := 1000000000000
def gK : Int := 1000000000000000000000000
def g_S (p : g_P) : g_P := (gK * p.1, gK * p.2)
def g_G (p u v : g_P) : g_P := (gK * p.1 + gM * u.1 + v.1, gK * p.2 + gM * u.2 + v.2)
def g_cr (a b u : g_P) : Int := (b.1 - a.1) * u.2 - (b.2 - a.2) * u.1
theorem gO_S (a b c : g_P) : gO (g_S a) (g_S b) (g_S c) = gK * (gK * gO a b c) := by unfold gO g_S; grind
theorem gO_G (a b p u v : g_P) : gO (g_S a) (g_S b) (g_G p u v) = gK * (gK * gO a b p + gM * g_cr a b u + g_cr a b v) := by unfold gO g_S g_G g_cr; grind
theorem g_lexP {A B C : Int} (hB : B.natAbs ≤ 1000000000) (hC : C.natAbs ≤ 1000000000) (h : 0 < A ∨ (A = 0 ∧ (0 < B ∨ (B = 0 ∧ 0 < C)))) : 0 < gK * A + gM * B + C := by
  unfold gK gM; omega
theorem g_lexN {A B C : Int} (hB : B.natAbs ≤ 1000000000) (hC : C.natAbs ≤ 1000000000) (h : A < 0 ∨ (A = 0 ∧ (B < 0 ∨ (B = 0 ∧ C < 0)))) : gK * A + gM * B + C < 0 := by
  unfold gK gM; omega
theorem g_bd {x y : Int} {A B : Nat} (hx : x.natAbs ≤ A) (hy : y.natAbs ≤ B) : (x * y).natAbs ≤ A * B := by
  rw [Int.natAbs_mul]; exact Nat.mul_le_mul hx hy
theorem gK_pos : 0 < gK := by decide
