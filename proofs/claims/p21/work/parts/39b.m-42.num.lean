/-! whole numbers in 32 bits -/
abbrev iN (z : Int) : Int32 := Int32.ofInt z
theorem iN_toInt {z : Int} (h : z.natAbs < 2 ^ 31) : (iN z).toInt = z := Int32.toInt_ofInt_of_le (by omega) (by omega)
theorem iN_add (a b : Int) : iN a + iN b = iN (a + b) := (Int32.ofInt_add a b).symm
theorem iN_sub (a b : Int) : iN a - iN b = iN (a - b) := by
  rw [← Int32.toInt_inj]
  simp [Int32.toInt_sub, Int32.toInt_ofInt]
theorem iN_mul (a b : Int) : iN a * iN b = iN (a * b) := (Int32.ofInt_mul a b).symm
theorem iN_nI (n : Nat) : nI n = iN (n : Int) := by
  unfold nI iN
  exact (Int32.ofInt_eq_ofNat).symm
theorem iN_le {a b : Int} (ha : a.natAbs < 2 ^ 31) (hb : b.natAbs < 2 ^ 31) : iN a ≤ iN b ↔ a ≤ b := by
  rw [Int32.le_iff_toInt_le, iN_toInt ha, iN_toInt hb]
theorem iN_lt {a b : Int} (ha : a.natAbs < 2 ^ 31) (hb : b.natAbs < 2 ^ 31) : iN a < iN b ↔ a < b := by
  rw [Int32.lt_iff_toInt_lt, iN_toInt ha, iN_toInt hb]
theorem iN_eq {a b : Int} (ha : a.natAbs < 2 ^ 31) (hb : b.natAbs < 2 ^ 31) : iN a = iN b ↔ a = b := by
  refine ⟨fun h => ?_, fun h => by rw [h]⟩
  have := congrArg Int32.toInt h
  rwa [iN_toInt ha, iN_toInt hb] at this
theorem iN_0 : (0 : Int32) = iN 0 := rfl
theorem iN_abs {a : Int} (ha : a.natAbs < 2 ^ 31) : abs32 (iN a) = iN (a.natAbs : Int) := by
  unfold abs32
  by_cases h : 0 ≤ a
  · rw [if_pos (by rw [iN_0, iN_le (by decide) ha]; exact h)]; congr 1; omega
  · rw [if_neg (by rw [iN_0, iN_le (by decide) ha]; exact h), iN_0, iN_sub]; congr 1; omega
abbrev ti_X (n : Nat) (P : Nat → g_P) (xs ys : Nat → Int32) : Prop := ∀ i, i < n → xs i = iN (P i).1 ∧ ys i = iN (P i).2
theorem m_xOf_nI {xs : Nat → Int32} {a : Nat} (ha : a < 17) : m_xOf xs (nI a) = xs a := by
  unfold m_xOf
  have h17 : ¬ (17 : Int32) ≤ nI a := fun q => absurd ((nI_leI (a := 17) (by decide) (by omega)).mp q) (by omega)
  rw [if_neg (nI_pos (by omega)), if_neg h17, nI_clamp (by omega)]
theorem m_turn_eq {n : Nat} {P : Nat → g_P} {xs ys : Nat → Int32} (hX : ti_X n P xs ys) (hn : n ≤ 17) {a b : Nat} (ha : a < n) (hb : b < n) (p : g_P) : m_turn xs ys (nI a) (nI b) (iN p.1) (iN p.2) = iN (gO (P a) (P b) p) := by
  unfold m_turn gO
  rw [m_xOf_nI (by omega), m_xOf_nI (by omega), m_xOf_nI (by omega), m_xOf_nI (by omega), (hX a ha).1, (hX a ha).2, (hX b hb).1, (hX b hb).2]
  simp only [iN_sub, iN_mul]
theorem r_area_eq {n : Nat} {P : Nat → g_P} {xs ys : Nat → Int32} (hX : ti_X n P xs ys) (hn : n ≤ 17) {a b : Nat} (ha : a < n) (hb : b < n) (p : g_P) : r_area xs ys (nI a) (nI b) (iN p.1) (iN p.2) = iN (gO (P a) (P b) p) := by
  unfold r_area gO
  rw [nI_clamp (by omega), nI_clamp (by omega), (hX a ha).1, (hX a ha).2, (hX b hb).1, (hX b hb).2]
  simp only [iN_sub, iN_mul]
/-! bounds -/
theorem gO_bd {a b p : g_P} (ha : tr_sq a) (hb : tr_sq b) (hp : tr_sq p) : (gO a b p).natAbs ≤ 1800 := by
  unfold gO
  unfold tr_sq at ha hb hp
  have p1 := g_bd (x := b.1 - a.1) (y := p.2 - a.2) (A := 30) (B := 30) (by omega) (by omega)
  have p2 := g_bd (x := b.2 - a.2) (y := p.1 - a.1) (A := 30) (B := 30) (by omega) (by omega)
  omega
theorem gQ_bd {a : g_P} (ha : tr_sq a) : (gQ a).natAbs ≤ 1800 := by
  unfold gQ
  unfold tr_sq at ha
  have p1 := g_bd (x := a.1) (y := a.1) (A := 30) (B := 30) (by omega) (by omega)
  have p2 := g_bd (x := a.2) (y := a.2) (A := 30) (B := 30) (by omega) (by omega)
  omega
theorem gD_bd {a b c d : g_P} (ha : tr_sq a) (hb : tr_sq b) (hc : tr_sq c) (hd : tr_sq d) : (gD a b c d).natAbs ≤ 20000000 := by
  unfold gD
  have p1 := g_bd (gQ_bd ha) (gO_bd hd hb hc)
  have p2 := g_bd (gQ_bd hb) (gO_bd hd hc ha)
  have p3 := g_bd (gQ_bd hc) (gO_bd hd ha hb)
  have p4 := g_bd (gQ_bd hd) (gO_bd ha hb hc)
  omega
/-- within the circle, whichever way the corners turn -/
def gW (a b c p : g_P) : Bool := if gO a b c ≤ 0 then decide (gD a b c p < 0) else decide (0 < gD a b c p)
theorem gD_u (a b c p : g_P) : ((a.1 - p.1) * (a.1 - p.1) + (a.2 - p.2) * (a.2 - p.2)) * ((b.1 - p.1) * (c.2 - p.2) - (b.2 - p.2) * (c.1 - p.1)) + ((b.1 - p.1) * (b.1 - p.1) + (b.2 - p.2) * (b.2 - p.2)) * ((c.1 - p.1) * (a.2 - p.2) - (c.2 - p.2) * (a.1 - p.1)) + ((c.1 - p.1) * (c.1 - p.1) + (c.2 - p.2) * (c.2 - p.2)) * ((a.1 - p.1) * (b.2 - p.2) - (a.2 - p.2) * (b.1 - p.1)) = gD a b c p := by
  unfold gD gQ gO; grind
theorem gD_u2 (a b c p : g_P) : ((a.1 - p.1) * (a.1 - p.1) + (a.2 - p.2) * (a.2 - p.2)) * ((b.1 - p.1) * (c.2 - p.2) - (c.1 - p.1) * (b.2 - p.2)) - ((b.1 - p.1) * (b.1 - p.1) + (b.2 - p.2) * (b.2 - p.2)) * ((a.1 - p.1) * (c.2 - p.2) - (c.1 - p.1) * (a.2 - p.2)) + ((c.1 - p.1) * (c.1 - p.1) + (c.2 - p.2) * (c.2 - p.2)) * ((a.1 - p.1) * (b.2 - p.2) - (b.1 - p.1) * (a.2 - p.2)) = gD a b c p := by
  unfold gD gQ gO; grind
theorem gO_u (a b c p : g_P) : (a.1 - p.1) * (b.2 - p.2) - (a.2 - p.2) * (b.1 - p.1) + ((b.1 - p.1) * (c.2 - p.2) - (b.2 - p.2) * (c.1 - p.1)) + ((c.1 - p.1) * (a.2 - p.2) - (c.2 - p.2) * (a.1 - p.1)) = gO a b c := by
  unfold gO; grind
theorem m_circle_eq {n : Nat} {P : Nat → g_P} {xs ys : Nat → Int32} (hX : ti_X n P xs ys) (hn : n ≤ 17) (hP : ∀ i, i < n → tr_sq (P i)) {a b c : Nat} (ha : a < n) (hb : b < n) (hc : c < n) {p : g_P} (hp : tr_sq p) : m_circleHolds xs ys (nI a) (nI b) (nI c) (iN p.1) (iN p.2) = gW (P a) (P b) (P c) p := by
  unfold m_circleHolds m_circle
  rw [m_xOf_nI (by omega), m_xOf_nI (by omega), m_xOf_nI (by omega), m_xOf_nI (by omega), m_xOf_nI (by omega), m_xOf_nI (by omega), (hX a ha).1, (hX a ha).2, (hX b hb).1, (hX b hb).2, (hX c hc).1, (hX c hc).2]
  unfold m_crs m_sumC
  simp only [iN_sub, iN_mul, iN_add]
  rw [gD_u, gO_u]
  have b1 := gO_bd (hP a ha) (hP b hb) (hP c hc)
  have b2 := gD_bd (hP a ha) (hP b hb) (hP c hc) hp
  unfold m_sgn gW
  have i1 : iN (gO (P a) (P b) (P c)) ≤ 0 ↔ gO (P a) (P b) (P c) ≤ 0 := iN_le (b := 0) (by omega) (by decide)
  have i2 : 0 ≤ iN (gD (P a) (P b) (P c) p) ↔ 0 ≤ gD (P a) (P b) (P c) p := iN_le (a := 0) (by decide) (by omega)
  have i3 : iN (gD (P a) (P b) (P c) p) ≤ 0 ↔ gD (P a) (P b) (P c) p ≤ 0 := iN_le (b := 0) (by omega) (by decide)
  by_cases h : gO (P a) (P b) (P c) ≤ 0
  · rw [if_pos (i1.mpr h), if_pos h]
    by_cases k : 0 ≤ gD (P a) (P b) (P c) p
    · rw [if_pos (i2.mpr k)]; exact (decide_eq_false (by omega)).symm
    · rw [if_neg (fun q => k (i2.mp q))]; exact (decide_eq_true (by omega)).symm
  · rw [if_neg (fun q => h (i1.mp q)), if_neg h]
    by_cases k : gD (P a) (P b) (P c) p ≤ 0
    · rw [if_pos (i3.mpr k)]; exact (decide_eq_false (by omega)).symm
    · rw [if_neg (fun q => k (i3.mp q))]; exact (decide_eq_true (by omega)).symm
theorem r_within_eq {n : Nat} {P : Nat → g_P} {xs ys : Nat → Int32} (hX : ti_X n P xs ys) (hn : n ≤ 17) (hP : ∀ i, i < n → tr_sq (P i)) {a b c : Nat} (ha : a < n) (hb : b < n) (hc : c < n) {p : g_P} (hp : tr_sq p) : r_isWithin xs ys (nI a) (nI b) (nI c) (iN p.1) (iN p.2) = gW (P a) (P b) (P c) p := by
  unfold r_isWithin r_sum
  rw [nI_clamp (show a < 2 ^ 31 by omega), nI_clamp (show b < 2 ^ 31 by omega), nI_clamp (show c < 2 ^ 31 by omega), (hX a ha).1, (hX a ha).2, (hX b hb).1, (hX b hb).2, (hX c hc).1, (hX c hc).2, r_area_eq hX hn ha hb (P c)]
  simp only [iN_sub, iN_mul, iN_add]
  rw [gD_u2]
  have b1 := gO_bd (hP a ha) (hP b hb) (hP c hc)
  have b2 := gD_bd (hP a ha) (hP b hb) (hP c hc) hp
  unfold gW
  have i1 : iN (gO (P a) (P b) (P c)) ≤ 0 ↔ gO (P a) (P b) (P c) ≤ 0 := iN_le (b := 0) (by omega) (by decide)
  have i2 : 0 ≤ iN (gD (P a) (P b) (P c) p) ↔ 0 ≤ gD (P a) (P b) (P c) p := iN_le (a := 0) (by decide) (by omega)
  have i3 : iN (gD (P a) (P b) (P c) p) ≤ 0 ↔ gD (P a) (P b) (P c) p ≤ 0 := iN_le (b := 0) (by omega) (by decide)
  by_cases h : gO (P a) (P b) (P c) ≤ 0
  · rw [if_pos (i1.mpr h), if_pos h]
    by_cases k : 0 ≤ gD (P a) (P b) (P c) p
    · rw [if_pos (i2.mpr k)]; exact (decide_eq_false (by omega)).symm
    · rw [if_neg (fun q => k (i2.mp q))]; exact (decide_eq_true (by omega)).symm
  · rw [if_neg (fun q => h (i1.mp q)), if_neg h]
    by_cases k : gD (P a) (P b) (P c) p ≤ 0
    · rw [if_pos (i3.mpr k)]; exact (decide_eq_false (by omega)).symm
    · rw [if_neg (fun q => k (i3.mp q))]; exact (decide_eq_true (by omega)).symm

