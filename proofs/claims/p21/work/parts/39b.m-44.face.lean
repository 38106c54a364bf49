/-! the single triangles of the list -/
section Q
variable {n t : Nat} {P : Nat → g_P} {L : Nat → Nat → Option Nat} {St : Nat → Nat → Bool} {f : Nat → Nat} {xs ys lf sy co : Nat → Int32} {xr yr tb : Nat → Int32} {sg : Nat → Nat → Int32}
theorem ti_k (h : ti_A n t P L St f) {k : Nat} (hk : k < t) : f k / 32 / 32 < f k / 32 % 32 ∧ f k / 32 % 32 < f k % 32 ∧ f k % 32 < n ∧ f k < 32768 ∧ (L (f k / 32 / 32) (f k / 32 % 32) = some (f k % 32) ∨ L (f k / 32 / 32) (f k % 32) = some (f k / 32 % 32)) := by
  have hn := h.n17
  obtain ⟨x, y, z, e, s⟩ := h.en.2.1 k hk
  obtain ⟨h1, h2, h3, h4, h5⟩ := h.ok.tri x y z e
  have h6 := h.ok.tri.rot2 e
  obtain ⟨m1, m2, m3⟩ := tr_ne h4
  have lt := sc_lt (a := x) (b := y) (c := z) (by omega) (by omega) (by omega)
  obtain ⟨d0, d1, d2⟩ := sc_d (a := x) (b := y) (c := z) (by omega) (by omega) (by omega)
  rw [s, d0, d1, d2]
  refine ⟨by omega, by omega, by omega, lt, ?_⟩
  rcases Nat.lt_or_ge x y with p | p <;> rcases Nat.lt_or_ge y z with q | q <;> rcases Nat.lt_or_ge x z with r | r
  · rw [show min x (min y z) = x from by omega, show max x (max y z) = z from by omega, show x + y + z - x - z = y from by omega]; exact Or.inl e
  · omega
  · rw [show min x (min y z) = x from by omega, show max x (max y z) = y from by omega, show x + y + z - x - y = z from by omega]; exact Or.inr e
  · rw [show min x (min y z) = z from by omega, show max x (max y z) = y from by omega, show x + y + z - z - y = x from by omega]; exact Or.inl h6
  · rw [show min x (min y z) = y from by omega, show max x (max y z) = z from by omega, show x + y + z - y - z = x from by omega]; exact Or.inr h5
  · rw [show min x (min y z) = y from by omega, show max x (max y z) = x from by omega, show x + y + z - y - x = z from by omega]; exact Or.inl h5
  · omega
  · rw [show min x (min y z) = z from by omega, show max x (max y z) = x from by omega, show x + y + z - z - x = y from by omega]; exact Or.inr h6
theorem ti_t28 (h : ti_A n t P L St f) : t ≤ 28 := by have := h.t2; have := h.n17; omega
theorem m_corner_eq (hC : ti_C t f co) (ht : t ≤ 28) {k : Nat} (hk : k < t) : m_corner co (nI k) 0 = nI (f k / 32 / 32) ∧ m_corner co (nI k) 1 = nI (f k / 32 % 32) ∧ m_corner co (nI k) 2 = nI (f k % 32) := by
  obtain ⟨q0, q1, q2⟩ := hC k hk
  have h28 : ¬ (28 : Int32) ≤ nI k := fun q => absurd ((nI_leI (a := 28) (by decide) (by omega)).mp q) (by omega)
  have e3 : (3 : Int32) * nI k = nI (3 * k) := by rw [show (3 : Int32) = nI 3 from rfl, pk_mul]
  unfold m_corner
  rw [if_neg (nI_pos (by omega)), if_neg h28, if_neg (by decide), if_pos (by decide), if_neg (nI_pos (by omega)), if_neg h28, if_neg (by decide), if_pos (by decide), if_neg (nI_pos (by omega)), if_neg h28, if_neg (by decide), if_pos (by decide), e3]
  refine ⟨?_, ?_, ?_⟩
  · rw [show (0 : Int32) = nI 0 from rfl, nI_add, nI_clamp (by omega)]; exact q0
  · rw [show (1 : Int32) = nI 1 from rfl, nI_add, nI_clamp (by omega)]; exact q1
  · rw [show (2 : Int32) = nI 2 from rfl, nI_add, nI_clamp (by omega)]; exact q2
theorem r_corner_eq (h : ti_A n t P L St f) (hT : ti_T t f tb) {k : Nat} (hk : k < t) : r_corner tb (nI k) 0 = nI (f k / 32 / 32) ∧ r_corner tb (nI k) 1 = nI (f k / 32 % 32) ∧ r_corner tb (nI k) 2 = nI (f k % 32) := by
  have := ti_t28 h
  exact r_corner_nI (by omega) (hT k hk) (ti_k h hk).2.2.2.1
/-- a triangle has a place, on it or on its edges -/
def cB (a b c p : g_P) : Bool := decide ((0 ≤ gO a b p ∧ 0 ≤ gO b c p ∧ 0 ≤ gO c a p) ∨ (gO a b p ≤ 0 ∧ gO b c p ≤ 0 ∧ gO c a p ≤ 0))
theorem m_covA_eq {u v w : Int} (hu : u.natAbs < 2 ^ 31) (hv : v.natAbs < 2 ^ 31) (hw : w.natAbs < 2 ^ 31) : (m_covA (iN u) (iN v) (iN w) || m_covB (iN u) (iN v) (iN w)) = decide ((0 ≤ u ∧ 0 ≤ v ∧ 0 ≤ w) ∨ (u ≤ 0 ∧ v ≤ 0 ∧ w ≤ 0)) := by
  have a1 : iN u < 0 ↔ u < 0 := iN_lt (b := 0) hu (by decide)
  have a2 : iN v < 0 ↔ v < 0 := iN_lt (b := 0) hv (by decide)
  have a3 : iN w < 0 ↔ w < 0 := iN_lt (b := 0) hw (by decide)
  have b1 : 0 < iN u ↔ 0 < u := iN_lt (a := 0) (by decide) hu
  have b2 : 0 < iN v ↔ 0 < v := iN_lt (a := 0) (by decide) hv
  have b3 : 0 < iN w ↔ 0 < w := iN_lt (a := 0) (by decide) hw
  have e1 : m_covA (iN u) (iN v) (iN w) = decide (0 ≤ u ∧ 0 ≤ v ∧ 0 ≤ w) := by
    unfold m_covA
    simp only [a1, a2, a3]
    split
    · exact (decide_eq_false (by omega)).symm
    · split
      · exact (decide_eq_false (by omega)).symm
      · split
        · exact (decide_eq_false (by omega)).symm
        · exact (decide_eq_true (by omega)).symm
  have e2 : m_covB (iN u) (iN v) (iN w) = decide (u ≤ 0 ∧ v ≤ 0 ∧ w ≤ 0) := by
    unfold m_covB
    simp only [b1, b2, b3]
    split
    · exact (decide_eq_false (by omega)).symm
    · split
      · exact (decide_eq_false (by omega)).symm
      · split
        · exact (decide_eq_false (by omega)).symm
        · exact (decide_eq_true (by omega)).symm
  rw [e1, e2, ← Bool.decide_or]
theorem m_covers_eq (h : ti_A n t P L St f) (hX : ti_X n P xs ys) (hC : ti_C t f co) {k : Nat} (hk : k < t) {p : g_P} (hp : tr_sq p) : m_covers xs ys co (nI k) (iN p.1) (iN p.2) = cB (P (f k / 32 / 32)) (P (f k / 32 % 32)) (P (f k % 32)) p := by
  obtain ⟨k1, k2, k3, -, -⟩ := ti_k h hk
  obtain ⟨c0, c1, c2⟩ := m_corner_eq hC (ti_t28 h) hk
  have hn := h.n17
  unfold m_covers
  rw [c0, c1, c2, m_turn_eq hX hn (by omega) (by omega), m_turn_eq hX hn (by omega) (by omega), m_turn_eq hX hn (by omega) (by omega)]
  have s0 := h.sq (f k / 32 / 32) (by omega)
  have s1 := h.sq (f k / 32 % 32) (by omega)
  have s2 := h.sq (f k % 32) (by omega)
  have b1 := gO_bd s0 s1 hp
  have b2 := gO_bd s1 s2 hp
  have b3 := gO_bd s2 s0 hp
  rw [m_covA_eq (by omega) (by omega) (by omega)]
  rfl
theorem r_areaOf_eq (h : ti_A n t P L St f) (hX : ti_X n P xr yr) (hT : ti_T t f tb) {k : Nat} (hk : k < t) : r_areaOf xr yr tb (nI k) = iN ((gO (P (f k / 32 / 32)) (P (f k / 32 % 32)) (P (f k % 32))).natAbs : Int) := by
  obtain ⟨k1, k2, k3, -, -⟩ := ti_k h hk
  obtain ⟨c0, c1, c2⟩ := r_corner_eq h hT hk
  have hn := h.n17
  unfold r_areaOf
  rw [c0, c1, c2, nI_clamp (by omega), (hX _ k3).1, (hX _ k3).2, r_area_eq hX hn (by omega) (by omega)]
  have b := gO_bd (h.sq (f k / 32 / 32) (by omega)) (h.sq (f k / 32 % 32) (by omega)) (h.sq (f k % 32) (by omega))
  exact iN_abs (by omega)
theorem m_areaOf_eq (h : ti_A n t P L St f) (hX : ti_X n P xs ys) (hC : ti_C t f co) {k : Nat} (hk : k < t) : m_areaOf xs ys co (nI k) = iN ((gO (P (f k / 32 / 32)) (P (f k / 32 % 32)) (P (f k % 32))).natAbs : Int) := by
  obtain ⟨k1, k2, k3, -, -⟩ := ti_k h hk
  obtain ⟨c0, c1, c2⟩ := m_corner_eq hC (ti_t28 h) hk
  have hn := h.n17
  unfold m_areaOf
  rw [c0, c1, c2, m_xOf_nI (by omega), m_xOf_nI (by omega), (hX _ k3).1, (hX _ k3).2, m_turn_eq hX hn (by omega) (by omega)]
  have b := gO_bd (h.sq (f k / 32 / 32) (by omega)) (h.sq (f k / 32 % 32) (by omega)) (h.sq (f k % 32) (by omega))
  exact iN_abs (by omega)
theorem r_covers_eq (h : ti_A n t P L St f) (hX : ti_X n P xr yr) (hT : ti_T t f tb) {k : Nat} (hk : k < t) {p : g_P} (hp : tr_sq p) : r_covers xr yr tb (nI k) (iN p.1) (iN p.2) = cB (P (f k / 32 / 32)) (P (f k / 32 % 32)) (P (f k % 32)) p := by
  obtain ⟨k1, k2, k3, -, -⟩ := ti_k h hk
  obtain ⟨c0, c1, c2⟩ := r_corner_eq h hT hk
  have hn := h.n17
  unfold r_covers
  rw [r_areaOf_eq h hX hT hk, c0, c1, c2, r_area_eq hX hn (by omega) (by omega), r_area_eq hX hn (by omega) (by omega), r_area_eq hX hn (by omega) (by omega)]
  have s0 := h.sq (f k / 32 / 32) (by omega)
  have s1 := h.sq (f k / 32 % 32) (by omega)
  have s2 := h.sq (f k % 32) (by omega)
  have b1 := gO_bd s0 s1 hp
  have b2 := gO_bd s1 s2 hp
  have b3 := gO_bd s2 s0 hp
  have b4 := gO_bd s0 s1 s2
  have sm := gO_sum (P (f k / 32 / 32)) (P (f k / 32 % 32)) (P (f k % 32)) p
  rw [iN_abs (by omega), iN_abs (by omega), iN_abs (by omega), iN_add, iN_add]
  have i := iN_eq (a := ((gO (P (f k / 32 / 32)) (P (f k / 32 % 32)) p).natAbs : Int) + ((gO (P (f k / 32 % 32)) (P (f k % 32)) p).natAbs : Int) + ((gO (P (f k % 32)) (P (f k / 32 / 32)) p).natAbs : Int)) (b := ((gO (P (f k / 32 / 32)) (P (f k / 32 % 32)) (P (f k % 32))).natAbs : Int)) (by omega) (by omega)
  unfold cB
  by_cases q : ((gO (P (f k / 32 / 32)) (P (f k / 32 % 32)) p).natAbs : Int) + ((gO (P (f k / 32 % 32)) (P (f k % 32)) p).natAbs : Int) + ((gO (P (f k % 32)) (P (f k / 32 / 32)) p).natAbs : Int) = ((gO (P (f k / 32 / 32)) (P (f k / 32 % 32)) (P (f k % 32))).natAbs : Int)
  · rw [if_pos (i.mpr q)]; exact (decide_eq_true (by omega)).symm
  · rw [if_neg (fun z => q (i.mp z))]; exact (decide_eq_false (by omega)).symm
/-- a covering triangle is a face that has the place -/
theorem cB_face (h : ti_A n t P L St f) {k : Nat} (hk : k < t) {p : g_P} : cB (P (f k / 32 / 32)) (P (f k / 32 % 32)) (P (f k % 32)) p = true ↔ ∃ x y z, L x y = some z ∧ f k = sc x y z ∧ gInW (P x) (P y) (P z) p := by
  obtain ⟨k1, k2, k3, k4, k5⟩ := ti_k h hk
  have hn := h.n17
  have e : f k = sc (f k / 32 / 32) (f k / 32 % 32) (f k % 32) := by unfold sc; omega
  unfold cB
  rw [decide_eq_true_eq]
  generalize f k / 32 / 32 = a at *
  generalize f k / 32 % 32 = b at *
  generalize f k % 32 = c at *
  have s1 := gO_swap (P a) (P b) p
  have s2 := gO_swap (P b) (P c) p
  have s3 := gO_swap (P c) (P a) p
  have sm := gO_sum (P a) (P b) (P c) p
  constructor
  · intro q
    rcases k5 with k5 | k5
    · have g := (h.ok.tri _ _ _ k5).2.2.2.1
      refine ⟨a, b, c, k5, e, ?_⟩
      unfold gInW; omega
    · have g := (h.ok.tri _ _ _ k5).2.2.2.1
      have g2 := gO_swap2 (P a) (P b) (P c)
      refine ⟨a, c, b, k5, by rw [e, sc_swap2], ?_⟩
      unfold gInW; omega
  · rintro ⟨x, y, z, l, s, q⟩
    rcases k5 with k5 | k5
    · have r := tr_S_face h.ok.tri hn l k5 (by rw [← s, e])
      have q2 := r.inW q
      unfold gInW at q2; omega
    · have r := tr_S_face h.ok.tri hn l k5 (by rw [← s, e, sc_swap2])
      have q2 := r.inW q
      unfold gInW at q2; omega
end Q

