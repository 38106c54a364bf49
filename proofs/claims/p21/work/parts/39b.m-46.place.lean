/-! places -/
theorem x_place_of {x y : Int32} (h : x_place x y = true) : ∃ p : g_P, tr_sq p ∧ x = iN p.1 ∧ y = iN p.2 := by
  unfold x_place at h
  split at h
  · cases h
  · split at h
    · cases h
    · split at h
      · cases h
      · split at h
        · rename_i h1 h2 h3 h4
          have e1 : x = iN x.toInt := (Int32.ofInt_toInt x).symm
          have e2 : y = iN y.toInt := (Int32.ofInt_toInt y).symm
          rw [Int32.lt_iff_toInt_lt] at h1 h2 h3
          rw [Int32.le_iff_toInt_le] at h4
          have c0 : (0 : Int32).toInt = 0 := rfl
          have c1 : (30 : Int32).toInt = 30 := rfl
          exact ⟨(x.toInt, y.toInt), ⟨by show 0 ≤ x.toInt; omega, by show x.toInt ≤ 30; omega, by show 0 ≤ y.toInt; omega, by show y.toInt ≤ 30; omega⟩, e1, e2⟩
        · cases h
theorem place_eq (x y : Int32) : x_place x y = r_isPlace x y := by
  unfold x_place r_isPlace r_isIn
  have c0 : (0 : Int32).toInt = 0 := rfl
  have c1 : (30 : Int32).toInt = 30 := rfl
  by_cases h1 : x < 0
  · simp [h1]
  · by_cases h2 : 30 < x
    · simp [h1, h2]
    · by_cases h3 : y < 0
      · simp [h1, h2, h3]
      · by_cases h4 : y ≤ 30
        · have h5 : ¬ 30 < y := by rw [Int32.lt_iff_toInt_lt]; rw [Int32.le_iff_toInt_le] at h4; omega
          simp [h1, h2, h3, h4, h5]
        · have h5 : 30 < y := by rw [Int32.lt_iff_toInt_lt]; rw [Int32.le_iff_toInt_le] at h4; omega
          simp [h1, h2, h3, h4, h5]
section Q
variable {n t : Nat} {P : Nat → g_P} {L : Nat → Nat → Option Nat} {St : Nat → Nat → Bool} {f : Nat → Nat} {xs ys lf sy co : Nat → Int32} {xr yr tb : Nat → Int32} {sg : Nat → Nat → Int32} {p : g_P}
/-- some triangle of the list has a place -/
theorem cov_k (h : ti_A n t P L St f) (hp : tr_sq p) : ∃ k, k < t ∧ cB (P (f k / 32 / 32)) (P (f k / 32 % 32)) (P (f k % 32)) p = true := by
  obtain ⟨a, b, c, e, q⟩ := h.ok.cov p hp
  obtain ⟨k, hk, s⟩ := h.en.2.2 _ ⟨a, b, c, e, rfl⟩
  exact ⟨k, hk, (cB_face h hk).mpr ⟨a, b, c, e, s, q⟩⟩
theorem pCov_eq (h : ti_A n t P L St f) (hX : ti_X n P xr yr) (hT : ti_T t f tb) (hp : tr_sq p) {k : Nat} (hk : k < t) : r_pCov xr yr tb (iN p.1) (iN p.2) k = cB (P (f k / 32 / 32)) (P (f k / 32 % 32)) (P (f k % 32)) p := r_covers_eq h hX hT hk hp
theorem lies_ex (h : ti_A n t P L St f) (hX : ti_X n P xr yr) (hT : ti_T t f tb) (hp : tr_sq p) : ∃ k, k < t ∧ r_pCov xr yr tb (iN p.1) (iN p.2) k = true := by
  obtain ⟨k, hk, e⟩ := cov_k h hp
  exact ⟨k, hk, by rw [pCov_eq h hX hT hp hk]; exact e⟩
theorem find_fst (h : ti_A n t P L St f) (hm : ti_m n t P L St f xs ys lf sy co) (hr : ti_r n t P St f xr yr tb sg) (hp : tr_sq p) : rg_fst (m_pCov xs ys co (iN p.1) (iN p.2)) t = rg_fst (r_pCov xr yr tb (iN p.1) (iN p.2)) t := by
  obtain ⟨hX, hL, hS, hC⟩ := hm
  obtain ⟨hX', hT, hG⟩ := hr
  refine rg_fst_congr (fun k hk => ?_)
  rw [pCov_eq h hX' hT hp hk]
  exact m_covers_eq h hX hC hk hp
theorem find_eq (h : ti_A n t P L St f) (hm : ti_m n t P L St f xs ys lf sy co) (hr : ti_r n t P St f xr yr tb sg) (hp : tr_sq p) : ∃ k, k < t ∧ m_find t xs ys co (iN p.1) (iN p.2) = nI k ∧ r_liesN t xr yr tb (iN p.1) (iN p.2) = k ∧ cB (P (f k / 32 / 32)) (P (f k / 32 % 32)) (P (f k % 32)) p = true := by
  have e := find_fst h hm hr hp
  obtain ⟨i, e2, h1, h2, h3⟩ := rg_fst_ex (lies_ex h hr.1 hr.2.1 hp)
  refine ⟨i, h1, ?_, ?_, ?_⟩
  · unfold m_find; rw [e, e2]; rfl
  · unfold r_liesN; rw [e2]
  · rw [← pCov_eq h hr.1 hr.2.1 hp h1]; exact h2
theorem circ_eq (h : ti_A n t P L St f) (hm : ti_m n t P L St f xs ys lf sy co) (hr : ti_r n t P St f xr yr tb sg) (hp : tr_sq p) : m_circlesRound t xs ys co (iN p.1) (iN p.2) = nI (rg_ct (r_pCirc xr yr tb (iN p.1) (iN p.2)) t) := by
  obtain ⟨hX, hL, hS, hC⟩ := hm
  obtain ⟨hX', hT, hG⟩ := hr
  unfold m_circlesRound
  refine congrArg nI ?_
  refine rg_ct_congr (fun k hk => ?_)
  obtain ⟨k1, k2, k3, -, -⟩ := ti_k h hk
  obtain ⟨c0, c1, c2⟩ := m_corner_eq hC (ti_t28 h) hk
  obtain ⟨d0, d1, d2⟩ := r_corner_eq h hT hk
  unfold m_pCirc r_pCirc
  rw [c0, c1, c2, d0, d1, d2, m_circle_eq hX h.n17 h.sq (by omega) (by omega) k3 hp, r_within_eq hX' h.n17 h.sq (by omega) (by omega) k3 hp]
theorem near_eq (hn : n ≤ 17) (h1 : 1 ≤ n) (hX : ti_X n P xs ys) (hX' : ti_X n P xr yr) (x y : Int32) : m_nearestTo n xs ys x y = nI (rg_near (r_dTo xr yr x y) n) := by
  unfold m_nearestTo
  refine congrArg nI ?_
  refine rg_near_congr (fun j hj => ?_)
  obtain ⟨e1, e2⟩ := X_eq hX hX' hj
  unfold m_dTo r_dTo m_squareTo r_apart
  rw [m_xOf_nI (by omega), m_xOf_nI (by omega), nI_clamp (by omega), e1, e2]
theorem pAt_eq (hn : n ≤ 17) (hX : ti_X n P xs ys) (hX' : ti_X n P xr yr) (x y : Int32) {j : Nat} (hj : j < n) : m_pAt xs ys x y j = r_pAt xr yr x y j := by
  obtain ⟨e1, e2⟩ := X_eq hX hX' hj
  unfold m_pAt r_pAt
  rw [m_xOf_nI (by omega), m_xOf_nI (by omega), e1, e2]
theorem rg_any_fst {p : Nat → Bool} : ∀ k, rg_any p k = (rg_fst p k).isSome
  | 0 => rfl
  | k + 1 => by
    have i := rg_any_fst (p := p) k
    unfold rg_any rg_fst
    rw [i]
    cases e : rg_fst p k with
    | some j => rfl
    | none =>
      cases e2 : p k with
      | true => rfl
      | false => rfl
theorem hasCairn_eq (hn : n ≤ 17) (hX : ti_X n P xs ys) (hX' : ti_X n P xr yr) (x y : Int32) : m_hasCairnAt n xs ys x y = true ↔ ¬ r_cairnAt n xr yr x y = -1 := by
  unfold m_hasCairnAt r_cairnAt
  rw [rg_any_congr (fun j hj => pAt_eq hn hX hX' x y hj), rg_any_fst]
  cases e : rg_fst (r_pAt xr yr x y) n with
  | none => exact ⟨fun q => absurd q (by decide), fun q => absurd rfl q⟩
  | some j =>
    refine ⟨fun _ q => ?_, fun _ => rfl⟩
    by_cases w : ∃ j, j < n ∧ r_pAt xr yr x y j = true
    · obtain ⟨i, e2, h1, -⟩ := rg_fst_ex w
      rw [e] at e2
      cases e2
      exact nI_m19w (by omega) q
    · have : rg_fst (r_pAt xr yr x y) n = none := rg_fst_none (fun j hj => by
        cases e3 : r_pAt xr yr x y j with
        | false => rfl
        | true => exact absurd ⟨j, hj, e3⟩ w)
      rw [e] at this; cases this
theorem noCairn (hn : n ≤ 17) (hP : ∀ i, i < n → tr_sq (P i)) (hX : ti_X n P xs ys) (hp : tr_sq p) (h : m_hasCairnAt n xs ys (iN p.1) (iN p.2) = false) : ∀ i, i < n → P i ≠ p := by
  intro i hi e
  have q : m_pAt xs ys (iN p.1) (iN p.2) i = true := by
    unfold m_pAt
    rw [m_xOf_nI (by omega), m_xOf_nI (by omega), (hX i hi).1, (hX i hi).2, e, if_pos rfl, if_pos rfl]
  have := rg_any_t q hi
  unfold m_hasCairnAt at h
  rw [this] at h; cases h
theorem x_hOf_nI {hs : Nat → Int32} {a : Nat} (ha : a < 16) : x_hOf hs (nI a) = hs a := by
  have h16 : ¬ (16 : Int32) ≤ nI a := fun q => absurd ((nI_leI (a := 16) (by decide) (by omega)).mp q) (by omega)
  unfold x_hOf
  rw [if_neg (nI_pos (by omega)), if_neg h16, nI_clamp (by omega)]
theorem height_eq (h : ti_A n t P L St f) (hm : ti_m n t P L St f xs ys lf sy co) (hr : ti_r n t P St f xr yr tb sg) {hs hr' : Nat → Int32} (hn : n ≤ 16) (hh : ∀ i, i < n → hs i = hr' i) (hp : tr_sq p) : ¬ r_areaOf xr yr tb (nI (r_liesN t xr yr tb (iN p.1) (iN p.2))) = 0 ∧ x_height t xs ys co hs (iN p.1) (iN p.2) = r_hs xr yr hr' tb (nI (r_liesN t xr yr tb (iN p.1) (iN p.2))) (iN p.1) (iN p.2) / r_areaOf xr yr tb (nI (r_liesN t xr yr tb (iN p.1) (iN p.2))) := by
  obtain ⟨k, hk, e1, e2, -⟩ := find_eq h hm hr hp
  obtain ⟨hX, hL, hS, hC⟩ := hm
  obtain ⟨hX', hT, hG⟩ := hr
  obtain ⟨k1, k2, k3, -, k5⟩ := ti_k h hk
  obtain ⟨c0, c1, c2⟩ := m_corner_eq hC (ti_t28 h) hk
  obtain ⟨d0, d1, d2⟩ := r_corner_eq h hT hk
  have b := gO_bd (h.sq (f k / 32 / 32) (by omega)) (h.sq (f k / 32 % 32) (by omega)) (h.sq (f k % 32) (by omega))
  have nz : gO (P (f k / 32 / 32)) (P (f k / 32 % 32)) (P (f k % 32)) ≠ 0 := by
    rcases k5 with k5 | k5
    · have := (h.ok.tri _ _ _ k5).2.2.2.1; omega
    · have := (h.ok.tri _ _ _ k5).2.2.2.1
      have := gO_swap2 (P (f k / 32 / 32)) (P (f k / 32 % 32)) (P (f k % 32))
      omega
  rw [e2, r_areaOf_eq h hX' hT hk]
  constructor
  · intro q
    have := (iN_eq (b := 0) (by omega) (by decide)).mp q
    omega
  · unfold x_height
    rw [e1, m_areaOf_eq h hX hC hk]
    have i : ¬ iN ((gO (P (f k / 32 / 32)) (P (f k / 32 % 32)) (P (f k % 32))).natAbs : Int) ≤ 0 := fun q => by
      have := (iN_le (b := 0) (by omega) (by decide)).mp q
      omega
    rw [if_neg i]
    refine congrArg (fun z : Int32 => z / iN ((gO (P (f k / 32 / 32)) (P (f k / 32 % 32)) (P (f k % 32))).natAbs : Int)) ?_
    unfold x_sum r_hs
    rw [c0, c1, c2, d0, d1, d2, x_hOf_nI (by omega), x_hOf_nI (by omega), x_hOf_nI (by omega), nI_clamp (by omega), nI_clamp (by omega), nI_clamp (by omega), hh _ (by omega), hh _ (by omega), hh _ (by omega), m_turn_eq hX h.n17 (by omega) (by omega), m_turn_eq hX h.n17 (by omega) (by omega), m_turn_eq hX h.n17 (by omega) (by omega), r_area_eq hX' h.n17 (by omega) (by omega), r_area_eq hX' h.n17 (by omega) (by omega), r_area_eq hX' h.n17 (by omega) (by omega), Int32.zero_add]
end Q

