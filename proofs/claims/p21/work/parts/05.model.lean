/-! the mesh's reading methods, in numbers of 32 bits -/
def m_isCairn (n : Nat) (a : Int32) : Bool := if a < 0 then false else if 17 ≤ a then false else if nI n ≤ a then false else true
def m_xOf (xs : Nat → Int32) (a : Int32) : Int32 := if a < 0 then 0 else if 17 ≤ a then 0 else xs a.toNatClampNeg
def m_leftOf (lf : Nat → Int32) (a b : Int32) : Int32 := if a < 0 then (-1) else if 17 ≤ a then (-1) else if b < 0 then (-1) else if 17 ≤ b then (-1) else lf (a * 17 + b).toNatClampNeg
def m_corner (co : Nat → Int32) (t w : Int32) : Int32 := if t < 0 then (-1) else if 28 ≤ t then (-1) else if w < 0 then (-1) else if w ≤ 2 then co (3 * t + w).toNatClampNeg else (-1)
def m_squareTo (xs ys : Nat → Int32) (a x y : Int32) : Int32 := (m_xOf xs a - x) * (m_xOf xs a - x) + (m_xOf ys a - y) * (m_xOf ys a - y)
def m_turn (xs ys : Nat → Int32) (a b x y : Int32) : Int32 := (m_xOf xs b - m_xOf xs a) * (y - m_xOf ys a) - (m_xOf ys b - m_xOf ys a) * (x - m_xOf xs a)
def m_areaOf (xs ys co : Nat → Int32) (t : Int32) : Int32 := abs32 (m_turn xs ys (m_corner co t 0) (m_corner co t 1) (m_xOf xs (m_corner co t 2)) (m_xOf ys (m_corner co t 2)))
def m_covA (p q r : Int32) : Bool := if p < 0 then false else (if q < 0 then false else (if r < 0 then false else true))
def m_covB (p q r : Int32) : Bool := if 0 < p then false else (if 0 < q then false else (if 0 < r then false else true))
def m_covers (xs ys co : Nat → Int32) (t x y : Int32) : Bool := m_covA (m_turn xs ys (m_corner co t 0) (m_corner co t 1) x y) (m_turn xs ys (m_corner co t 1) (m_corner co t 2) x y) (m_turn xs ys (m_corner co t 2) (m_corner co t 0) x y) || m_covB (m_turn xs ys (m_corner co t 0) (m_corner co t 1) x y) (m_turn xs ys (m_corner co t 1) (m_corner co t 2) x y) (m_turn xs ys (m_corner co t 2) (m_corner co t 0) x y)
def m_sumC (ax ay bx by' cx cy bc ca ab : Int32) : Int32 := (ax * ax + ay * ay) * bc + (bx * bx + by' * by') * ca + (cx * cx + cy * cy) * ab
def m_sgn (z w : Int32) : Bool := if z ≤ 0 then (if 0 ≤ w then false else true) else (if w ≤ 0 then false else true)
def m_crs (p q r t : Int32) : Int32 := p * q - r * t
def m_circle (ax ay bx by' cx cy : Int32) : Bool := m_sgn (m_crs ax by' ay bx + m_crs bx cy by' cx + m_crs cx ay cy ax) (m_sumC ax ay bx by' cx cy (m_crs bx cy by' cx) (m_crs cx ay cy ax) (m_crs ax by' ay bx))
def m_circleHolds (xs ys : Nat → Int32) (a b c x y : Int32) : Bool := m_circle (m_xOf xs a - x) (m_xOf ys a - y) (m_xOf xs b - x) (m_xOf ys b - y) (m_xOf xs c - x) (m_xOf ys c - y)
def m_isEdge (lf : Nat → Int32) (a b : Int32) : Bool := if m_leftOf lf a b = (-1) then (if m_leftOf lf b a = (-1) then false else true) else true
def m_isInner (lf : Nat → Int32) (a b : Int32) : Bool := if m_leftOf lf a b = (-1) then false else (if m_leftOf lf b a = (-1) then false else true)
def m_mustStay (n : Nat) (sy : Nat → Int32) (a b : Int32) : Bool := if m_isCairn n a = true then (if m_isCairn n b = true then (if sy (a * 17 + b).toNatClampNeg = 1 then true else false) else false) else false
def m_isUnfair (xs ys lf : Nat → Int32) (a b : Int32) : Bool := if m_isInner lf a b = true then m_circleHolds xs ys a b (m_leftOf lf a b) (m_xOf xs (m_leftOf lf b a)) (m_xOf ys (m_leftOf lf b a)) else false
def m_isTurnable (n : Nat) (xs ys lf sy : Nat → Int32) (a b : Int32) : Bool := if m_isInner lf a b = true then (if m_mustStay n sy a b = true then false else (if 0 ≤ m_turn xs ys (m_leftOf lf a b) (m_leftOf lf b a) (m_xOf xs a) (m_xOf ys a) then false else (if m_turn xs ys (m_leftOf lf a b) (m_leftOf lf b a) (m_xOf xs b) (m_xOf ys b) ≤ 0 then false else true))) else false
def m_isEdgeThat (n : Nat) (xs ys lf sy : Nat → Int32) (f a b : Int32) : Bool := if m_isEdge lf a b = true then (if f = 1 then (!m_isInner lf a b) else if f = 2 then m_mustStay n sy a b else if f = 3 then m_isUnfair xs ys lf a b else if f = 4 then m_isTurnable n xs ys lf sy a b else if f = 0 then true else false) else false
theorem m_isCairn_in {n : Nat} {a b : Int32} (ha : m_isCairn n a = true) (hb : m_isCairn n b = true) : vp_in (a * 17 + b) 289 := by
  unfold m_isCairn at ha hb
  split at ha
  · exact absurd ha (by decide)
  · split at ha
    · exact absurd ha (by decide)
    · split at hb
      · exact absurd hb (by decide)
      · split at hb
        · exact absurd hb (by decide)
        · exact in_row (by assumption) (by assumption) (by assumption) (by assumption)
theorem tsw_out4_1 {f : Int32} (h1 : ¬ f = 1) (h2 : ¬ f = 2) (h3 : ¬ f = 3) (h4 : ¬ f = 4) : f.toInt < 1 ∨ 4 < f.toInt := by
  rw [← Int32.toInt_inj] at h1 h2 h3 h4
  have e1 : (1 : Int32).toInt = 1 := rfl
  have e2 : (2 : Int32).toInt = 2 := rfl
  have e3 : (3 : Int32).toInt = 3 := rfl
  have e4 : (4 : Int32).toInt = 4 := rfl
  omega
/-! the loops -/
theorem nI_nle_lt {a b : Nat} (ha : a < 2 ^ 31) (hb : b < 2 ^ 31) (h : ¬ nI b ≤ nI a) : a < b := by
  rw [nI_leI hb ha] at h; omega
theorem nI_le_le {a b : Nat} (ha : a < 2 ^ 31) (hb : b < 2 ^ 31) (h : nI b ≤ nI a) : b ≤ a := (nI_leI hb ha).mp h
/-- how many of 0 .. k - 1 have p -/
def rg_ct (p : Nat → Bool) : Nat → Nat
  | 0 => 0
  | k + 1 => rg_ct p k + (if p k = true then 1 else 0)
theorem rg_ct_t {p : Nat → Bool} {k : Nat} (h : p k = true) : rg_ct p (k + 1) = rg_ct p k + 1 := by simp [rg_ct, h]
theorem rg_ct_f {p : Nat → Bool} {k : Nat} (h : p k = false) : rg_ct p (k + 1) = rg_ct p k := by simp [rg_ct, h]
theorem rg_ct_0 {p : Nat → Bool} : ∀ {k : Nat}, (∀ j, j < k → p j = false) → rg_ct p k = 0
  | 0, _ => rfl
  | k + 1, h => by rw [rg_ct_f (h k (by omega)), rg_ct_0 (fun j hj => h j (by omega))]
theorem rg_ct_le (p : Nat → Bool) : ∀ k : Nat, rg_ct p k ≤ k
  | 0 => Nat.le_refl _
  | k + 1 => by have := rg_ct_le p k; unfold rg_ct; split <;> omega
def rg_sum (f : Nat → Nat) : Nat → Nat
  | 0 => 0
  | k + 1 => rg_sum f k + f k
/-- is there one among 0 .. k - 1 -/
def rg_any (p : Nat → Bool) : Nat → Bool
  | 0 => false
  | k + 1 => if rg_any p k = true then true else p k
theorem rg_any_f {p : Nat → Bool} : ∀ {k : Nat}, (∀ j, j < k → p j = false) → rg_any p k = false
  | 0, _ => rfl
  | k + 1, h => by
    have h1 := rg_any_f (p := p) (k := k) (fun j hj => h j (by omega))
    simp [rg_any, h1, h k (by omega)]
theorem rg_any_t {p : Nat → Bool} {i : Nat} (h : p i = true) : ∀ {k : Nat}, i < k → rg_any p k = true
  | 0, hk => absurd hk (Nat.not_lt_zero _)
  | k + 1, hk => by
    rcases Nat.lt_or_ge i k with q | q
    · simp [rg_any, rg_any_t h q]
    · have e : i = k := by omega
      subst e
      simp [rg_any, h]
/-- the first one among 0 .. k - 1 -/
def rg_fst (p : Nat → Bool) : Nat → Option Nat
  | 0 => none
  | k + 1 => match rg_fst p k with
    | some j => some j
    | none => if p k = true then some k else none
theorem rg_fst_none {p : Nat → Bool} : ∀ {k : Nat}, (∀ j, j < k → p j = false) → rg_fst p k = none
  | 0, _ => rfl
  | k + 1, h => by
    have h1 := rg_fst_none (p := p) (k := k) (fun j hj => h j (by omega))
    simp [rg_fst, h1, h k (by omega)]
theorem rg_fst_some {p : Nat → Bool} {i : Nat} (h : p i = true) (hb : ∀ j, j < i → p j = false) : ∀ {k : Nat}, i < k → rg_fst p k = some i
  | 0, hk => absurd hk (Nat.not_lt_zero _)
  | k + 1, hk => by
    rcases Nat.lt_or_ge i k with q | q
    · simp [rg_fst, rg_fst_some h hb q]
    · have e : i = k := by omega
      subst e
      simp [rg_fst, rg_fst_none hb, h]
def rg_idx (o : Option Nat) (d : Int32) : Int32 := match o with
  | some j => nI j
  | none => d
theorem rg_bef {p : Nat → Bool} {i : Nat} (hb : ∀ j, j < i → p j = false) (h : p i = false) : ∀ j, j < i + 1 → p j = false := by
  intro j hj
  rcases Nat.lt_or_ge j i with q | q
  · exact hb j q
  · have e : j = i := by omega
    rw [e]; exact h
/-- the smallest of 0 .. k - 1 that has the smallest d -/
def rg_near (d : Nat → Int32) : Nat → Nat
  | 0 => 0
  | k + 1 => if k = 0 then 0 else (if d (rg_near d k) ≤ d k then rg_near d k else k)
theorem rg_near_le {d : Nat → Int32} {k : Nat} (hk : 1 ≤ k) (h : d (rg_near d k) ≤ d k) : rg_near d (k + 1) = rg_near d k := by
  have e : ¬ k = 0 := by omega
  simp only [rg_near, if_neg e, if_pos h]
theorem rg_near_lt {d : Nat → Int32} {k : Nat} (hk : 1 ≤ k) (h : ¬ d (rg_near d k) ≤ d k) : rg_near d (k + 1) = k := by
  have e : ¬ k = 0 := by omega
  simp only [rg_near, if_neg e, if_neg h]
def m_pAt (xs ys : Nat → Int32) (x y : Int32) (j : Nat) : Bool := if m_xOf xs (nI j) = x then (if m_xOf ys (nI j) = y then true else false) else false
def m_hasCairnAt (n : Nat) (xs ys : Nat → Int32) (x y : Int32) : Bool := rg_any (m_pAt xs ys x y) n
def m_dTo (xs ys : Nat → Int32) (x y : Int32) (j : Nat) : Int32 := m_squareTo xs ys (nI j) x y
def m_nearestTo (n : Nat) (xs ys : Nat → Int32) (x y : Int32) : Int32 := nI (rg_near (m_dTo xs ys x y) n)
def m_pEdge (lf : Nat → Int32) (a : Int32) (j : Nat) : Bool := m_isEdge lf a (nI j)
def m_edgesAt (n : Nat) (lf : Nat → Int32) (a : Int32) : Int32 := nI (rg_ct (m_pEdge lf a) n)
def m_pLeft (lf : Nat → Int32) (a : Int32) (j : Nat) : Bool := if m_leftOf lf a (nI j) = (-1) then false else true
def m_trianglesAt (n : Nat) (lf : Nat → Int32) (a : Int32) : Int32 := nI (rg_ct (m_pLeft lf a) n)
def m_pCov (xs ys co : Nat → Int32) (x y : Int32) (j : Nat) : Bool := m_covers xs ys co (nI j) x y
def m_find (t : Nat) (xs ys co : Nat → Int32) (x y : Int32) : Int32 := rg_idx (rg_fst (m_pCov xs ys co x y) t) (-1)
def m_pCirc (xs ys co : Nat → Int32) (x y : Int32) (j : Nat) : Bool := m_circleHolds xs ys (m_corner co (nI j) 0) (m_corner co (nI j) 1) (m_corner co (nI j) 2) x y
def m_circlesRound (t : Nat) (xs ys co : Nat → Int32) (x y : Int32) : Int32 := nI (rg_ct (m_pCirc xs ys co x y) t)
def m_pET (n : Nat) (xs ys lf sy : Nat → Int32) (f : Int32) (a b : Nat) : Bool := if b ≤ a then false else m_isEdgeThat n xs ys lf sy f (nI a) (nI b)
def m_rET (n : Nat) (xs ys lf sy : Nat → Int32) (f : Int32) (a : Nat) : Nat := rg_ct (m_pET n xs ys lf sy f a) n
def m_edgesThat (n : Nat) (xs ys lf sy : Nat → Int32) (f : Int32) : Int32 := nI (rg_sum (m_rET n xs ys lf sy f) n)
theorem m_pET_lo {n : Nat} {xs ys lf sy : Nat → Int32} {f : Int32} {a j : Nat} (h : j < a + 1) : m_pET n xs ys lf sy f a j = false := if_pos (by omega)
theorem m_pET_hi {n : Nat} {xs ys lf sy : Nat → Int32} {f : Int32} {a j : Nat} {z : Bool} (h : a < j) (e : m_isEdgeThat n xs ys lf sy f (nI a) (nI j) = z) : m_pET n xs ys lf sy f a j = z := by
  unfold m_pET; rw [if_neg (by omega)]; exact e
def m_bit (r i : Int32) : Int32 := (r >>> (i &&& 31)) &&& 1
def m_wnS (lf : Nat → Int32) (r : Int32) (a b : Nat) (w : Int32) : Int32 := if m_bit r (nI a) = 1 then (if m_isEdge lf (nI a) (nI b) = true then w ||| (1 <<< (nI b &&& 31)) else w) else w
def m_wnI (lf : Nat → Int32) (r : Int32) (a : Nat) (w : Int32) : Nat → Int32
  | 0 => w
  | b + 1 => m_wnS lf r a b (m_wnI lf r a w b)
def m_wnO (lf : Nat → Int32) (n : Nat) (r : Int32) : Nat → Int32
  | 0 => r
  | a + 1 => m_wnI lf r a (m_wnO lf n r a) n
def m_withN (n : Nat) (lf : Nat → Int32) (r : Int32) : Int32 := m_wnO lf n r n
def m_stR (n : Nat) (lf : Nat → Int32) (r : Int32) : Nat → Int32
  | 0 => r
  | k + 1 => m_withN n lf (m_stR n lf r k)
def m_st0 (n : Nat) (a : Int32) : Int32 := if m_isCairn n a = true then 1 <<< (a &&& 31) else 0
def m_pSt (n : Nat) (lf : Nat → Int32) (r b : Int32) (k : Nat) : Bool := if m_isCairn n b = true then (if m_bit (m_stR n lf r k) b = 1 then true else false) else false
def m_steps (n : Nat) (lf : Nat → Int32) (a b : Int32) : Int32 := rg_idx (rg_fst (m_pSt n lf (m_st0 n a) b) n) 0
