/-! the reference: its face -/
def r_b1 {α : Type} (p : Bool) (x y : α) : α := if p = true then x else y
def r_b2 {α : Type} (p q : Bool) (x y : α) : α := if p = true then (if q = true then x else y) else y
def r_b3 {α : Type} (p q r : Bool) (x y : α) : α := if p = true then (if q = true then (if r = true then x else y) else y) else y
theorem in_isInE {n M : Nat} {a : Int32} (hn : n ≤ M) (hM : M < 2 ^ 31) (h1 : 1 ≤ n) (h : r_isIn a 0 (nI n - 1) = true) : ∃ j, j < n ∧ a = nI j := by
  obtain ⟨m, rfl⟩ : ∃ m, n = m + 1 := ⟨n - 1, by omega⟩
  rw [nI_pred] at h
  unfold r_isIn at h
  split at h
  · cases h
  · split at h
    · cases h
    · rename_i h2 h3
      rcases pk_ix a (n := m + 1) (by omega) with q | q | q
      · exact absurd q h2
      · exfalso
        apply h3
        rw [Int32.lt_iff_toInt_lt, nI_toInt (by omega)]
        rw [Int32.le_iff_toInt_le, nI_toInt (by omega)] at q
        omega
      · exact q
theorem in_isIn {n : Nat} {a : Int32} (hn : n ≤ 17) (h1 : 1 ≤ n) (h : r_isIn a 0 (nI n - 1) = true) : vp_in a 17 := by
  obtain ⟨j, hj, rfl⟩ := in_isInE hn (by decide) h1 h
  exact vp_in_nI (by omega) (by decide)
theorem okF_of {n t : Nat} {tb : Nat → Int32} {a b : Int32} (hn : n ≤ 17) (h1 : 1 ≤ n) (hFF : ∀ a b, a < n → b < n → r_okF t tb (nI a) (nI b)) (ha : r_isIn a 0 (nI n - 1) = true) (hb : r_isIn b 0 (nI n - 1) = true) : r_okF t tb a b := by
  obtain ⟨i, hi, rfl⟩ := in_isInE hn (by decide) h1 ha
  obtain ⟨j, hj, rfl⟩ := in_isInE hn (by decide) h1 hb
  exact hFF i j hi hj
def r_liesN (t : Nat) (xs ys tb : Nat → Int32) (x y : Int32) : Nat := match rg_fst (r_pCov xs ys tb x y) t with
  | some k => k
  | none => 0
theorem r_lies_spec {t : Nat} {xs ys tb : Nat → Int32} {x y : Int32} (h : ∃ k, k < t ∧ r_pCov xs ys tb x y k = true) : r_liesN t xs ys tb x y < t ∧ r_pCov xs ys tb x y (r_liesN t xs ys tb x y) = true ∧ ∀ j, j < r_liesN t xs ys tb x y → r_pCov xs ys tb x y j = false := by
  obtain ⟨i, e, h1, h2, h3⟩ := rg_fst_ex h
  have e2 : r_liesN t xs ys tb x y = i := by unfold r_liesN; rw [e]
  rw [e2]
  exact ⟨h1, h2, h3⟩
def r_dTo (xs ys : Nat → Int32) (x y : Int32) (j : Nat) : Int32 := r_apart xs ys (nI j) x y
def r_pCirc (xs ys tb : Nat → Int32) (x y : Int32) (j : Nat) : Bool := r_isWithin xs ys (r_corner tb (nI j) 0) (r_corner tb (nI j) 1) (r_corner tb (nI j) 2) x y
/-- the height, before it is divided -/
def r_hs (xs ys hs tb : Nat → Int32) (k x y : Int32) : Int32 := 0 + hs (r_corner tb k 0).toNatClampNeg * abs32 (r_area xs ys (r_corner tb k 1) (r_corner tb k 2) x y) + hs (r_corner tb k 1).toNatClampNeg * abs32 (r_area xs ys (r_corner tb k 2) (r_corner tb k 0) x y) + hs (r_corner tb k 2).toNatClampNeg * abs32 (r_area xs ys (r_corner tb k 0) (r_corner tb k 1) x y)
theorem rg_near_bd (d : Nat → Int32) : ∀ k : Nat, rg_near d k ≤ k - 1
  | 0 => Nat.le_refl _
  | k + 1 => by
    have h := rg_near_bd d k
    unfold rg_near
    split
    · omega
    · split <;> omega
def r_nz (x : Int32) : Bool := if x = 0 then false else true
theorem r_nz_eq {x : Int32} (h : x = 0 ∨ x = 1) : x = bI (r_nz x) := by rcases h with rfl | rfl <;> rfl

