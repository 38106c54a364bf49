/-! what is kept: clones, and the class of grids -/
/-! the kept grid -/
abbrev kGr (rz : Nat → Nat) (k : Nat) : Nat → Option Nat := fun i => if i < k then some (rz i) else none
/-- rows brought back, as far as k -/
def r_bb (sk sg : Nat → Nat → Int32) : Nat → Nat → Nat → Int32
  | 0 => sg
  | k + 1 => r_up (r_bb sk sg k) k (va_cpy (sk k) (r_bb sk sg k k) 0 0 17)
theorem r_bb_lt {sk sg : Nat → Nat → Int32} {i j : Nat} (hj : j < 17) : ∀ k, i < k → r_bb sk sg k i j = sk i j
  | 0, h => absurd h (Nat.not_lt_zero _)
  | k + 1, h => by
    show (if i = k then va_cpy (sk k) (r_bb sk sg k k) 0 0 17 else r_bb sk sg k i) j = sk i j
    by_cases e : i = k
    · rw [if_pos e, e]
      show (if 0 ≤ j ∧ j < 0 + 17 then sk k (0 + (j - 0)) else _) = sk k j
      rw [if_pos ⟨Nat.zero_le _, by omega⟩]
      congr 1
      omega
    · rw [if_neg e]
      exact r_bb_lt hj k (by omega)
theorem fits01 {f : Nat → Int32} (h : ∀ j, j < 17 → f j = 0 ∨ f j = 1) {sp : Nat} (hs : sp = 0) {m : Nat} (hm : m = 17) : ∀ i, i < m → fits .boolean (.int (f (sp + i))) = true := by
  subst hs; subst hm
  intro i hi
  rw [Nat.zero_add]
  rcases h i hi with e | e
  · rw [e]; rfl
  · rw [e]; rfl
def r_okO (n : Nat) (xs ys : Nat → Int32) (x y : Int32) : Bool := if r_isPlace x y = true then (if r_cairnAt n xs ys x y = (-1) then true else false) else false
def r_thO (n : Nat) (xs ys : Nat → Int32) (x y : Int32) : Int32 := if r_isPlace x y = true then (if r_cairnAt n xs ys x y = (-1) then 0 else 2) else 1
/-! means -/
def r_mean (n t : Nat) (xs ys tb : Nat → Int32) (sg : Nat → Nat → Int32) : UInt64 := FP.ddiv (FP.i2d (2 * r_edges n t xs ys tb sg 0)) (FP.i2d (nI n))

