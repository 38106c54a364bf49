def r_eT (t : Nat) (xs ys tb : Nat → Int32) (sg : Nat → Nat → Int32) (a b w : Int32) : Bool := if r_sides t tb a b ≤ 0 then false else if r_is t xs ys tb sg a b w = 0 then false else true
def r_pET (t : Nat) (xs ys tb : Nat → Int32) (sg : Nat → Nat → Int32) (w : Int32) (a b : Nat) : Bool := if b ≤ a then false else r_eT t xs ys tb sg (nI a) (nI b) w
def r_rET (n t : Nat) (xs ys tb : Nat → Int32) (sg : Nat → Nat → Int32) (w : Int32) (a : Nat) : Nat := rg_ct (r_pET t xs ys tb sg w a) n
def r_edges (n t : Nat) (xs ys tb : Nat → Int32) (sg : Nat → Nat → Int32) (w : Int32) : Int32 := nI (rg_sum (r_rET n t xs ys tb sg w) n)
theorem r_pET_lo {t : Nat} {xs ys tb : Nat → Int32} {sg : Nat → Nat → Int32} {w : Int32} {a j : Nat} (h : j < a + 1) : r_pET t xs ys tb sg w a j = false := if_pos (by omega)
theorem r_pET_hi {t : Nat} {xs ys tb : Nat → Int32} {sg : Nat → Nat → Int32} {w : Int32} {a j : Nat} (h : a < j) : r_pET t xs ys tb sg w a j = r_eT t xs ys tb sg (nI a) (nI j) w := if_neg (by omega)
theorem nI_bI (x : Nat) (B : Bool) : nI x + bI B = nI (x + (if B = true then 1 else 0)) := by
  cases B
  · show nI x + 0 = nI (x + 0)
    rw [Int32.add_zero]; rfl
  · show nI x + 1 = nI (x + 1)
    exact nI_1 x
def r_counted (n t : Nat) (xs ys tb : Nat → Int32) (sg : Nat → Nat → Int32) (fl w : Int32) : Int32 := if w = 0 then nI n else if w = 1 then nI t else if w = 6 then fl else r_edges n t xs ys tb sg (w - 2)
/-- every triangle of the list is between three of the first N cairns -/
abbrev r_okT (t : Nat) (tb : Nat → Int32) : Prop := ∀ j, j < t → vp_in (r_corner tb (nI j) 0) 17 ∧ vp_in (r_corner tb (nI j) 1) 17 ∧ vp_in (r_corner tb (nI j) 2) 17
abbrev r_okF (t : Nat) (tb : Nat → Int32) (a b : Int32) : Prop := r_sides t tb a b = 2 → vp_in (r_fr tb a b 1 t) 17 ∧ vp_in (r_fr tb a b 0 t) 17
def r_pCov (xs ys tb : Nat → Int32) (x y : Int32) (k : Nat) : Bool := r_covers xs ys tb (nI k) x y

