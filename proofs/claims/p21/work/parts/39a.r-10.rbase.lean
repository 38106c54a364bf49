/-! the reference: its cells -/
abbrev rGr (rw : Nat → Nat) : Nat → Option Nat := fun i => if i < 17 then some (rw i) else none
/-! its reading methods, in numbers of 32 bits -/
def r_isIn (v lo hi : Int32) : Bool := if v < lo then false else if hi < v then false else true
def r_isPlace (x y : Int32) : Bool := if r_isIn x 0 30 = true then (if r_isIn y 0 30 = true then true else false) else false
def r_code (a b c : Int32) : Int32 := (min32 a (min32 b c) * 32 + a + b + c - min32 a (min32 b c) - max32 a (max32 b c)) * 32 + max32 a (max32 b c)
def r_corner (tb : Nat → Int32) (k w : Int32) : Int32 := if w = 0 then tb k.toNatClampNeg / 32 / 32 else if w = 1 then tb k.toNatClampNeg / 32 - tb k.toNatClampNeg / 32 / 32 * 32 else tb k.toNatClampNeg - tb k.toNatClampNeg / 32 * 32
def r_has (tb : Nat → Int32) (k c : Int32) : Bool := if r_corner tb k 0 = c then true else if r_corner tb k 1 = c then true else if r_corner tb k 2 = c then true else false
def r_area (xs ys : Nat → Int32) (a b x y : Int32) : Int32 := (xs b.toNatClampNeg - xs a.toNatClampNeg) * (y - ys a.toNatClampNeg) - (ys b.toNatClampNeg - ys a.toNatClampNeg) * (x - xs a.toNatClampNeg)
def r_areaOf (xs ys tb : Nat → Int32) (k : Int32) : Int32 := abs32 (r_area xs ys (r_corner tb k 0) (r_corner tb k 1) (xs (r_corner tb k 2).toNatClampNeg) (ys (r_corner tb k 2).toNatClampNeg))
def r_far (tb : Nat → Int32) (k a b : Int32) : Int32 := if a = b then (-1) else if r_has tb k a = true then (if r_has tb k b = true then r_corner tb k 0 + r_corner tb k 1 + r_corner tb k 2 - a - b else (-1)) else (-1)
def r_pS (tb : Nat → Int32) (a b : Int32) (k : Nat) : Bool := if r_far tb (nI k) a b = (-1) then false else true
def r_sides (t : Nat) (tb : Nat → Int32) (a b : Int32) : Int32 := nI (rg_ct (r_pS tb a b) t)
/-- the far corner of the first triangle, or of the last one -/
def r_fr (tb : Nat → Int32) (a b z : Int32) : Nat → Int32
  | 0 => (-1)
  | k + 1 => if r_far tb (nI k) a b = (-1) then r_fr tb a b z k else if z = 0 then r_far tb (nI k) a b else if r_fr tb a b z k = (-1) then r_far tb (nI k) a b else r_fr tb a b z k
def r_sum (ax ay bx by' cx cy : Int32) : Int32 := (ax * ax + ay * ay) * (bx * cy - cx * by') - (bx * bx + by' * by') * (ax * cy - cx * ay) + (cx * cx + cy * cy) * (ax * by' - bx * ay)
def r_isWithin (xs ys : Nat → Int32) (a b c x y : Int32) : Bool := if r_area xs ys a b (xs c.toNatClampNeg) (ys c.toNatClampNeg) ≤ 0 then (if 0 ≤ r_sum (xs a.toNatClampNeg - x) (ys a.toNatClampNeg - y) (xs b.toNatClampNeg - x) (ys b.toNatClampNeg - y) (xs c.toNatClampNeg - x) (ys c.toNatClampNeg - y) then false else true) else (if r_sum (xs a.toNatClampNeg - x) (ys a.toNatClampNeg - y) (xs b.toNatClampNeg - x) (ys b.toNatClampNeg - y) (xs c.toNatClampNeg - x) (ys c.toNatClampNeg - y) ≤ 0 then false else true)
def r_isUnfair (t : Nat) (xs ys tb : Nat → Int32) (a b : Int32) : Bool := if r_sides t tb a b = 2 then r_isWithin xs ys a b (r_fr tb a b 1 t) (xs (r_fr tb a b 0 t).toNatClampNeg) (ys (r_fr tb a b 0 t).toNatClampNeg) else false
def r_opp (p q : Int32) : Bool := if p ≤ 0 then (if 0 ≤ p then false else (if q ≤ 0 then false else true)) else (if q < 0 then true else (if 0 ≤ p then false else (if q ≤ 0 then false else true)))
def r_canFlip (t : Nat) (xs ys tb : Nat → Int32) (sg : Nat → Nat → Int32) (a b : Int32) : Bool := if r_sides t tb a b = 2 then (if sg a.toNatClampNeg b.toNatClampNeg = 0 then r_opp (r_area xs ys (r_fr tb a b 1 t) (r_fr tb a b 0 t) (xs a.toNatClampNeg) (ys a.toNatClampNeg)) (r_area xs ys (r_fr tb a b 1 t) (r_fr tb a b 0 t) (xs b.toNatClampNeg) (ys b.toNatClampNeg)) else false) else false
def r_pAt (xs ys : Nat → Int32) (x y : Int32) (j : Nat) : Bool := if xs j = x then (if ys j = y then true else false) else false
def r_cairnAt (n : Nat) (xs ys : Nat → Int32) (x y : Int32) : Int32 := rg_idx (rg_fst (r_pAt xs ys x y) n) (-1)
def r_covers (xs ys tb : Nat → Int32) (k x y : Int32) : Bool := if abs32 (r_area xs ys (r_corner tb k 0) (r_corner tb k 1) x y) + abs32 (r_area xs ys (r_corner tb k 1) (r_corner tb k 2) x y) + abs32 (r_area xs ys (r_corner tb k 2) (r_corner tb k 0) x y) = r_areaOf xs ys tb k then true else false
def r_pE (t : Nat) (tb : Nat → Int32) (a : Int32) (j : Nat) : Bool := if r_sides t tb a (nI j) ≤ 0 then false else true
def r_edgesOf (n t : Nat) (tb : Nat → Int32) (a : Int32) : Int32 := nI (rg_ct (r_pE t tb a) n)
def r_pH (tb : Nat → Int32) (a : Int32) (k : Nat) : Bool := r_has tb (nI k) a
def r_cairnTold (n t : Nat) (xs ys hs tb : Nat → Int32) (a w : Int32) : Int32 := if 4 ≤ w then nI (rg_ct (r_pH tb a) t) else if w = 0 then xs a.toNatClampNeg else if w = 1 then ys a.toNatClampNeg else if w = 2 then hs a.toNatClampNeg else r_edgesOf n t tb a
def r_triangleTold (xs ys tb : Nat → Int32) (k w : Int32) : Int32 := if 3 ≤ w then r_areaOf xs ys tb k else r_corner tb k w
def r_apart (xs ys : Nat → Int32) (a x y : Int32) : Int32 := (xs a.toNatClampNeg - x) * (xs a.toNatClampNeg - x) + (ys a.toNatClampNeg - y) * (ys a.toNatClampNeg - y)
def r_is (t : Nat) (xs ys tb : Nat → Int32) (sg : Nat → Nat → Int32) (a b w : Int32) : Int32 := if w = 0 then (if r_sides t tb a b ≤ 0 then 0 else 1) else if w = 1 then (if r_sides t tb a b = 1 then 1 else 0) else if w = 2 then sg a.toNatClampNeg b.toNatClampNeg else if w = 3 then bI (r_isUnfair t xs ys tb a b) else bI (r_canFlip t xs ys tb sg a b)
def r_edgeTold (t : Nat) (xs ys tb : Nat → Int32) (sg : Nat → Nat → Int32) (a b w : Int32) : Int32 := if r_sides t tb a b ≤ 0 then 0 else if r_is t xs ys tb sg a b w = 0 then 0 else 1

