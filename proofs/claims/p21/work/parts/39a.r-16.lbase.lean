/-! longs; the way; building -/
theorem dgI_lo {has : Nat → Nat → Bool} {f : Nat → Nat → Nat → Int32} {i : Nat} {d : Int64} : ∀ {j : Nat}, j ≤ i + 1 → dgI has f i d j = d
  | 0, _ => rfl
  | j + 1, h => by
    unfold dgI
    rw [if_pos (by omega)]
    exact dgI_lo (by omega)
theorem dgI_hi {has : Nat → Nat → Bool} {f : Nat → Nat → Nat → Int32} {i j : Nat} {d : Int64} (h : i < j) : dgI has f i d (j + 1) = if has i j = true then dgF (f i j) ((dgI has f i d j * 31 + (nI i).toInt64) * 31 + (nI j).toInt64) 3 else dgI has f i d j := by
  show (if j ≤ i then dgI has f i d j else _) = _
  rw [if_neg (by omega)]
def r_dg1 (n t : Nat) (xs ys tb : Nat → Int32) (sg : Nat → Nat → Int32) (fl : Int32) : Nat → Int32 := fun w => r_counted n t xs ys tb sg fl (nI w)
def r_dg2 (n t : Nat) (xs ys hs tb : Nat → Int32) : Nat → Nat → Int32 := fun c w => r_cairnTold n t xs ys hs tb (nI c) (nI w)
def r_dg3 (xs ys tb : Nat → Int32) : Nat → Nat → Int32 := fun k w => r_triangleTold xs ys tb (nI k) (nI w)
def r_dgH (t : Nat) (tb : Nat → Int32) : Nat → Nat → Bool := fun i j => r_nz (r_sides t tb (nI i) (nI j))
def r_dg4 (t : Nat) (xs ys tb : Nat → Int32) (sg : Nat → Nat → Int32) : Nat → Nat → Nat → Int32 := fun i j k => bI (r_eT t xs ys tb sg (nI i) (nI j) (nI (2 + k)))
def r_digest (n t : Nat) (xs ys hs tb : Nat → Int32) (sg : Nat → Nat → Int32) (fl : Int32) : Int64 := dgE (r_dgH t tb) (r_dg4 t xs ys tb sg) n (dgO (r_dg3 xs ys tb) 4 (dgO (r_dg2 n t xs ys hs tb) 5 (dgF (r_dg1 n t xs ys tb sg fl) 1433 7) n) t) n
/-! building -/
def r_okB (n : Nat) (xs ys : Nat → Int32) (x y z : Int32) : Bool := if r_isPlace x y = true then (if r_isIn z 0 99 = true then (if nI n = 16 then false else (if r_cairnAt n xs ys x y = (-1) then true else false)) else false) else false
def r_thB (n : Nat) (xs ys : Nat → Int32) (x y z : Int32) : Int32 := if r_isPlace x y = true then (if r_isIn z 0 99 = true then (if nI n = 16 then 2 else (if r_cairnAt n xs ys x y = (-1) then 0 else 2)) else 1) else 1
/-- what a new cairn needs -/
def r_okAd (n t : Nat) (xs ys tb : Nat → Int32) (sg : Nat → Nat → Int32) (x y : Int32) : Prop := r_mm t xs ys tb x y ≤ 2 ∧ (∀ k, k < r_mm t xs ys tb x y → r_okSp (r_ovF t xs ys tb x y k) (r_ad3 n t xs ys tb sg x y k)) ∧ (r_adS n t xs ys tb sg x y).1 ≤ 36
/-! the way -/
def r_wf0 (a : Int32) : Nat → Nat → Int32
  | 0 => fun _ => 0
  | i + 1 => upd (r_wf0 a i) i (if nI i = a then 0 else (-1))
def r_wfI (t : Nat) (tb : Nat → Int32) (q c : Nat) (f : Nat → Int32) : Nat → Nat → Int32
  | 0 => f
  | d + 1 => if r_wfI t tb q c f d c = nI q then (if r_wfI t tb q c f d d = (-1) then (if r_sides t tb (nI c) (nI d) ≤ 0 then r_wfI t tb q c f d else upd (r_wfI t tb q c f d) d (nI q + 1)) else r_wfI t tb q c f d) else r_wfI t tb q c f d
def r_wfO (t : Nat) (tb : Nat → Int32) (n q : Nat) (f : Nat → Int32) : Nat → Nat → Int32
  | 0 => f
  | c + 1 => r_wfI t tb q c (r_wfO t tb n q f c) n
def r_wf (t : Nat) (tb : Nat → Int32) (n : Nat) (f : Nat → Int32) : Nat → Nat → Int32
  | 0 => f
  | q + 1 => r_wfO t tb n q (r_wf t tb n f q) n
theorem in_isIn16 {n : Nat} {a : Int32} (hn : n ≤ 16) (h1 : 1 ≤ n) (h : r_isIn a 0 (nI n - 1) = true) : vp_in a 16 := by
  obtain ⟨j, hj, rfl⟩ := in_isInE hn (by decide) h1 h
  exact vp_in_nI (by omega) (by decide)
/-- after K rounds the way to b is known, and not before -/
def r_okW (n t : Nat) (tb : Nat → Int32) (a b : Int32) (K : Nat) : Prop := K ≤ 1000 ∧ ¬ r_wf t tb n (r_wf0 a 16) K b.toNatClampNeg = (-1) ∧ ∀ q, q < K → r_wf t tb n (r_wf0 a 16) q b.toNatClampNeg = (-1)

