/-! a cell beside the reference's world -/
/-! models -/
def r_cf (z : Int32) : Nat → Int32 := upd (upd (upd (fun _ => 0) (0 : Int32).toNatClampNeg (z / 32 / 32)) (1 : Int32).toNatClampNeg (z / 32 - z / 32 / 32 * 32)) (2 : Int32).toNatClampNeg (z - z / 32 * 32)
theorem r_cf0 (z : Int32) : r_cf z 0 = z / 32 / 32 := rfl
theorem r_cf1 (z : Int32) : r_cf z 1 = z / 32 - z / 32 / 32 * 32 := rfl
theorem r_cf2 (z : Int32) : r_cf z 2 = z - z / 32 * 32 := rfl
abbrev r_S3 : Type := Nat × (Nat → Int32) × (Nat → Nat → Int32)
/-- a new cairn n at x, y: what becomes of the edge a, b of a triangle that covers it -/
def r_spS (n : Nat) (xs ys : Nat → Int32) (x y a b : Int32) (st : r_S3) : r_S3 := if r_area xs ys a b x y = 0 then (if st.2.2 a.toNatClampNeg b.toNatClampNeg = 0 then st else (st.1, st.2.1, r_let (r_let st.2.2 a (nI n) 1) b (nI n) 1)) else (st.1 + 1, r_put st.1 st.2.1 a b (nI n), st.2.2)
def r_spK (n : Nat) (xs ys : Nat → Int32) (x y : Int32) (cf : Nat → Int32) (st : r_S3) : Nat → r_S3
  | 0 => st
  | k + 1 => r_spS n xs ys x y (cf k) (cf ((k + 1) % 3)) (r_spK n xs ys x y cf st k)
theorem r_spS_le {n : Nat} {xs ys : Nat → Int32} {x y a b : Int32} {st : r_S3} : (r_spS n xs ys x y a b st).1 ≤ st.1 + 1 := by
  unfold r_spS
  split
  · split
    · exact Nat.le_succ _
    · exact Nat.le_succ _
  · exact Nat.le_refl _
theorem r_spK_le {n : Nat} {xs ys : Nat → Int32} {x y : Int32} {cf : Nat → Int32} {st : r_S3} : ∀ k, (r_spK n xs ys x y cf st k).1 ≤ st.1 + k
  | 0 => Nat.le_refl _
  | k + 1 => by
    have h1 := r_spK_le (n := n) (xs := xs) (ys := ys) (x := x) (y := y) (cf := cf) (st := st) k
    have h2 := r_spS_le (n := n) (xs := xs) (ys := ys) (x := x) (y := y) (a := cf k) (b := cf ((k + 1) % 3)) (st := r_spK n xs ys x y cf st k)
    show (r_spS n xs ys x y (cf k) (cf ((k + 1) % 3)) (r_spK n xs ys x y cf st k)).1 ≤ _
    omega
/-- the triangle of the code z is cut at the new cairn -/
def r_split (n : Nat) (xs ys : Nat → Int32) (z x y : Int32) (st : r_S3) : r_S3 := r_spK n xs ys x y (r_cf z) (st.1 - 1, r_take (st.1 - 1) (r_pos st.1 st.2.1 z) st.2.1, st.2.2) 3
/-- the codes of the triangles that cover, as far as i -/
def r_ov (cov : Nat → Bool) (tb : Nat → Int32) : Nat → Nat → Int32
  | 0 => fun _ => 0
  | i + 1 => if cov i = true then upd (r_ov cov tb i) (rg_ct cov i) (tb i) else r_ov cov tb i
def r_clr (n : Nat) (sg : Nat → Nat → Int32) : Nat → Nat → Nat → Int32
  | 0 => sg
  | i + 1 => r_let (r_clr n sg i) (nI i) (nI n) 0
def r_adK (n : Nat) (xs ys : Nat → Int32) (x y : Int32) (ov : Nat → Int32) (st : r_S3) : Nat → r_S3
  | 0 => st
  | k + 1 => r_split n xs ys (ov k) x y (r_adK n xs ys x y ov st k)
def r_clI (t : Nat) (tb : Nat → Int32) (a : Nat) (sg : Nat → Nat → Int32) : Nat → Nat → Nat → Int32
  | 0 => sg
  | b + 1 => if r_sides t tb (nI a) (nI b) = 0 then r_up (r_clI t tb a sg b) a (upd (r_clI t tb a sg b a) b 0) else r_clI t tb a sg b
def r_clO (t : Nat) (tb : Nat → Int32) (n : Nat) (sg : Nat → Nat → Int32) : Nat → Nat → Nat → Int32
  | 0 => sg
  | a + 1 => r_clI t tb a (r_clO t tb n sg a) n
def r_mm (t : Nat) (xs ys tb : Nat → Int32) (x y : Int32) : Nat := rg_ct (r_pCov xs ys tb x y) t
def r_ovF (t : Nat) (xs ys tb : Nat → Int32) (x y : Int32) : Nat → Int32 := r_ov (r_pCov xs ys tb x y) tb t
/-- what splitting needs -/
def r_okSp (z : Int32) (st : r_S3) : Prop := 1 ≤ st.1 ∧ st.1 + 2 ≤ 36 ∧ (∃ j, j < st.1 ∧ st.2.1 j = z) ∧ ∀ k, k < 3 → vp_in (r_cf z k) 17
def r_ad3 (n t : Nat) (xs ys tb : Nat → Int32) (sg : Nat → Nat → Int32) (x y : Int32) : Nat → r_S3 := r_adK n xs ys x y (r_ovF t xs ys tb x y) (t, tb, r_clr n sg (n + 1))
def r_adS (n t : Nat) (xs ys tb : Nat → Int32) (sg : Nat → Nat → Int32) (x y : Int32) : r_S3 := r_ad3 n t xs ys tb sg x y (r_mm t xs ys tb x y)
def r_adSg (n t : Nat) (xs ys tb : Nat → Int32) (sg : Nat → Nat → Int32) (x y : Int32) : Nat → Nat → Int32 := r_clO (r_adS n t xs ys tb sg x y).1 (r_adS n t xs ys tb sg x y).2.1 (n + 1) (r_adS n t xs ys tb sg x y).2.2 (n + 1)
