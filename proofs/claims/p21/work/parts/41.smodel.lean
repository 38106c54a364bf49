/-! the law's own moor: its methods, in numbers of 32 bits; a row is what it holds by place -/
def s3 (a b c : Int32) : Nat → Int32 := fun j => if j = 0 then a else if j = 1 then b else c
def s2 (a b : Int32) : Nat → Int32 := fun j => if j = 0 then a else b
theorem s3_upd {a b c : Int32} : ∀ j : Nat, j < 3 → upd (upd (upd (fun _ => 0) 0 a) 1 b) 2 c j = s3 a b c j := by
  intro j hj
  have h : j = 0 ∨ j = 1 ∨ j = 2 := by omega
  rcases h with rfl | rfl | rfl <;> rfl
theorem s2_upd {a b : Int32} : ∀ j : Nat, j < 2 → upd (upd (fun _ => 0) 0 a) 1 b j = s2 a b j := by
  intro j hj
  have h : j = 0 ∨ j = 1 := by omega
  rcases h with rfl | rfl <;> rfl
theorem s1_upd {a b : Int32} : ∀ j : Nat, j < 1 → upd (fun _ => 0) 0 a j = s2 a b j := by
  intro j hj
  have h : j = 0 := by omega
  subst h; rfl
def s_th : Nat → Int32 → Int32 → Int32 → Nat → Int32
  | 0, a, b, c => s3 a b c
  | k + 1, a, b, c => if a ≤ b then (if b ≤ c then s3 a b c else s_th k a c b) else s_th k b a c
def s_okT : Nat → Int32 → Int32 → Int32 → Prop
  | 0, a, b, c => a ≤ b ∧ b ≤ c
  | k + 1, a, b, c => if a ≤ b then (if b ≤ c then True else s_okT k a c b) else s_okT k b a c
theorem s_ok3 (a b c : Int32) : s_okT 3 a b c := by
  simp only [s_okT, Int32.le_iff_toInt_le]
  repeat' split
  all_goals first | trivial | omega
def s_three (a b c : Int32) : Nat → Int32 := s_th 3 a b c
theorem s_th_all {P : Int32 → Prop} : ∀ (k : Nat) {a b c : Int32}, P a → P b → P c → ∀ j : Nat, P (s_th k a b c j) := by
  intro k
  induction k with
  | zero =>
    intro a b c ha hb hc j
    show P (s3 a b c j)
    unfold s3; split
    · exact ha
    · split
      · exact hb
      · exact hc
  | succ k ih =>
    intro a b c ha hb hc j
    unfold s_th; split
    · split
      · unfold s3; split
        · exact ha
        · split
          · exact hb
          · exact hc
      · exact ih ha hc hb j
    · exact ih hb ha hc j
theorem s_three_all {P : Int32 → Prop} {a b c : Int32} (ha : P a) (hb : P b) (hc : P c) (j : Nat) : P (s_three a b c j) := s_th_all 3 ha hb hc j
def s_ahead (p q : Nat → Int32) : Bool := if p 0 = q 0 then (if p 1 = q 1 then (if q 2 ≤ p 2 then false else true) else (if q 1 ≤ p 1 then false else true)) else (if q 0 ≤ p 0 then false else true)
def s_cross (a b p : Nat → Int32) : Int32 := (b 0 - a 0) * (p 1 - a 1) - (b 1 - a 1) * (p 0 - a 0)
def s_area (C : Nat → Nat → Int32) (t : Nat → Int32) : Int32 := abs32 (s_cross (C (t 0).toNatClampNeg) (C (t 1).toNatClampNeg) (C (t 2).toNatClampNeg))
def s_has (t : Nat → Int32) (c : Int32) : Bool := if t 0 = c then true else if t 1 = c then true else if t 2 = c then true else false
def s_its (t : Nat → Int32) (a b : Int32) : Int32 := t 0 + t 1 + t 2 - a - b
def s_mt (t : Nat → Int32) (a b : Int32) : Bool := if a = b then false else if s_has t a = true then s_has t b else false
def s_fa (T : Nat → Nat → Int32) (a b : Int32) : Nat → Nat × Int32 × Int32
  | 0 => (0, 0, 0)
  | m + 1 => if s_mt (T m) a b = true then (if nI (s_fa T a b m).1 = 0 then (1, s_its (T m) a b, 0) else (2, (s_fa T a b m).2.1, s_its (T m) a b)) else s_fa T a b m
theorem s_fa_le {T : Nat → Nat → Int32} {a b : Int32} : ∀ m, (s_fa T a b m).1 ≤ 2
  | 0 => Nat.zero_le _
  | m + 1 => by
    have := s_fa_le (T := T) (a := a) (b := b) m
    unfold s_fa
    split
    · split
      · exact Nat.le_succ 1
      · exact Nat.le_refl 2
    · exact this
def s_ct (T : Nat → Nat → Int32) (a b : Int32) (m : Nat) : Nat := rg_ct (fun k => s_mt (T k) a b) m
theorem s_fa_ct {T : Nat → Nat → Int32} {a b : Int32} : ∀ m, (s_fa T a b m).1 ≤ s_ct T a b m
  | 0 => Nat.zero_le _
  | m + 1 => by
    have h := s_fa_ct (T := T) (a := a) (b := b) m
    unfold s_fa s_ct
    split
    · rename_i h1
      rw [rg_ct_t (p := fun k => s_mt (T k) a b) h1]
      unfold s_ct at h
      split
      · omega
      · rename_i h2
        have : (s_fa T a b m).1 ≠ 0 := fun z => h2 (by rw [z]; rfl)
        omega
    · rename_i h1
      rw [rg_ct_f (p := fun k => s_mt (T k) a b) (by simpa using h1)]
      exact h
abbrev sF (r : Nat × Int32 × Int32) : Nat → Int32 := s2 r.2.1 r.2.2
def s_i64 (x : Int32) : Int64 := x.toInt64
def s_in (C : Nat → Nat → Int32) (t : Nat → Int32) (x y : Int32) : Bool :=
  let a := C (t 0).toNatClampNeg
  let bx := (C (t 1).toNatClampNeg 0 - a 0).toInt64
  let by' := (C (t 1).toNatClampNeg 1 - a 1).toInt64
  let cx := (C (t 2).toNatClampNeg 0 - a 0).toInt64
  let cy := (C (t 2).toNatClampNeg 1 - a 1).toInt64
  let by2 := 2 * (bx * cy - by' * cx)
  let ux := cy * (bx * bx + by' * by') - by' * (cx * cx + cy * cy)
  let uy := bx * (cx * cx + cy * cy) - cx * (bx * bx + by' * by')
  let dx := ux - by2 * (x - a 0).toInt64
  let dy := uy - by2 * (y - a 1).toInt64
  decide (dx * dx + dy * dy < ux * ux + uy * uy)
def s_pr (r : Nat → Int32) (a b : Int32) : Bool := if r 0 = a then (if r 1 = b then true else (if r 0 = b then (if r 1 = a then true else false) else false)) else (if r 0 = b then (if r 1 = a then true else false) else false)
def s_pS (S : Nat → Nat → Int32) (a b : Int32) (j : Nat) : Bool := s_pr (S j) a b
def s_stay (nS : Nat) (S : Nat → Nat → Int32) (a b : Int32) : Bool := (rg_fst (s_pS S a b) nS).isSome
def s_unf (C : Nat → Nat → Int32) (nT : Nat) (T : Nat → Nat → Int32) (a b : Int32) : Bool := if nI (s_fa T a b nT).1 = 2 then s_in C (s_three a b (s_fa T a b nT).2.1) (C (s_fa T a b nT).2.2.toNatClampNeg 0) (C (s_fa T a b nT).2.2.toNatClampNeg 1) else false
def s_flp (C : Nat → Nat → Int32) (nT : Nat) (T : Nat → Nat → Int32) (nS : Nat) (S : Nat → Nat → Int32) (a b : Int32) : Bool :=
  if nI (s_fa T a b nT).1 < 2 then false else if s_stay nS S a b = true then false else
  if 0 ≤ s_cross (C (s_fa T a b nT).2.1.toNatClampNeg) (C (s_fa T a b nT).2.2.toNatClampNeg) (C a.toNatClampNeg) * s_cross (C (s_fa T a b nT).2.1.toNatClampNeg) (C (s_fa T a b nT).2.2.toNatClampNeg) (C b.toNatClampNeg) then false else true
/-! tables that grow and shrink -/
def s_more {α : Type} (F : Nat → α) (n : Nat) (r : α) : Nat → α := fun j => if j = n then r else F j
def s_less {α : Type} (F : Nat → α) (k : Nat) : Nat → α := fun j => if j < k then F j else F (j + 1)
def s_same (p q : Nat → Int32) : Bool := if s_ahead p q = true then false else if s_ahead q p = true then false else true
def s_to (nT : Nat) (T : Nat → Nat → Int32) (t : Nat → Int32) : Nat × (Nat → Nat → Int32) := match rg_fst (fun k => s_same t (T k)) nT with
  | none => (nT, T)
  | some k => (nT - 1, s_less T k)
def s_swap {α : Type} (F : Nat → α) (k : Nat) : Nat → α := fun j => if j = k + 1 then F k else if j = k then F (k + 1) else F j
def s_bub (T : Nat → Nat → Int32) : Nat → Nat → Nat → Int32
  | 0 => T
  | k + 1 => if s_ahead (T (k + 1)) (T k) = true then s_bub (s_swap T k) k else T
def s_put (nT : Nat) (T : Nat → Nat → Int32) (r : Nat → Int32) : Nat → Nat → Int32 := s_bub (s_more T nT r) nT
def s_cP (C : Nat → Nat → Int32) (x y : Int32) (j : Nat) : Bool := if C j 0 = x then (if C j 1 = y then true else false) else false
def s_cat (nC : Nat) (C : Nat → Nat → Int32) (x y : Int32) : Int32 := rg_idx (rg_fst (s_cP C x y) nC) (-1)
theorem lcmp_ge {x y : Int64} (h : 0 ≤ lg_cmp x y) : 0 = bI (decide (x < y)) := by
  have h1 := (lg_cmp_ge x y).mp h
  have h2 : ¬ x < y := by rw [Int64.lt_iff_toInt_lt]; rw [Int64.le_iff_toInt_le] at h1; omega
  simp [h2, bI]
theorem lcmp_lt {x y : Int64} (h : ¬ 0 ≤ lg_cmp x y) : 1 = bI (decide (x < y)) := by
  rw [lg_cmp_ge] at h
  have h2 : x < y := by rw [Int64.lt_iff_toInt_lt]; rw [Int64.le_iff_toInt_le] at h; omega
  simp [h2, bI]
section FA
variable {T : Nat → Nat → Int32} {a b : Int32} {m n : Nat}
theorem s_fa_no (h : s_mt (T m) a b = false) : s_fa T a b (m + 1) = s_fa T a b m := by rw [s_fa, if_neg (by rw [h]; decide)]
theorem s_fa_1 (h : s_mt (T m) a b = true) (h0 : nI (s_fa T a b m).1 = 0) : s_fa T a b (m + 1) = (1, s_its (T m) a b, 0) := by rw [s_fa, if_pos h, if_pos h0]
theorem s_fa_2 (h : s_mt (T m) a b = true) (h0 : ¬ nI (s_fa T a b m).1 = 0) : s_fa T a b (m + 1) = (2, (s_fa T a b m).2.1, s_its (T m) a b) := by rw [s_fa, if_pos h, if_neg h0]
theorem s_ct_no (h : s_mt (T m) a b = false) : s_ct T a b (m + 1) = s_ct T a b m := rg_ct_f (p := fun k => s_mt (T k) a b) h
theorem s_ct_yes (h : s_mt (T m) a b = true) : s_ct T a b (m + 1) = s_ct T a b m + 1 := rg_ct_t (p := fun k => s_mt (T k) a b) h
theorem s_ct_lt (h : s_mt (T m) a b = true) (hm : m < n) : s_ct T a b m < s_ct T a b n := rg_ct_lt (p := fun k => s_mt (T k) a b) hm h
theorem nI_pos9 {k : Nat} (h : ¬ nI k = 0) : 0 < k := by
  rcases Nat.eq_zero_or_pos k with z | z
  · exact absurd (by rw [z]; rfl) h
  · exact z
theorem s_fa_is2 (h : nI (s_fa T a b m).1 = 2) : (s_fa T a b m).1 = 2 := by
  have h1 := s_fa_le (T := T) (a := a) (b := b) m
  rcases (show (s_fa T a b m).1 = 0 ∨ (s_fa T a b m).1 = 1 ∨ (s_fa T a b m).1 = 2 by omega) with z | z | z
  · rw [z] at h; exact absurd h (by decide)
  · rw [z] at h; exact absurd h (by decide)
  · exact z
theorem s_fa_nlt2 (h : ¬ nI (s_fa T a b m).1 < 2) : (s_fa T a b m).1 = 2 := by
  have h1 := s_fa_le (T := T) (a := a) (b := b) m
  rcases (show (s_fa T a b m).1 = 0 ∨ (s_fa T a b m).1 = 1 ∨ (s_fa T a b m).1 = 2 by omega) with z | z | z
  · rw [z] at h; exact absurd (by decide) h
  · rw [z] at h; exact absurd (by decide) h
  · exact z
end FA
/-- far corners are cairns -/
def s_okF (nC nT : Nat) (T : Nat → Nat → Int32) : Prop := ∀ a b : Int32, (s_fa T a b nT).1 = 2 → vp_in (s_fa T a b nT).2.1 nC ∧ vp_in (s_fa T a b nT).2.2 nC
/-! on which side of a triangle a place is -/
def s_sI (C : Nat → Nat → Int32) (t : Nat → Int32) (x y : Int32) (k : Nat) : Int32 := s_cross (C (t k).toNatClampNeg) (C (t ((k + 1) % 3)).toNatClampNeg) (s2 x y)
def s_left (C : Nat → Nat → Int32) (t : Nat → Int32) : Bool := if s_cross (C (t 0).toNatClampNeg) (C (t 1).toNatClampNeg) (C (t 2).toNatClampNeg) ≤ 0 then false else true
def s_bad (C : Nat → Nat → Int32) (t : Nat → Int32) (x y : Int32) (k : Nat) : Bool := if s_left C t = true then (if 0 ≤ s_sI C t x y k then false else true) else (if s_sI C t x y k ≤ 0 then false else true)
def s_on (C : Nat → Nat → Int32) (t : Nat → Int32) (x y : Int32) : Nat → Int32
  | 0 => 3
  | k + 1 => if s_sI C t x y k = 0 then nI k else s_on C t x y k
def s_side (C : Nat → Nat → Int32) (t : Nat → Int32) (x y : Int32) : Int32 := if (rg_fst (s_bad C t x y) 3).isSome = true then (-1) else s_on C t x y 3
/-! how many are unfair, and what asking costs -/
def s_uP (C : Nat → Nat → Int32) (nT : Nat) (T : Nat → Nat → Int32) (i j : Nat) : Bool := s_unf C nT T (nI i) (nI j)
def s_uN (C : Nat → Nat → Int32) (nT : Nat) (T : Nat → Nat → Int32) (n : Nat) : Nat := rg_sum (fun i => rg_ct (s_uP C nT T i) i) n
def s_cI (nT : Nat) (T : Nat → Nat → Int32) (i j : Nat) : Nat := rg_sum (fun b => 1 + 2 * s_ct T (nI i) (nI b) nT) j
def s_cO (nT : Nat) (T : Nat → Nat → Int32) (n : Nat) : Nat := rg_sum (fun i => s_cI nT T i i) n
