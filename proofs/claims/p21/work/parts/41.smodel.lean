/-! the law's own moor: its methods, in numbers of 32 bits; a row is what it holds by place -/
def s3 (a b c : Int32) : Nat → Int32 := fun j => if j = 0 then a else if j = 1 then b else c
def s2 (a b : Int32) : Nat → Int32 := fun j => if j = 0 then a else b
theorem s3_upd {a b c : Int32} : ∀ j : Nat, j < 3 → upd (upd (upd (fun _ => 0) 0 a) 1 b) 2 c j = s3 a b c j := by
  intro j hj
  have h : j = 0 ∨ j = 1 ∨ j = 2 := by omega
  rcases h with rfl | rfl | rfl <;> rfl
theorem s2_upd {a b : Int32} : ∀ j : Nat, j < 2 → upd (upd (fun _ => 0) 0 a) 1 b j = s2 a b j := by
  intro j hj
  have h : j = 0 ∨ j = 1 := by omega
  rcases h with rfl | rfl <;> rfl
theorem s1_upd {a b : Int32} : ∀ j : Nat, j < 1 → upd (fun _ => 0) 0 a j = s2 a b j := by
  intro j hj
  have h : j = 0 := by omega
  subst h; rfl
def s_th : Nat → Int32 → Int32 → Int32 → Nat → Int32
  | 0, a, b, c => s3 a b c
  | k + 1, a, b, c => if a ≤ b then (if b ≤ c then s3 a b c else s_th k a c b) else s_th k b a c
def s_okT : Nat → Int32 → Int32 → Int32 → Prop
  | 0, a, b, c => a ≤ b ∧ b ≤ c
  | k + 1, a, b, c => if a ≤ b then (if b ≤ c then True else s_okT k a c b) else s_okT k b a c
theorem s_ok3 (a b c : Int32) : s_okT 3 a b c := by
  simp only [s_okT, Int32.le_iff_toInt_le]
  repeat' split
  all_goals first | trivial | omega
def s_three (a b c : Int32) : Nat → Int32 := s_th 3 a b c
theorem s_th_all {P : Int32 → Prop} : ∀ (k : Nat) {a b c : Int32}, P a → P b → P c → ∀ j : Nat, P (s_th k a b c j) := by
  intro k
  induction k with
  | zero =>
    intro a b c ha hb hc j
    show P (s3 a b c j)
    unfold s3; split
    · exact ha
    · split
      · exact hb
      · exact hc
  | succ k ih =>
    intro a b c ha hb hc j
    unfold s_th; split
    · split
      · unfold s3; split
        · exact ha
        · split
          · exact hb
          · exact hc
      · exact ih ha hc hb j
    · exact ih hb ha hc j
theorem s_three_all {P : Int32 → Prop} {a b c : Int32} (ha : P a) (hb : P b) (hc : P c) (j : Nat) : P (s_three a b c j) := s_th_all 3 ha hb hc j
def s_ahead (p q : Nat → Int32) : Bool := if p 0 = q 0 then (if p 1 = q 1 then (if q 2 ≤ p 2 then false else true) else (if q 1 ≤ p 1 then false else true)) else (if q 0 ≤ p 0 then false else true)
def s_cross (a b p : Nat → Int32) : Int32 := (b 0 - a 0) * (p 1 - a 1) - (b 1 - a 1) * (p 0 - a 0)
def s_area (C : Nat → Nat → Int32) (t : Nat → Int32) : Int32 := abs32 (s_cross (C (t 0).toNatClampNeg) (C (t 1).toNatClampNeg) (C (t 2).toNatClampNeg))
def s_has (t : Nat → Int32) (c : Int32) : Bool := if t 0 = c then true else if t 1 = c then true else if t 2 = c then true else false
def s_its (t : Nat → Int32) (a b : Int32) : Int32 := t 0 + t 1 + t 2 - a - b
def s_mt (t : Nat → Int32) (a b : Int32) : Bool := if a = b then false else if s_has t a = true then s_has t b else false
def s_fa (T : Nat → Nat → Int32) (a b : Int32) : Nat → Nat × Int32 × Int32
  | 0 => (0, 0, 0)
  | m + 1 => if s_mt (T m) a b = true then (if nI (s_fa T a b m).1 = 0 then (1, s_its (T m) a b, 0) else (2, (s_fa T a b m).2.1, s_its (T m) a b)) else s_fa T a b m
theorem s_fa_le {T : Nat → Nat → Int32} {a b : Int32} : ∀ m, (s_fa T a b m).1 ≤ 2
  | 0 => Nat.zero_le _
  | m + 1 => by
    have := s_fa_le (T := T) (a := a) (b := b) m
    unfold s_fa
    split
    · split
      · exact Nat.le_succ 1
      · exact Nat.le_refl 2
    · exact this
def s_ct (T : Nat → Nat → Int32) (a b : Int32) (m : Nat) : Nat := rg_ct (fun k => s_mt (T k) a b) m
theorem s_fa_ct {T : Nat → Nat → Int32} {a b : Int32} : ∀ m, (s_fa T a b m).1 ≤ s_ct T a b m
  | 0 => Nat.zero_le _
  | m + 1 => by
    have h := s_fa_ct (T := T) (a := a) (b := b) m
    unfold s_fa s_ct
    split
    · rename_i h1
      rw [rg_ct_t (p := fun k => s_mt (T k) a b) h1]
      unfold s_ct at h
      split
      · omega
      · rename_i h2
        have : (s_fa T a b m).1 ≠ 0 := fun z => h2 (by rw [z]; rfl)
        omega
    · rename_i h1
      rw [rg_ct_f (p := fun k => s_mt (T k) a b) (by simpa using h1)]
      exact h
abbrev sF (r : Nat × Int32 × Int32) : Nat → Int32 := s2 r.2.1 r.2.2
def s_i64 (x : Int32) : Int64 := x.toInt64
def s_in (C : Nat → Nat → Int32) (t : Nat → Int32) (x y : Int32) : Bool :=
  let a := C (t 0).toNatClampNeg
  let bx := (C (t 1).toNatClampNeg 0 - a 0).toInt64
  let by' := (C (t 1).toNatClampNeg 1 - a 1).toInt64
  let cx := (C (t 2).toNatClampNeg 0 - a 0).toInt64
  let cy := (C (t 2).toNatClampNeg 1 - a 1).toInt64
  let by2 := 2 * (bx * cy - by' * cx)
  let ux := cy * (bx * bx + by' * by') - by' * (cx * cx + cy * cy)
  let uy := bx * (cx * cx + cy * cy) - cx * (bx * bx + by' * by')
  let dx := ux - by2 * (x - a 0).toInt64
  let dy := uy - by2 * (y - a 1).toInt64
  decide (dx * dx + dy * dy < ux * ux + uy * uy)
def s_pr (r : Nat → Int32) (a b : Int32) : Bool := if r 0 = a then (if r 1 = b then true else (if r 0 = b then (if r 1 = a then true else false) else false)) else (if r 0 = b then (if r 1 = a then true else false) else false)
def s_pS (S : Nat → Nat → Int32) (a b : Int32) (j : Nat) : Bool := s_pr (S j) a b
def s_stay (nS : Nat) (S : Nat → Nat → Int32) (a b : Int32) : Bool := (rg_fst (s_pS S a b) nS).isSome
def s_unf (C : Nat → Nat → Int32) (nT : Nat) (T : Nat → Nat → Int32) (a b : Int32) : Bool := if nI (s_fa T a b nT).1 = 2 then s_in C (s_three a b (s_fa T a b nT).2.1) (C (s_fa T a b nT).2.2.toNatClampNeg 0) (C (s_fa T a b nT).2.2.toNatClampNeg 1) else false
def s_flp (C : Nat → Nat → Int32) (nT : Nat) (T : Nat → Nat → Int32) (nS : Nat) (S : Nat → Nat → Int32) (a b : Int32) : Bool :=
  if nI (s_fa T a b nT).1 < 2 then false else if s_stay nS S a b = true then false else
  if 0 ≤ s_cross (C (s_fa T a b nT).2.1.toNatClampNeg) (C (s_fa T a b nT).2.2.toNatClampNeg) (C a.toNatClampNeg) * s_cross (C (s_fa T a b nT).2.1.toNatClampNeg) (C (s_fa T a b nT).2.2.toNatClampNeg) (C b.toNatClampNeg) then false else true
/-! tables that grow and shrink -/
def s_more {α : Type} (F : Nat → α) (n : Nat) (r : α) : Nat → α := fun j => if j = n then r else F j
def s_less {α : Type} (F : Nat → α) (k : Nat) : Nat → α := fun j => if j < k then F j else F (j + 1)
def s_same (p q : Nat → Int32) : Bool := if s_ahead p q = true then false else if s_ahead q p = true then false else true
def s_to (nT : Nat) (T : Nat → Nat → Int32) (t : Nat → Int32) : Nat × (Nat → Nat → Int32) := match rg_fst (fun k => s_same t (T k)) nT with
  | none => (nT, T)
  | some k => (nT - 1, s_less T k)
def s_swap {α : Type} (F : Nat → α) (k : Nat) : Nat → α := fun j => if j = k + 1 then F k else if j = k then F (k + 1) else F j
def s_bub (T : Nat → Nat → Int32) : Nat → Nat → Nat → Int32
  | 0 => T
  | k + 1 => if s_ahead (T (k + 1)) (T k) = true then s_bub (s_swap T k) k else T
def s_put (nT : Nat) (T : Nat → Nat → Int32) (r : Nat → Int32) : Nat → Nat → Int32 := s_bub (s_more T nT r) nT
def s_cP (C : Nat → Nat → Int32) (x y : Int32) (j : Nat) : Bool := if C j 0 = x then (if C j 1 = y then true else false) else false
def s_cat (nC : Nat) (C : Nat → Nat → Int32) (x y : Int32) : Int32 := rg_idx (rg_fst (s_cP C x y) nC) (-1)
theorem lcmp_ge {x y : Int64} (h : 0 ≤ lg_cmp x y) : 0 = bI (decide (x < y)) := by
  have h1 := (lg_cmp_ge x y).mp h
  have h2 : ¬ x < y := by rw [Int64.lt_iff_toInt_lt]; rw [Int64.le_iff_toInt_le] at h1; omega
  simp [h2, bI]
theorem lcmp_lt {x y : Int64} (h : ¬ 0 ≤ lg_cmp x y) : 1 = bI (decide (x < y)) := by
  rw [lg_cmp_ge] at h
  have h2 : x < y := by rw [Int64.lt_iff_toInt_lt]; rw [Int64.le_iff_toInt_le] at h; omega
  simp [h2, bI]
section FA
variable {T : Nat → Nat → Int32} {a b : Int32} {m n : Nat}
theorem s_fa_no (h : s_mt (T m) a b = false) : s_fa T a b (m + 1) = s_fa T a b m := by rw [s_fa, if_neg (by rw [h]; decide)]
theorem s_fa_1 (h : s_mt (T m) a b = true) (h0 : nI (s_fa T a b m).1 = 0) : s_fa T a b (m + 1) = (1, s_its (T m) a b, 0) := by rw [s_fa, if_pos h, if_pos h0]
theorem s_fa_2 (h : s_mt (T m) a b = true) (h0 : ¬ nI (s_fa T a b m).1 = 0) : s_fa T a b (m + 1) = (2, (s_fa T a b m).2.1, s_its (T m) a b) := by rw [s_fa, if_pos h, if_neg h0]
theorem s_ct_no (h : s_mt (T m) a b = false) : s_ct T a b (m + 1) = s_ct T a b m := rg_ct_f (p := fun k => s_mt (T k) a b) h
theorem s_ct_yes (h : s_mt (T m) a b = true) : s_ct T a b (m + 1) = s_ct T a b m + 1 := rg_ct_t (p := fun k => s_mt (T k) a b) h
theorem s_ct_lt (h : s_mt (T m) a b = true) (hm : m < n) : s_ct T a b m < s_ct T a b n := rg_ct_lt (p := fun k => s_mt (T k) a b) hm h
theorem nI_pos9 {k : Nat} (h : ¬ nI k = 0) : 0 < k := by
  rcases Nat.eq_zero_or_pos k with z | z
  · exact absurd (by rw [z]; rfl) h
  · exact z
theorem s_fa_is2 (h : nI (s_fa T a b m).1 = 2) : (s_fa T a b m).1 = 2 := by
  have h1 := s_fa_le (T := T) (a := a) (b := b) m
  rcases (show (s_fa T a b m).1 = 0 ∨ (s_fa T a b m).1 = 1 ∨ (s_fa T a b m).1 = 2 by omega) with z | z | z
  · rw [z] at h; exact absurd h (by decide)
  · rw [z] at h; exact absurd h (by decide)
  · exact z
theorem s_fa_nlt2 (h : ¬ nI (s_fa T a b m).1 < 2) : (s_fa T a b m).1 = 2 := by
  have h1 := s_fa_le (T := T) (a := a) (b := b) m
  rcases (show (s_fa T a b m).1 = 0 ∨ (s_fa T a b m).1 = 1 ∨ (s_fa T a b m).1 = 2 by omega) with z | z | z
  · rw [z] at h; exact absurd (by decide) h
  · rw [z] at h; exact absurd (by decide) h
  · exact z
end FA
/-- far corners are cairns -/
def s_okF (nC nT : Nat) (T : Nat → Nat → Int32) : Prop := ∀ a b : Int32, (s_fa T a b nT).1 = 2 → vp_in (s_fa T a b nT).2.1 nC ∧ vp_in (s_fa T a b nT).2.2 nC
/-! on which side of a triangle a place is -/
def s_sI (C : Nat → Nat → Int32) (t : Nat → Int32) (x y : Int32) (k : Nat) : Int32 := s_cross (C (t k).toNatClampNeg) (C (t ((k + 1) % 3)).toNatClampNeg) (s2 x y)
def s_left (C : Nat → Nat → Int32) (t : Nat → Int32) : Bool := if s_cross (C (t 0).toNatClampNeg) (C (t 1).toNatClampNeg) (C (t 2).toNatClampNeg) ≤ 0 then false else true
def s_bad (C : Nat → Nat → Int32) (t : Nat → Int32) (x y : Int32) (k : Nat) : Bool := if s_left C t = true then (if 0 ≤ s_sI C t x y k then false else true) else (if s_sI C t x y k ≤ 0 then false else true)
def s_on (C : Nat → Nat → Int32) (t : Nat → Int32) (x y : Int32) : Nat → Int32
  | 0 => 3
  | k + 1 => if s_sI C t x y k = 0 then nI k else s_on C t x y k
def s_side (C : Nat → Nat → Int32) (t : Nat → Int32) (x y : Int32) : Int32 := if (rg_fst (s_bad C t x y) 3).isSome = true then (-1) else s_on C t x y 3
/-! how many are unfair, and what asking costs -/
def s_uP (C : Nat → Nat → Int32) (nT : Nat) (T : Nat → Nat → Int32) (i j : Nat) : Bool := s_unf C nT T (nI i) (nI j)
def s_uN (C : Nat → Nat → Int32) (nT : Nat) (T : Nat → Nat → Int32) (n : Nat) : Nat := rg_sum (fun i => rg_ct (s_uP C nT T i) i) n
def s_cI (nT : Nat) (T : Nat → Nat → Int32) (i j : Nat) : Nat := rg_sum (fun b => 1 + 2 * s_ct T (nI i) (nI b) nT) j
def s_cO (nT : Nat) (T : Nat → Nat → Int32) (n : Nat) : Nat := rg_sum (fun i => s_cI nT T i i) n
theorem s_to_some {nT i : Nat} {T : Nat → Nat → Int32} {t : Nat → Int32} (h : s_same t (T i) = true) (hb : ∀ j, j < i → s_same t (T j) = false) (hi : i < nT) : s_to nT T t = (nT - 1, s_less T i) := by
  unfold s_to
  rw [rg_fst_some (p := fun k => s_same t (T k)) h hb hi]
theorem s_to_none {nT : Nat} {T : Nat → Nat → Int32} {t : Nat → Int32} (hb : ∀ j, j < nT → s_same t (T j) = false) : s_to nT T t = (nT, T) := by
  unfold s_to
  rw [rg_fst_none (p := fun k => s_same t (T k)) hb]
theorem s_to_le {nT : Nat} {T : Nat → Nat → Int32} {t : Nat → Int32} : (s_to nT T t).1 ≤ nT := by
  unfold s_to
  split
  · exact Nat.le_refl _
  · exact Nat.sub_le _ _
/-- a flip; the new edge as a number -/
def s_f1 (nT : Nat) (T : Nat → Nat → Int32) (a b : Int32) : Nat × (Nat → Nat → Int32) := s_to nT T (s_three a b (s_fa T a b nT).2.1)
def s_f2 (nT : Nat) (T : Nat → Nat → Int32) (a b : Int32) : Nat × (Nat → Nat → Int32) := s_to (s_f1 nT T a b).1 (s_f1 nT T a b).2 (s_three a b (s_fa T a b nT).2.2)
def s_f3 (nT : Nat) (T : Nat → Nat → Int32) (a b : Int32) : Nat → Nat → Int32 := s_put (s_f2 nT T a b).1 (s_f2 nT T a b).2 (s_three (s_fa T a b nT).2.1 (s_fa T a b nT).2.2 a)
def s_flip (nT : Nat) (T : Nat → Nat → Int32) (a b : Int32) : Nat × (Nat → Nat → Int32) := ((s_f2 nT T a b).1 + 1 + 1, s_put ((s_f2 nT T a b).1 + 1) (s_f3 nT T a b) (s_three (s_fa T a b nT).2.1 (s_fa T a b nT).2.2 b))
def s_edge (nT : Nat) (T : Nat → Nat → Int32) (a b : Int32) : Int32 := 16 * min32 (s_fa T a b nT).2.1 (s_fa T a b nT).2.2 + max32 (s_fa T a b nT).2.1 (s_fa T a b nT).2.2
theorem s_f1_le {nT : Nat} {T : Nat → Nat → Int32} {a b : Int32} : (s_f1 nT T a b).1 ≤ nT := s_to_le
theorem s_f2_le {nT : Nat} {T : Nat → Nat → Int32} {a b : Int32} : (s_f2 nT T a b).1 ≤ nT := Nat.le_trans s_to_le s_f1_le
theorem s_cI_s {nT : Nat} {T : Nat → Nat → Int32} {i j : Nat} : s_cI nT T i (j + 1) = s_cI nT T i j + (1 + 2 * s_ct T (nI i) (nI j) nT) := rfl
theorem s_cO_s {nT : Nat} {T : Nat → Nat → Int32} {i : Nat} : s_cO nT T (i + 1) = s_cO nT T i + s_cI nT T i i := rfl
theorem rg_sum_mono {f : Nat → Nat} {a : Nat} : ∀ {b : Nat}, a ≤ b → rg_sum f a ≤ rg_sum f b
  | 0, h => by rw [Nat.le_zero.mp h]; exact Nat.le_refl _
  | b + 1, h => by
    rcases Nat.lt_or_ge a (b + 1) with q | q
    · have h1 := rg_sum_mono (f := f) (a := a) (b := b) (by omega)
      exact Nat.le_trans h1 (Nat.le_add_right _ _)
    · have e : a = b + 1 := by omega
      rw [e]; exact Nat.le_refl _
theorem s_cO_lt {nT nC : Nat} {T : Nat → Nat → Int32} {i j : Nat} (hi : i < nC) (hj : j < i) : s_cO nT T i + s_cI nT T i j + (1 + 2 * s_ct T (nI i) (nI j) nT) ≤ s_cO nT T nC := by
  have h1 : s_cI nT T i (j + 1) ≤ s_cI nT T i i := rg_sum_mono hj
  have h2 : s_cO nT T (i + 1) ≤ s_cO nT T nC := rg_sum_mono hi
  rw [s_cI_s] at h1
  rw [s_cO_s] at h2
  omega
theorem s_cO_le {nT nC : Nat} {T : Nat → Nat → Int32} {i : Nat} (hi : i ≤ nC) : s_cO nT T i ≤ s_cO nT T nC := rg_sum_mono hi
/-! settling: the first unfair edge, again and again -/
def s_pFU (C : Nat → Nat → Int32) (nT : Nat) (T : Nat → Nat → Int32) (nS : Nat) (S : Nat → Nat → Int32) (a b : Nat) : Bool := if b ≤ a then false else (if s_stay nS S (nI a) (nI b) = true then false else s_unf C nT T (nI a) (nI b))
def s_pFUa (nC : Nat) (C : Nat → Nat → Int32) (nT : Nat) (T : Nat → Nat → Int32) (nS : Nat) (S : Nat → Nat → Int32) (a : Nat) : Bool := (rg_fst (s_pFU C nT T nS S a) nC).isSome
def s_fu (nC : Nat) (C : Nat → Nat → Int32) (nT : Nat) (T : Nat → Nat → Int32) (nS : Nat) (S : Nat → Nat → Int32) : Option (Nat × Nat) := match rg_fst (s_pFUa nC C nT T nS S) nC with
  | none => none
  | some a => match rg_fst (s_pFU C nT T nS S a) nC with
    | none => none
    | some b => some (a, b)
section FU
variable {nC : Nat} {C : Nat → Nat → Int32} {nT : Nat} {T : Nat → Nat → Int32} {nS : Nat} {S : Nat → Nat → Int32} {i j : Nat}
theorem s_fu_some (hi : i < nC) (hj : j < nC) (hbi : ∀ a, a < i → s_pFUa nC C nT T nS S a = false) (hbj : ∀ b, b < j → s_pFU C nT T nS S i b = false) (h : s_pFU C nT T nS S i j = true) : s_fu nC C nT T nS S = some (i, j) := by
  have h1 : rg_fst (s_pFU C nT T nS S i) nC = some j := rg_fst_some h hbj hj
  have h2 : s_pFUa nC C nT T nS S i = true := by unfold s_pFUa; rw [h1]; rfl
  have h3 : rg_fst (s_pFUa nC C nT T nS S) nC = some i := rg_fst_some h2 hbi hi
  unfold s_fu
  rw [h3]
  simp only [h1]
theorem s_fu_none (hbi : ∀ a, a < nC → s_pFUa nC C nT T nS S a = false) : s_fu nC C nT T nS S = none := by
  unfold s_fu
  rw [rg_fst_none hbi]
theorem s_pFU_lo (h : j < i + 1) : s_pFU C nT T nS S i j = false := if_pos (by omega)
theorem s_pFU_hi (h : i < j) : s_pFU C nT T nS S i j = (if s_stay nS S (nI i) (nI j) = true then false else s_unf C nT T (nI i) (nI j)) := if_neg (by omega)
theorem s_pFUa_f (h : ∀ b, b < nC → s_pFU C nT T nS S i b = false) : s_pFUa nC C nT T nS S i = false := by
  unfold s_pFUa
  rw [rg_fst_none h]; rfl
end FU
def s_sq (nC : Nat) (C : Nat → Nat → Int32) (nS : Nat) (S : Nat → Nat → Int32) (st : Nat × (Nat → Nat → Int32)) : Nat → Nat × (Nat → Nat → Int32)
  | 0 => st
  | k + 1 => match s_fu nC C (s_sq nC C nS S st k).1 (s_sq nC C nS S st k).2 nS S with
    | none => s_sq nC C nS S st k
    | some p => s_flip (s_sq nC C nS S st k).1 (s_sq nC C nS S st k).2 (nI p.1) (nI p.2)
theorem s_sq_s {nC : Nat} {C : Nat → Nat → Int32} {nS : Nat} {S : Nat → Nat → Int32} {st : Nat × (Nat → Nat → Int32)} {k i j : Nat} (h : s_fu nC C (s_sq nC C nS S st k).1 (s_sq nC C nS S st k).2 nS S = some (i, j)) : s_sq nC C nS S st (k + 1) = s_flip (s_sq nC C nS S st k).1 (s_sq nC C nS S st k).2 (nI i) (nI j) := by
  rw [s_sq, h]
/-- what one look at all pairs costs, row by row -/
def s_dI (nT : Nat) (T : Nat → Nat → Int32) (i j : Nat) : Nat := rg_sum (fun b => if b ≤ i then 0 else 1 + 2 * s_ct T (nI i) (nI b) nT) j
def s_dO (nC nT : Nat) (T : Nat → Nat → Int32) (i : Nat) : Nat := rg_sum (fun a => s_dI nT T a nC) i
theorem s_dI_s {nT : Nat} {T : Nat → Nat → Int32} {i j : Nat} (h : i < j) : s_dI nT T i (j + 1) = s_dI nT T i j + (1 + 2 * s_ct T (nI i) (nI j) nT) := by
  show s_dI nT T i j + (if j ≤ i then 0 else _) = _
  rw [if_neg (by omega)]
theorem s_dI_0 {nT : Nat} {T : Nat → Nat → Int32} {i : Nat} : ∀ {j : Nat}, j ≤ i + 1 → s_dI nT T i j = 0
  | 0, _ => rfl
  | j + 1, h => by
    show s_dI nT T i j + (if j ≤ i then 0 else _) = _
    rw [if_pos (by omega), s_dI_0 (by omega)]
theorem s_dO_s {nC nT : Nat} {T : Nat → Nat → Int32} {i : Nat} : s_dO nC nT T (i + 1) = s_dO nC nT T i + s_dI nT T i nC := rfl
theorem s_dO_lt {nC nT : Nat} {T : Nat → Nat → Int32} {i j : Nat} (hi : i < nC) (hj : j < nC) (hij : i < j) : s_dO nC nT T i + s_dI nT T i j + (1 + 2 * s_ct T (nI i) (nI j) nT) ≤ s_dO nC nT T nC := by
  have h1 : s_dI nT T i (j + 1) ≤ s_dI nT T i nC := rg_sum_mono hj
  have h2 : s_dO nC nT T (i + 1) ≤ s_dO nC nT T nC := rg_sum_mono hi
  rw [s_dI_s hij] at h1
  rw [s_dO_s] at h2
  omega
theorem s_dO_le {nC nT : Nat} {T : Nat → Nat → Int32} {i j : Nat} (hi : i < nC) (hj : j ≤ nC) : s_dO nC nT T i + s_dI nT T i j ≤ s_dO nC nT T nC := by
  have h1 : s_dI nT T i j ≤ s_dI nT T i nC := rg_sum_mono hj
  have h2 : s_dO nC nT T (i + 1) ≤ s_dO nC nT T nC := rg_sum_mono hi
  rw [s_dO_s] at h2
  omega
theorem hz.wr {h : Nat} {Hb H H1 : Heap} (x : hz h Hb H) {q : Nat} (hq : Hb.size ≤ q) (z : H1.size = H.size) (o : ∀ y : Nat, y ≠ q → H1[y]? = H[y]?) : hz h Hb H1 := ⟨by rw [z]; exact x.1, fun y a b => (o y (by omega)).trans (x.2 y a b)⟩
theorem nI_s_nle {k : Nat} (h : k < 1000000) : ¬ nI (k + 1) ≤ 0 := fun c => by
  have := nI_le_le (a := 0) (b := k + 1) (by omega) (by omega) c
  omega
theorem s_swap_g {n k : Nat} {g : Nat → Option Nat} {ad : Nat → Nat} (hg : ∀ j : Nat, j < n → g j = some (ad j)) : ∀ j : Nat, j < n → va_up (va_up g (k + 1) (some (ad k))) k (some (ad (k + 1))) j = some (s_swap ad k j) := by
  intro j hj
  unfold va_up s_swap
  by_cases h1 : j = k
  · rw [if_pos h1, if_neg (by omega), if_pos h1]
  · rw [if_neg h1]
    by_cases h2 : j = k + 1
    · rw [if_pos h2, if_pos h2]
    · rw [if_neg h2, if_neg h2, if_neg h1]; exact hg j hj
theorem s_swap_r {cI : ClassId} {B n k z : Nat} {H : Heap} {ad : Nat → Nat} {F : Nat → Nat → Int32} (hr : ∀ j : Nat, j < n → hI cI B H (ad j) 3 (F j) ∧ ad j < z) (hk : k + 1 < n) : ∀ j : Nat, j < n → hI cI B H (s_swap ad k j) 3 (s_swap F k j) ∧ s_swap ad k j < z := by
  intro j hj
  unfold s_swap
  by_cases h2 : j = k + 1
  · simp only [if_pos h2]; exact hr k (by omega)
  · by_cases h1 : j = k
    · simp only [if_neg h2, if_pos h1]; exact hr (k + 1) hk
    · simp only [if_neg h2, if_neg h1]; exact hr j hj
theorem s_unf_2 {C : Nat → Nat → Int32} {nT : Nat} {T : Nat → Nat → Int32} {a b : Int32} (h : s_unf C nT T a b = true) : (s_fa T a b nT).1 = 2 := by
  unfold s_unf at h
  split at h
  · rename_i h1; exact s_fa_is2 h1
  · cases h
theorem s_ct_le {nT : Nat} {T : Nat → Nat → Int32} {a b : Int32} : s_ct T a b nT ≤ nT := rg_ct_le _ _
theorem s_dO_le0 {nC nT : Nat} {T : Nat → Nat → Int32} {i : Nat} (hi : i ≤ nC) : s_dO nC nT T i ≤ s_dO nC nT T nC := rg_sum_mono hi
theorem s_wk {k K W : Nat} (h : k ≤ K) : k * W + W ≤ (K + 1) * W := by
  rw [← Nat.succ_mul]; exact Nat.mul_le_mul_right W (Nat.succ_le_succ h)
/-! building: what a new cairn does -/
abbrev s_St : Type := Nat × (Nat → Nat → Int32) × Nat × (Nat → Nat → Int32)
def s_cutS (nS : Nat) (S : Nat → Nat → Int32) (a b c : Int32) : Nat × (Nat → Nat → Int32) := match rg_fst (s_pS S a b) nS with
  | none => (nS, S)
  | some j => (nS - 1 + 1 + 1, s_more (s_more (s_less S j) (nS - 1) (s2 a c)) (nS - 1 + 1) (s2 b c))
theorem s_cutS_some {nS j : Nat} {S : Nat → Nat → Int32} {a b c : Int32} (h : s_pS S a b j = true) (hb : ∀ k, k < j → s_pS S a b k = false) (hj : j < nS) : s_cutS nS S a b c = (nS - 1 + 1 + 1, s_more (s_more (s_less S j) (nS - 1) (s2 a c)) (nS - 1 + 1) (s2 b c)) := by
  unfold s_cutS; rw [rg_fst_some h hb hj]
theorem s_cutS_none {nS : Nat} {S : Nat → Nat → Int32} {a b c : Int32} (hb : ∀ k, k < nS → s_pS S a b k = false) : s_cutS nS S a b c = (nS, S) := by
  unfold s_cutS; rw [rg_fst_none hb]
def s_bK (t : Nat → Int32) (on its : Int32) (st : s_St) : Nat → s_St
  | 0 => st
  | k + 1 => if nI k = on then ((s_bK t on its st k).1, (s_bK t on its st k).2.1, (s_cutS (s_bK t on its st k).2.2.1 (s_bK t on its st k).2.2.2 (t k) (t ((k + 1) % 3)) its).1, (s_cutS (s_bK t on its st k).2.2.1 (s_bK t on its st k).2.2.2 (t k) (t ((k + 1) % 3)) its).2)
    else ((s_bK t on its st k).1 + 1, s_put (s_bK t on its st k).1 (s_bK t on its st k).2.1 (s_three (t k) (t ((k + 1) % 3)) its), (s_bK t on its st k).2.2.1, (s_bK t on its st k).2.2.2)
def s_b1 (t : Nat → Int32) (st : s_St) : s_St := ((s_to st.1 st.2.1 t).1, (s_to st.1 st.2.1 t).2, st.2.2.1, st.2.2.2)
def s_bO (C : Nat → Nat → Int32) (x y its : Int32) (T0 : Nat → Nat → Int32) (st : s_St) : Nat → s_St
  | 0 => st
  | i + 1 => if 0 ≤ s_side C (T0 i) x y then s_bK (T0 i) (s_side C (T0 i) x y) its (s_b1 (T0 i) (s_bO C x y its T0 st i)) 3 else s_bO C x y its T0 st i
/-! the first state -/
def s_C0 : Nat → Nat → Int32 := fun j => if j = 0 then s3 0 0 0 else if j = 1 then s3 30 0 0 else if j = 2 then s3 30 30 0 else s3 0 30 0
def s_T0 : Nat → Nat → Int32 := fun j => if j = 0 then s3 0 1 2 else s3 0 2 3
theorem hG.at {cY : ClassId} {B : Nat} {H H1 : Heap} {q n : Nat} {g : Nat → Option Nat} (x : hG cY B H q n g) (e : H1[q]? = H[q]?) : hG cY B H1 q n g := ⟨x.1, e.trans x.2⟩
def s_ad4 (a b c d : Nat) : Nat → Nat := fun j => if j = 0 then a else if j = 1 then b else if j = 2 then c else d
theorem s_tab4 {cI cY : ClassId} {B : Nat} {H : Heap} {q a b c d w : Nat} {F : Nat → Nat → Int32} (hg : hG cY B H q 4 (va_up (va_up (va_up (va_up (fun _ => none) 0 (some a)) 1 (some b)) 2 (some c)) 3 (some d))) (ha : hI cI B H a w (F 0)) (hb : hI cI B H b w (F 1)) (hc : hI cI B H c w (F 2)) (hd : hI cI B H d w (F 3)) : hT cI cY B H q 4 w F := by
  refine ⟨s_ad4 a b c d, ⟨_, hg, fun j hj => ?_⟩, fun j hj => ?_⟩
  · rcases (show j = 0 ∨ j = 1 ∨ j = 2 ∨ j = 3 by omega) with rfl | rfl | rfl | rfl <;> rfl
  · rcases (show j = 0 ∨ j = 1 ∨ j = 2 ∨ j = 3 by omega) with rfl | rfl | rfl | rfl
    · exact ha
    · exact hb
    · exact hc
    · exact hd
theorem s_tab2 {cI cY : ClassId} {B : Nat} {H : Heap} {q a b w : Nat} {F : Nat → Nat → Int32} (hg : hG cY B H q 2 (va_up (va_up (fun _ => none) 0 (some a)) 1 (some b))) (ha : hI cI B H a w (F 0)) (hb : hI cI B H b w (F 1)) : hT cI cY B H q 2 w F := by
  refine ⟨s_ad4 a b 0 0, ⟨_, hg, fun j hj => ?_⟩, fun j hj => ?_⟩
  · rcases (show j = 0 ∨ j = 1 by omega) with rfl | rfl <;> rfl
  · rcases (show j = 0 ∨ j = 1 by omega) with rfl | rfl
    · exact ha
    · exact hb
theorem s_tab0 {cI cY : ClassId} {B : Nat} {H : Heap} {q w : Nat} {F : Nat → Nat → Int32} {g : Nat → Option Nat} (hg : hG cY B H q 0 g) : hT cI cY B H q 0 w F := ⟨fun _ => 0, ⟨g, hg, fun j hj => absurd hj (Nat.not_lt_zero _)⟩, fun j hj => absurd hj (Nat.not_lt_zero _)⟩
