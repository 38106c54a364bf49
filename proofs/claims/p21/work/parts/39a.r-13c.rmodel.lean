/-! the reference: flips and settling -/
def r_pos (m : Nat) (tb : Nat → Int32) (its : Int32) : Nat := match rg_fst (fun j => if tb j = its then true else false) m with
  | some j => j
  | none => 0
theorem rg_fst_ex {p : Nat → Bool} : ∀ {m : Nat}, (∃ j, j < m ∧ p j = true) → ∃ i, rg_fst p m = some i ∧ i < m ∧ p i = true ∧ ∀ j, j < i → p j = false
  | 0, h => by obtain ⟨j, hj, -⟩ := h; omega
  | m + 1, h => by
    cases e : rg_fst p m with
    | some i =>
      refine ⟨i, by simp [rg_fst, e], ?_⟩
      by_cases q : ∃ j, j < m ∧ p j = true
      · obtain ⟨i2, e2, h1, h2, h3⟩ := rg_fst_ex q
        rw [e] at e2
        cases e2
        exact ⟨by omega, h2, h3⟩
      · have q2 : ∀ j, j < m → p j = false := fun j hj => by
          cases e3 : p j with
          | false => rfl
          | true => exact absurd ⟨j, hj, e3⟩ q
        rw [rg_fst_none q2] at e
        cases e
    | none =>
      have q2 : ∀ j, j < m → p j = false := fun j hj => by
        cases e3 : p j with
        | false => rfl
        | true =>
          obtain ⟨i2, e2, -⟩ := rg_fst_ex (p := p) (m := m) ⟨j, hj, e3⟩
          rw [e] at e2
          cases e2
      obtain ⟨j, hj, h2⟩ := h
      have hjm : j = m := by
        rcases Nat.lt_or_ge j m with z | z
        · rw [q2 j z] at h2; cases h2
        · omega
      subst hjm
      exact ⟨j, by simp [rg_fst, e, h2], by omega, h2, q2⟩
theorem r_pos_spec {m : Nat} {tb : Nat → Int32} {its : Int32} (h : ∃ j, j < m ∧ tb j = its) : r_pos m tb its < m ∧ tb (r_pos m tb its) = its ∧ ∀ j, j < r_pos m tb its → ¬ tb j = its := by
  obtain ⟨j, hj, e⟩ := h
  obtain ⟨i, e1, h1, h2, h3⟩ := rg_fst_ex (p := fun j => if tb j = its then true else false) (m := m) ⟨j, hj, if_pos e⟩
  have e2 : r_pos m tb its = i := by unfold r_pos; rw [e1]
  rw [e2]
  refine ⟨h1, ?_, fun j hj q => ?_⟩
  · by_cases q : tb i = its
    · exact q
    · simp only [if_neg q] at h2; cases h2
  · have := h3 j hj
    simp only [if_pos q] at this
    cases this
def r_p1 (u : Nat) (tb : Nat → Int32) (a b kc : Int32) : Nat := r_pos (u + 1 + 1) tb (r_code a b kc)
def r_tk1 (u : Nat) (tb : Nat → Int32) (a b kc : Int32) : Nat → Int32 := r_take (u + 1) (r_p1 u tb a b kc) tb
def r_p2 (u : Nat) (tb : Nat → Int32) (a b kc kd : Int32) : Nat := r_pos (u + 1) (r_tk1 u tb a b kc) (r_code a b kd)
/-- the list behind the flip of a, b to kc, kd -/
def r_flTb (u : Nat) (tb : Nat → Int32) (a b kc kd : Int32) : Nat → Int32 := r_put (u + 1) (r_put u (r_take u (r_p2 u tb a b kc kd) (r_tk1 u tb a b kc)) kc kd a) kc kd b
/-- what a flip needs of the list -/
def r_okFl (u : Nat) (tb : Nat → Int32) (a b kc kd : Int32) : Prop := vp_in kc 17 ∧ vp_in kd 17 ∧ (∃ j, j < u + 1 + 1 ∧ tb j = r_code a b kc) ∧ ∃ j, j < u + 1 ∧ r_tk1 u tb a b kc j = r_code a b kd
abbrev r_St : Type := (Nat → Int32) × (Nat → Nat → Int32) × Int32
def r_pFU (u : Nat) (xs ys : Nat → Int32) (st : r_St) (i j : Nat) : Bool := if j ≤ i then false else (if st.2.1 i j = 0 then r_isUnfair (u + 1 + 1) xs ys st.1 (nI i) (nI j) else false)
def r_fuR (u n : Nat) (xs ys : Nat → Int32) (st : r_St) (i : Nat) : Option Nat := rg_fst (r_pFU u xs ys st i) n
def r_pFUa (u n : Nat) (xs ys : Nat → Int32) (st : r_St) (i : Nat) : Bool := (r_fuR u n xs ys st i).isSome
def r_fu (u n : Nat) (xs ys : Nat → Int32) (st : r_St) : Option (Nat × Nat) := match rg_fst (r_pFUa u n xs ys st) n with
  | some a => (match r_fuR u n xs ys st a with
    | some b => some (a, b)
    | none => none)
  | none => none
def r_kc (u : Nat) (tb : Nat → Int32) (i j : Nat) : Int32 := r_fr tb (nI i) (nI j) 1 (u + 1 + 1)
def r_kd (u : Nat) (tb : Nat → Int32) (i j : Nat) : Int32 := r_fr tb (nI i) (nI j) 0 (u + 1 + 1)
/-- the state behind a flip -/
def r_fl (u : Nat) (st : r_St) (i j : Nat) : r_St := (r_flTb u st.1 (nI i) (nI j) (r_kc u st.1 i j) (r_kd u st.1 i j), r_let st.2.1 (r_kc u st.1 i j) (r_kd u st.1 i j) 0, st.2.2 + 1)
def r_fuSt (u n : Nat) (xs ys : Nat → Int32) (st : r_St) : r_St := match r_fu u n xs ys st with
  | some q => r_fl u st q.1 q.2
  | none => st
theorem r_fu_some {u n : Nat} {xs ys : Nat → Int32} {st : r_St} {i j : Nat} (hi : i < n) (hj : j < n) (hbi : ∀ a, a < i → r_pFUa u n xs ys st a = false) (hbj : ∀ b, b < j → r_pFU u xs ys st i b = false) (h : r_pFU u xs ys st i j = true) : r_fu u n xs ys st = some (i, j) := by
  have h1 : r_fuR u n xs ys st i = some j := rg_fst_some h hbj hj
  have h2 : r_pFUa u n xs ys st i = true := by unfold r_pFUa; rw [h1]; rfl
  have h3 : rg_fst (r_pFUa u n xs ys st) n = some i := rg_fst_some h2 hbi hi
  unfold r_fu
  rw [h3]
  show (match r_fuR u n xs ys st i with | some b => some (i, b) | none => none) = _
  rw [h1]
theorem r_fu_none {u n : Nat} {xs ys : Nat → Int32} {st : r_St} (hbi : ∀ a, a < n → r_pFUa u n xs ys st a = false) : r_fu u n xs ys st = none := by
  unfold r_fu
  rw [rg_fst_none hbi]
theorem r_pFU_lo {u : Nat} {xs ys : Nat → Int32} {st : r_St} {a j : Nat} (h : j < a + 1) : r_pFU u xs ys st a j = false := if_pos (by omega)
theorem r_pFU_hi {u : Nat} {xs ys : Nat → Int32} {st : r_St} {a j : Nat} (h : a < j) : r_pFU u xs ys st a j = (if st.2.1 a j = 0 then r_isUnfair (u + 1 + 1) xs ys st.1 (nI a) (nI j) else false) := if_neg (by omega)
theorem r_pFUa_f {u n : Nat} {xs ys : Nat → Int32} {st : r_St} {a : Nat} (h : ∀ b, b < n → r_pFU u xs ys st a b = false) : r_pFUa u n xs ys st a = false := by
  unfold r_pFUa r_fuR
  rw [rg_fst_none h]; rfl
theorem r_fuSt_some {u n : Nat} {xs ys : Nat → Int32} {st : r_St} {i j : Nat} (h : r_fu u n xs ys st = some (i, j)) : r_fuSt u n xs ys st = r_fl u st i j := by
  unfold r_fuSt; rw [h]
theorem r_fuSt_none {u n : Nat} {xs ys : Nat → Int32} {st : r_St} (h : r_fu u n xs ys st = none) : r_fuSt u n xs ys st = st := by
  unfold r_fuSt; rw [h]
def r_tuS (u n : Nat) (xs ys : Nat → Int32) (st : r_St) : Nat → r_St
  | 0 => st
  | k + 1 => r_fuSt u n xs ys (r_tuS u n xs ys st k)
/-- what settling needs of a state: index rows, and what each flip needs -/
def r_okS (u n : Nat) (xs ys : Nat → Int32) (st : r_St) : Prop := ∀ i j, i < n → j < n → r_okF (u + 1 + 1) st.1 (nI i) (nI j) ∧ (st.2.1 i j = 0 → r_isUnfair (u + 1 + 1) xs ys st.1 (nI i) (nI j) = true → r_okFl u st.1 (nI i) (nI j) (r_kc u st.1 i j) (r_kd u st.1 i j))

