/-! settling, cutting, a new cairn: in numbers of 32 bits -/
def m_pFU (n : Nat) (xs ys lf sy : Nat → Int32) (a b : Nat) : Bool := if b ≤ a then false else (if m_isUnfair xs ys lf (nI a) (nI b) = true then (if m_mustStay n sy (nI a) (nI b) = true then false else true) else false)
def m_fuR (n : Nat) (xs ys lf sy : Nat → Int32) (a : Nat) : Option Nat := rg_fst (m_pFU n xs ys lf sy a) n
def m_pFUa (n : Nat) (xs ys lf sy : Nat → Int32) (a : Nat) : Bool := (m_fuR n xs ys lf sy a).isSome
def m_fu (n : Nat) (xs ys lf sy : Nat → Int32) : Option (Nat × Nat) := match rg_fst (m_pFUa n xs ys lf sy) n with
  | some a => (match m_fuR n xs ys lf sy a with
    | some b => some (a, b)
    | none => none)
  | none => none
theorem m_fu_some {n : Nat} {xs ys lf sy : Nat → Int32} {i j : Nat} (hi : i < n) (hj : j < n) (hbi : ∀ a, a < i → m_pFUa n xs ys lf sy a = false) (hbj : ∀ b, b < j → m_pFU n xs ys lf sy i b = false) (h : m_pFU n xs ys lf sy i j = true) : m_fu n xs ys lf sy = some (i, j) := by
  have h1 : m_fuR n xs ys lf sy i = some j := rg_fst_some h hbj hj
  have h2 : m_pFUa n xs ys lf sy i = true := by unfold m_pFUa; rw [h1]; rfl
  have h3 : rg_fst (m_pFUa n xs ys lf sy) n = some i := rg_fst_some h2 hbi hi
  unfold m_fu
  rw [h3]
  show (match m_fuR n xs ys lf sy i with | some b => some (i, b) | none => none) = _
  rw [h1]
theorem m_fu_none {n : Nat} {xs ys lf sy : Nat → Int32} (hbi : ∀ a, a < n → m_pFUa n xs ys lf sy a = false) : m_fu n xs ys lf sy = none := by
  unfold m_fu
  rw [rg_fst_none hbi]
theorem m_pFU_lo {n : Nat} {xs ys lf sy : Nat → Int32} {a j : Nat} (h : j < a + 1) : m_pFU n xs ys lf sy a j = false := if_pos (by omega)
theorem m_pFU_hi {n : Nat} {xs ys lf sy : Nat → Int32} {a j : Nat} (h : a < j) : m_pFU n xs ys lf sy a j = (if m_isUnfair xs ys lf (nI a) (nI j) = true then (if m_mustStay n sy (nI a) (nI j) = true then false else true) else false) := if_neg (by omega)
theorem m_pFUa_f {n : Nat} {xs ys lf sy : Nat → Int32} {a : Nat} (h : ∀ b, b < n → m_pFU n xs ys lf sy a b = false) : m_pFUa n xs ys lf sy a = false := by
  unfold m_pFUa m_fuR
  rw [rg_fst_none h]; rfl
/-- one flip of settling: the triangles' number, the ways, the list -/
def m_fuSt (n : Nat) (xs ys sy : Nat → Int32) (st : Nat × (Nat → Int32) × (Nat → Int32)) : Nat × (Nat → Int32) × (Nat → Int32) := match m_fu n xs ys st.2.1 sy with
  | some q => ((m_list n (m_tE n xs ys st.2.1 (nI q.1) (nI q.2)) st.2.2).1, m_tE n xs ys st.2.1 (nI q.1) (nI q.2), (m_list n (m_tE n xs ys st.2.1 (nI q.1) (nI q.2)) st.2.2).2)
  | none => st
theorem m_fuSt_some {n : Nat} {xs ys sy : Nat → Int32} {st : Nat × (Nat → Int32) × (Nat → Int32)} {i j : Nat} (h : m_fu n xs ys st.2.1 sy = some (i, j)) : m_fuSt n xs ys sy st = ((m_list n (m_tE n xs ys st.2.1 (nI i) (nI j)) st.2.2).1, m_tE n xs ys st.2.1 (nI i) (nI j), (m_list n (m_tE n xs ys st.2.1 (nI i) (nI j)) st.2.2).2) := by
  unfold m_fuSt; rw [h]
theorem m_fuSt_none {n : Nat} {xs ys sy : Nat → Int32} {st : Nat × (Nat → Int32) × (Nat → Int32)} (h : m_fu n xs ys st.2.1 sy = none) : m_fuSt n xs ys sy st = st := by
  unfold m_fuSt; rw [h]
def m_tuS (n : Nat) (xs ys sy : Nat → Int32) (st : Nat × (Nat → Int32) × (Nat → Int32)) : Nat → Nat × (Nat → Int32) × (Nat → Int32)
  | 0 => st
  | k + 1 => m_fuSt n xs ys sy (m_tuS n xs ys sy st k)
def m_tuP (n : Nat) (xs ys sy : Nat → Int32) (st : Nat × (Nat → Int32) × (Nat → Int32)) (k : Nat) : Bool := !(m_fu n xs ys (m_tuS n xs ys sy st k).2.1 sy).isSome
/-- how often settling flips; a thousand times at the most -/
def m_tuN (n : Nat) (xs ys sy : Nat → Int32) (st : Nat × (Nat → Int32) × (Nat → Int32)) : Nat := match rg_fst (m_tuP n xs ys sy st) 1000 with
  | some k => k
  | none => 1000
theorem m_tuN_some {n : Nat} {xs ys sy : Nat → Int32} {st : Nat × (Nat → Int32) × (Nat → Int32)} {k : Nat} (hk : k < 1000) (hb : ∀ j, j < k → m_tuP n xs ys sy st j = false) (h : m_tuP n xs ys sy st k = true) : m_tuN n xs ys sy st = k := by
  unfold m_tuN; rw [rg_fst_some h hb hk]
theorem m_tuN_none {n : Nat} {xs ys sy : Nat → Int32} {st : Nat × (Nat → Int32) × (Nat → Int32)} (hb : ∀ j, j < 1000 → m_tuP n xs ys sy st j = false) : m_tuN n xs ys sy st = 1000 := by
  unfold m_tuN; rw [rg_fst_none hb]
def m_cELf (n : Nat) (xs ys lf : Nat → Int32) (a b p : Int32) : Nat → Int32 := m_cutT n xs ys (m_cutT n xs ys lf a b (m_leftOf lf a b) p) a b (m_leftOf lf b a) p
def m_cESy (n : Nat) (sy : Nat → Int32) (a b p : Int32) : Nat → Int32 := if m_mustStay n sy a b = true then m_setSt n (m_setSt n (m_setSt n sy a b 0) a p 1) b p 1 else sy
def m_ac (n : Nat) (xs : Nat → Int32) (x : Int32) : Nat → Int32 := upd xs (nI n).toNatClampNeg x
/-- the ways behind a new cairn at x, y in the triangle of a, b, c -/
def m_inLf (n : Nat) (xs ys lf : Nat → Int32) (a b c x y : Int32) : Nat → Int32 := if m_turn xs ys a b x y = 0 then m_cELf (n + 1) xs ys lf a b (nI n) else if m_turn xs ys b c x y = 0 then m_cELf (n + 1) xs ys lf b c (nI n) else if m_turn xs ys c a x y = 0 then m_cELf (n + 1) xs ys lf c a (nI n) else m_addT (n + 1) xs ys (m_addT (n + 1) xs ys (m_addT (n + 1) xs ys (m_remT (n + 1) xs ys lf a b c) a b (nI n)) b c (nI n)) c a (nI n)
def m_inSy (n : Nat) (xs ys sy : Nat → Int32) (a b c x y : Int32) : Nat → Int32 := if m_turn xs ys a b x y = 0 then m_cESy (n + 1) sy a b (nI n) else if m_turn xs ys b c x y = 0 then m_cESy (n + 1) sy b c (nI n) else if m_turn xs ys c a x y = 0 then m_cESy (n + 1) sy c a (nI n) else sy
def m_inLf2 (n t : Nat) (xs ys lf co : Nat → Int32) (x y : Int32) : Nat → Int32 := m_inLf n (m_ac n xs x) (m_ac n ys y) lf (m_corner co (m_find t xs ys co x y) 0) (m_corner co (m_find t xs ys co x y) 1) (m_corner co (m_find t xs ys co x y) 2) x y
def m_inSy2 (n t : Nat) (xs ys sy co : Nat → Int32) (x y : Int32) : Nat → Int32 := m_inSy n (m_ac n xs x) (m_ac n ys y) sy (m_corner co (m_find t xs ys co x y) 0) (m_corner co (m_find t xs ys co x y) 1) (m_corner co (m_find t xs ys co x y) 2) x y
