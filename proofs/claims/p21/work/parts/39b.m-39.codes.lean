/-! codes -/
def sc (a b c : Nat) : Nat := (min a (min b c) * 32 + (a + b + c - min a (min b c) - max a (max b c))) * 32 + max a (max b c)
theorem sc_lt {a b c : Nat} (ha : a < 32) (hb : b < 32) (hc : c < 32) : sc a b c < 32768 := by unfold sc; omega
theorem sc_d {a b c : Nat} (ha : a < 32) (hb : b < 32) (hc : c < 32) : sc a b c / 32 / 32 = min a (min b c) ∧ sc a b c / 32 % 32 = a + b + c - min a (min b c) - max a (max b c) ∧ sc a b c % 32 = max a (max b c) := by
  unfold sc; omega
theorem sc_rot (a b c : Nat) : sc b c a = sc a b c := by
  have e1 : min b (min c a) = min a (min b c) := by omega
  have e2 : max b (max c a) = max a (max b c) := by omega
  unfold sc; rw [e1, e2, show b + c + a = a + b + c from by omega]
theorem sc_swap (a b c : Nat) : sc b a c = sc a b c := by
  have e1 : min b (min a c) = min a (min b c) := by omega
  have e2 : max b (max a c) = max a (max b c) := by omega
  unfold sc; rw [e1, e2, show b + a + c = a + b + c from by omega]
theorem sc_swap2 (a b c : Nat) : sc a c b = sc a b c := by rw [← sc_rot, sc_swap, sc_rot, sc_rot]
theorem sc_inj {a b c x y z : Nat} (ha : a < 32) (hb : b < 32) (hc : c < 32) (hx : x < 32) (hy : y < 32) (hz : z < 32) (e : sc a b c = sc x y z) : (x = a ∧ y = b ∧ z = c) ∨ (x = b ∧ y = c ∧ z = a) ∨ (x = c ∧ y = a ∧ z = b) ∨ (x = b ∧ y = a ∧ z = c) ∨ (x = a ∧ y = c ∧ z = b) ∨ (x = c ∧ y = b ∧ z = a) := by
  obtain ⟨h1, h2, h3⟩ := sc_d ha hb hc
  obtain ⟨k1, k2, k3⟩ := sc_d hx hy hz
  rw [e] at h1 h2 h3
  rw [k1] at h1
  rw [k2] at h2
  rw [k3] at h3
  have hs : x + y + z = a + b + c := by omega
  have hl : min x (min y z) = min a (min b c) := h1
  have hh : max x (max y z) = max a (max b c) := h3
  clear h1 h2 h3 k1 k2 k3 e
  have p : ∀ u v w : Nat, ∃ lo mi hi, lo ≤ mi ∧ mi ≤ hi ∧ min u (min v w) = lo ∧ max u (max v w) = hi ∧ ((u = lo ∧ v = mi ∧ w = hi) ∨ (u = lo ∧ w = mi ∧ v = hi) ∨ (v = lo ∧ u = mi ∧ w = hi) ∨ (v = lo ∧ w = mi ∧ u = hi) ∨ (w = lo ∧ u = mi ∧ v = hi) ∨ (w = lo ∧ v = mi ∧ u = hi)) := by
    intro u v w
    rcases Nat.le_total u v with p | p <;> rcases Nat.le_total v w with q | q <;> rcases Nat.le_total u w with r | r
    · exact ⟨u, v, w, p, q, by omega, by omega, Or.inl ⟨rfl, rfl, rfl⟩⟩
    · exact ⟨u, v, w, p, q, by omega, by omega, Or.inl ⟨rfl, rfl, rfl⟩⟩
    · exact ⟨u, w, v, r, q, by omega, by omega, Or.inr (Or.inl ⟨rfl, rfl, rfl⟩)⟩
    · exact ⟨w, u, v, r, p, by omega, by omega, Or.inr (Or.inr (Or.inr (Or.inr (Or.inl ⟨rfl, rfl, rfl⟩))))⟩
    · exact ⟨v, u, w, p, r, by omega, by omega, Or.inr (Or.inr (Or.inl ⟨rfl, rfl, rfl⟩))⟩
    · exact ⟨v, w, u, q, r, by omega, by omega, Or.inr (Or.inr (Or.inr (Or.inl ⟨rfl, rfl, rfl⟩)))⟩
    · exact ⟨w, v, u, q, p, by omega, by omega, Or.inr (Or.inr (Or.inr (Or.inr (Or.inr ⟨rfl, rfl, rfl⟩))))⟩
    · exact ⟨w, v, u, q, p, by omega, by omega, Or.inr (Or.inr (Or.inr (Or.inr (Or.inr ⟨rfl, rfl, rfl⟩))))⟩
  obtain ⟨l1, m1, g1, -, -, e1, e2, r1⟩ := p a b c
  obtain ⟨l2, m2, g2, -, -, e3, e4, r2⟩ := p x y z
  rw [e1, e3] at hl
  rw [e2, e4] at hh
  have hm : m2 = m1 := by omega
  subst hl hh hm
  clear e1 e2 e3 e4 p
  rcases r1 with ⟨rfl, rfl, rfl⟩ | ⟨rfl, rfl, rfl⟩ | ⟨rfl, rfl, rfl⟩ | ⟨rfl, rfl, rfl⟩ | ⟨rfl, rfl, rfl⟩ | ⟨rfl, rfl, rfl⟩ <;> rcases r2 with ⟨rfl, rfl, rfl⟩ | ⟨rfl, rfl, rfl⟩ | ⟨rfl, rfl, rfl⟩ | ⟨rfl, rfl, rfl⟩ | ⟨rfl, rfl, rfl⟩ | ⟨rfl, rfl, rfl⟩ <;> simp
theorem fa_le {a b : Nat} (ha : a < 2 ^ 31) (hb : b < 2 ^ 31) : nI a < nI b ↔ a < b := nI_ltI ha hb
theorem min_nI {a b : Nat} (ha : a < 2 ^ 31) (hb : b < 2 ^ 31) : min32 (nI a) (nI b) = nI (min a b) := by
  unfold min32
  by_cases h : b < a
  · rw [if_pos ((nI_ltI hb ha).mpr h), Nat.min_eq_right (by omega)]
  · rw [if_neg (fun q => h ((nI_ltI hb ha).mp q)), Nat.min_eq_left (by omega)]
theorem max_nI {a b : Nat} (ha : a < 2 ^ 31) (hb : b < 2 ^ 31) : max32 (nI a) (nI b) = nI (max a b) := by
  unfold max32
  by_cases h : a < b
  · rw [if_pos ((nI_ltI ha hb).mpr h), Nat.max_eq_right (by omega)]
  · rw [if_neg (fun q => h ((nI_ltI ha hb).mp q)), Nat.max_eq_left (by omega)]
theorem r_code_nI {a b c : Nat} (ha : a < 32) (hb : b < 32) (hc : c < 32) : r_code (nI a) (nI b) (nI c) = nI (sc a b c) := by
  unfold r_code sc
  rw [min_nI (by omega) (by omega), min_nI (by omega) (by omega), max_nI (by omega) (by omega), max_nI (by omega) (by omega), show (32 : Int32) = nI 32 from rfl, pk_mul, nI_add, nI_add, nI_add, pk_sub (by omega), pk_sub (by omega), pk_mul, nI_add]
  congr 1
  omega
theorem r_corner_nI {tb : Nat → Int32} {k z : Nat} (hk : k < 2 ^ 31) (e : tb k = nI z) (hz : z < 32768) : r_corner tb (nI k) 0 = nI (z / 32 / 32) ∧ r_corner tb (nI k) 1 = nI (z / 32 % 32) ∧ r_corner tb (nI k) 2 = nI (z % 32) := by
  unfold r_corner
  rw [nI_clamp hk, e, if_pos rfl, if_neg (by decide), if_pos rfl, if_neg (by decide), if_neg (by decide)]
  rw [show (32 : Int32) = nI 32 from rfl, pk_div (a := z) (by omega) (by decide) (by decide), pk_div (by omega) (by decide) (by decide)]
  refine ⟨rfl, ?_, ?_⟩
  · rw [pk_mul, pk_sub (by omega)]; congr 1; omega
  · rw [pk_mul, pk_sub (by omega)]; congr 1; omega

