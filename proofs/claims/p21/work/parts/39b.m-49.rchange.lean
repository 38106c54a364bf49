/-! the reference's changes of its list -/
theorem ins_pos {its : Int32} : ∀ (k : Nat) {tb : Nat → Int32}, (∀ i j, i < j → j < k → tb i < tb j) → (∀ i, i < k → tb i ≠ its) → ∃ p, p ≤ k ∧ (∀ i, i < p → tb i < its) ∧ (∀ i, p ≤ i → i < k → its < tb i) ∧ ∀ i, r_ins tb its k i = if i < p then tb i else if i = p then its else if i ≤ k then tb (i - 1) else tb i
  | 0, tb, _, _ => ⟨0, Nat.le_refl 0, fun i hi => absurd hi (Nat.not_lt_zero _), fun i _ hi => absurd hi (Nat.not_lt_zero _), fun i => by
    show upd tb 0 its i = _
    rw [upd_if, if_neg (Nat.not_lt_zero i)]
    by_cases e : i = 0
    · rw [if_pos e, if_pos e]
    · rw [if_neg e, if_neg e, if_neg (by omega)]⟩
  | k + 1, tb, hs, hne => by
    have ne := hne k (by omega)
    have tri : ∀ x y : Int32, x ≠ y → ¬ x ≤ y → y < x := fun x y h1 h2 => by
      rw [Int32.lt_iff_toInt_lt]; rw [Int32.le_iff_toInt_le] at h2; omega
    have tri2 : ∀ x y : Int32, x ≠ y → x ≤ y → x < y := fun x y h1 h2 => by
      rw [Int32.lt_iff_toInt_lt]; rw [Int32.le_iff_toInt_le] at h2
      have : x.toInt ≠ y.toInt := fun q => h1 (Int32.toInt_inj.mp q)
      omega
    have trans : ∀ x y z : Int32, x < y → y < z → x < z := fun x y z h1 h2 => by
      rw [Int32.lt_iff_toInt_lt] at *; omega
    by_cases h : tb k ≤ its
    · refine ⟨k + 1, Nat.le_refl _, fun i hi => ?_, fun i h1 h2 => by omega, fun i => ?_⟩
      · rcases Nat.lt_or_ge i k with z | z
        · exact trans _ _ _ (hs i k z (by omega)) (tri2 _ _ ne h)
        · have : i = k := by omega
          subst this
          exact tri2 _ _ ne h
      · show (if tb k ≤ its then upd tb (k + 1) its else r_ins (upd tb (k + 1) (tb k)) its k) i = _
        rw [if_pos h, upd_if]
        by_cases e : i = k + 1
        · rw [if_pos e, if_neg (by omega), if_pos e]
        · rw [if_neg e]
          by_cases e2 : i < k + 1
          · rw [if_pos e2]
          · rw [if_neg e2, if_neg e, if_neg (by omega)]
    · obtain ⟨p, h1, h2, h3, h4⟩ := ins_pos (its := its) k (tb := upd tb (k + 1) (tb k)) (fun i j hi hj => by rw [upd_if, if_neg (by omega), upd_if, if_neg (by omega)]; exact hs i j hi (by omega)) (fun i hi => by rw [upd_if, if_neg (by omega)]; exact hne i (by omega))
      refine ⟨p, by omega, fun i hi => ?_, fun i hi hk => ?_, fun i => ?_⟩
      · have := h2 i hi
        rw [upd_if, if_neg (by omega)] at this
        exact this
      · rcases Nat.lt_or_ge i k with z | z
        · have := h3 i hi z
          rw [upd_if, if_neg (by omega)] at this
          exact this
        · have : i = k := by omega
          subst this
          exact tri _ _ ne h
      · show (if tb k ≤ its then upd tb (k + 1) its else r_ins (upd tb (k + 1) (tb k)) its k) i = _
        rw [if_neg h, h4 i]
        by_cases e1 : i < p
        · rw [if_pos e1, if_pos e1, upd_if, if_neg (by omega)]
        · rw [if_neg e1, if_neg e1]
          by_cases e2 : i = p
          · rw [if_pos e2, if_pos e2]
          · rw [if_neg e2, if_neg e2]
            by_cases e3 : i ≤ k
            · rw [if_pos e3, if_pos (by omega), upd_if, if_neg (by omega)]
            · rw [if_neg e3, upd_if]
              by_cases e4 : i = k + 1
              · rw [if_pos e4, if_pos (by omega), e4]; rfl
              · rw [if_neg e4, if_neg (by omega)]
section L
variable {S : Nat → Prop} {t : Nat} {f : Nat → Nat} {tb : Nat → Int32}
theorem list_put (h : en_ S t f) (hb : ∀ z, S z → z < 32768) (hT : ti_T t f tb) {z : Nat} (hz : z < 32768) (hn : ¬ S z) : ∃ f', en_ (fun x => S x ∨ x = z) (t + 1) f' ∧ ti_T (t + 1) f' (r_ins tb (nI z) t) := by
  have fb : ∀ i, i < t → f i < 32768 := fun i hi => hb _ (h.2.1 i hi)
  obtain ⟨p, h1, h2, h3, h4⟩ := ins_pos (its := nI z) t (tb := tb) (fun i j hi hj => by
    rw [hT i (by omega), hT j hj]
    have := fb i (by omega); have := fb j hj
    exact (nI_ltI (by omega) (by omega)).mpr (h.1 i j hi hj)) (fun i hi q => by
    rw [hT i hi] at q
    have := fb i hi
    have := (nI_eq (by omega) (by omega)).mp q
    exact hn (by rw [← this]; exact h.2.1 i hi))
  refine ⟨en_put f p z, h.put h1 (fun i hi => ?_) (fun i hi hit => ?_), fun k hk => ?_⟩
  · have := h2 i hi
    rw [hT i (by omega)] at this
    have := fb i (by omega)
    exact (nI_ltI (by omega) (by omega)).mp (by assumption)
  · have := h3 i hi hit
    rw [hT i (by omega)] at this
    have := fb i (by omega)
    exact (nI_ltI (by omega) (by omega)).mp (by assumption)
  · rw [h4 k]
    unfold en_put
    by_cases e1 : k < p
    · rw [if_pos e1, if_pos e1]; exact hT k (by omega)
    · rw [if_neg e1, if_neg e1]
      by_cases e2 : k = p
      · rw [if_pos e2, if_pos e2]
      · rw [if_neg e2, if_neg e2, if_pos (by omega)]; exact hT (k - 1) (by omega)
theorem list_take {u : Nat} (h : en_ S (u + 1) f) (hb : ∀ z, S z → z < 32768) (hT : ti_T (u + 1) f tb) {z : Nat} (hz : S z) : (∃ j, j < u + 1 ∧ tb j = nI z) ∧ ∃ f', en_ (fun x => S x ∧ x ≠ z) u f' ∧ ti_T u f' (r_take u (r_pos (u + 1) tb (nI z)) tb) := by
  obtain ⟨i, hi, e⟩ := h.2.2 z hz
  have hex : ∃ j, j < u + 1 ∧ tb j = nI z := ⟨i, hi, by rw [hT i hi, e]⟩
  obtain ⟨h1, h2, -⟩ := r_pos_spec hex
  refine ⟨hex, ?_⟩
  generalize r_pos (u + 1) tb (nI z) = p at h1 h2
  have fp : f p = z := by
    rw [hT p h1] at h2
    have := hb _ (h.2.1 p h1)
    have := hb _ hz
    exact (nI_eq (by omega) (by omega)).mp h2
  refine ⟨_, (h.take h1).congr (fun x => by rw [fp]) (fun i _ => rfl), fun k hk => ?_⟩
  show va_cpy tb tb (p + 1) p (u - p) k = nI (if k < p then f k else f (k + 1))
  by_cases e : k < p
  · rw [pk_cpy_out (Or.inl e), if_pos e]; exact hT k (by omega)
  · rw [pk_cpy_in (by omega) (by omega), if_neg e, show p + 1 + (k - p) = k + 1 from by omega]; exact hT (k + 1) (by omega)
end L
/-! the edges that stay -/
def st_set (St : Nat → Nat → Bool) (a b : Nat) (v : Bool) : Nat → Nat → Bool := fun i j => if (i = a ∧ j = b) ∨ (i = b ∧ j = a) then v else St i j
theorem let_eq {St : Nat → Nat → Bool} {sg : Nat → Nat → Int32} (h : ti_G St sg) {a b : Nat} (ha : a < 17) (hb : b < 17) (v : Bool) : ti_G (st_set St a b v) (r_let sg (nI a) (nI b) (bI v)) := by
  intro i j hi hj
  unfold r_let r_up st_set
  rw [nI_clamp (by omega), nI_clamp (by omega)]
  have g := h i j hi hj
  by_cases e1 : i = b
  · subst e1
    rw [if_pos rfl, upd_if]
    by_cases e2 : j = a
    · rw [if_pos e2, if_pos (Or.inr ⟨rfl, e2⟩)]
    · rw [if_neg e2]
      by_cases e3 : i = a
      · subst e3
        rw [if_pos rfl, upd_if, if_neg e2, if_neg (by omega)]; exact g
      · rw [if_neg e3, if_neg (by omega)]; exact g
  · rw [if_neg e1]
    by_cases e3 : i = a
    · subst e3
      rw [if_pos rfl, upd_if]
      by_cases e4 : j = b
      · rw [if_pos e4, if_pos (Or.inl ⟨rfl, e4⟩)]
      · rw [if_neg e4, if_neg (by omega)]; exact g
    · rw [if_neg e3, if_neg (by omega)]; exact g
theorem setSt_eq {n : Nat} (hn : n ≤ 17) {St : Nat → Nat → Bool} {sy : Nat → Int32} (h : ti_S St sy) {a b : Nat} (ha : a < n) (hb : b < n) (v : Bool) : ti_S (st_set St a b v) (m_setSt n sy (nI a) (nI b) (bI v)) := by
  intro i j hi hj
  have hv : m_01 (bI v) = bI v := by cases v <;> rfl
  unfold m_setSt st_set
  rw [m_cairn_eq hn (by omega), m_cairn_eq hn (by omega), decide_eq_true ha, decide_eq_true hb, if_pos rfl, if_pos rfl, row_nI (by omega) (by omega), row_nI (by omega) (by omega), hv, upd_if, upd_if]
  by_cases e1 : i = b ∧ j = a
  · rw [if_pos (by omega), if_pos (Or.inr e1)]
  · rw [if_neg (by omega)]
    by_cases e2 : i = a ∧ j = b
    · rw [if_pos (by omega), if_pos (Or.inl e2)]
    · rw [if_neg (by omega), if_neg (by omega)]
      exact h i j hi hj
theorem ti_S.congr {St St' : Nat → Nat → Bool} {sy : Nat → Int32} (h : ti_S St sy) (e : ∀ i j, i < 17 → j < 17 → St i j = St' i j) : ti_S St' sy := fun a b ha hb => by rw [← e a b ha hb]; exact h a b ha hb
theorem ti_G.congr {St St' : Nat → Nat → Bool} {sg : Nat → Nat → Int32} (h : ti_G St sg) (e : ∀ i j, i < 17 → j < 17 → St i j = St' i j) : ti_G St' sg := fun a b ha hb => by rw [← e a b ha hb]; exact h a b ha hb

