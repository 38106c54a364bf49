/-! lists in order -/
def en_ (S : Nat → Prop) (t : Nat) (f : Nat → Nat) : Prop := (∀ i j, i < j → j < t → f i < f j) ∧ (∀ i, i < t → S (f i)) ∧ ∀ z, S z → ∃ i, i < t ∧ f i = z
theorem en_.lt {S : Nat → Prop} {t : Nat} {f : Nat → Nat} (h : en_ S t f) {i j : Nat} (hi : i < t) (hj : j < t) (q : f i < f j) : i < j := by
  rcases Nat.lt_or_ge i j with z | z
  · exact z
  · rcases Nat.lt_or_ge j i with y | y
    · have := h.1 j i y hi; omega
    · have : i = j := by omega
      subst this; omega
theorem en_.inj {S : Nat → Prop} {t : Nat} {f : Nat → Nat} (h : en_ S t f) {i j : Nat} (hi : i < t) (hj : j < t) (q : f i = f j) : i = j := by
  rcases Nat.lt_or_ge i j with z | z
  · have := h.1 i j z hj; omega
  · rcases Nat.lt_or_ge j i with y | y
    · have := h.1 j i y hi; omega
    · omega
theorem en_.at {S S' : Nat → Prop} {t t' : Nat} {f f' : Nat → Nat} (h : en_ S t f) (h' : en_ S' t' f') (hs : ∀ z, S' z → S z) : ∀ i, i < t' → ∀ k, k < t → f k = f' i → i ≤ k
  | 0, _, k, _, _ => Nat.zero_le k
  | i + 1, hi, k, hk, e => by
    obtain ⟨k', hk', e'⟩ := h.2.2 _ (hs _ (h'.2.1 i (by omega)))
    have i1 := en_.at h h' hs i (by omega) k' hk' e'
    have := h'.1 i (i + 1) (by omega) hi
    have := h.lt hk' hk (by omega)
    omega
theorem en_.sub {S S' : Nat → Prop} {t t' : Nat} {f f' : Nat → Nat} (h : en_ S t f) (h' : en_ S' t' f') (hs : ∀ z, S' z → S z) : t' ≤ t := by
  rcases Nat.eq_zero_or_pos t' with z | z
  · omega
  · obtain ⟨k, hk, e⟩ := h.2.2 _ (hs _ (h'.2.1 (t' - 1) (by omega)))
    have := en_.at h h' hs (t' - 1) (by omega) k hk e
    omega
theorem en_.uniq {S : Nat → Prop} {t t' : Nat} {f f' : Nat → Nat} (h : en_ S t f) (h' : en_ S t' f') : t = t' ∧ ∀ i, i < t → f i = f' i := by
  have e : t = t' := Nat.le_antisymm (h'.sub h (fun _ => id)) (h.sub h' (fun _ => id))
  subst e
  refine ⟨rfl, fun i hi => ?_⟩
  obtain ⟨k, hk, e⟩ := h'.2.2 _ (h.2.1 i hi)
  have i1 := en_.at h' h (fun _ => id) i hi k hk e
  have i2 := en_.at h h' (fun _ => id) k hk i hi e.symm
  have : k = i := by omega
  subst this
  exact e.symm
theorem en_.congr {S S' : Nat → Prop} {t : Nat} {f f' : Nat → Nat} (h : en_ S t f) (hs : ∀ z, S' z ↔ S z) (hf : ∀ i, i < t → f' i = f i) : en_ S' t f' := by
  refine ⟨fun i j hi hj => ?_, fun i hi => ?_, fun z hz => ?_⟩
  · rw [hf i (by omega), hf j hj]; exact h.1 i j hi hj
  · rw [hf i hi]; exact (hs _).mpr (h.2.1 i hi)
  · obtain ⟨i, hi, e⟩ := h.2.2 z ((hs z).mp hz)
    exact ⟨i, hi, by rw [hf i hi]; exact e⟩
/-- a new one goes between -/
def en_put (f : Nat → Nat) (p z : Nat) : Nat → Nat := fun i => if i < p then f i else if i = p then z else f (i - 1)
theorem en_.put {S : Nat → Prop} {t : Nat} {f : Nat → Nat} (h : en_ S t f) {p z : Nat} (hp : p ≤ t) (h1 : ∀ i, i < p → f i < z) (h2 : ∀ i, p ≤ i → i < t → z < f i) : en_ (fun x => S x ∨ x = z) (t + 1) (en_put f p z) := by
  refine ⟨fun i j hi hj => ?_, fun i hi => ?_, fun x hx => ?_⟩
  · unfold en_put
    by_cases a : j < p
    · rw [if_pos (by omega), if_pos a]; exact h.1 i j hi (by omega)
    · rw [if_neg a]
      by_cases b : j = p
      · rw [if_pos b, if_pos (by omega)]; exact h1 i (by omega)
      · rw [if_neg b]
        by_cases c : i < p
        · rw [if_pos c]
          have := h1 i c
          have := h2 (j - 1) (by omega) (by omega)
          omega
        · rw [if_neg c]
          by_cases d : i = p
          · rw [if_pos d]; exact h2 (j - 1) (by omega) (by omega)
          · rw [if_neg d]; exact h.1 (i - 1) (j - 1) (by omega) (by omega)
  · show S (en_put f p z i) ∨ en_put f p z i = z
    unfold en_put
    by_cases a : i < p
    · rw [if_pos a]; exact Or.inl (h.2.1 i (by omega))
    · rw [if_neg a]
      by_cases b : i = p
      · rw [if_pos b]; exact Or.inr rfl
      · rw [if_neg b]; exact Or.inl (h.2.1 (i - 1) (by omega))
  · rcases hx with hx | hx
    · obtain ⟨i, hi, e⟩ := h.2.2 x hx
      by_cases a : i < p
      · exact ⟨i, by omega, by unfold en_put; rw [if_pos a]; exact e⟩
      · exact ⟨i + 1, by omega, by unfold en_put; rw [if_neg (by omega), if_neg (by omega)]; exact e⟩
    · exact ⟨p, by omega, by unfold en_put; rw [if_neg (by omega), if_pos rfl]; exact hx.symm⟩
theorem en_.app {S : Nat → Prop} {t : Nat} {f : Nat → Nat} (h : en_ S t f) {z : Nat} (h1 : ∀ x, S x → x < z) : en_ (fun x => S x ∨ x = z) (t + 1) (fun i => if i < t then f i else z) :=
  (h.put (p := t) (z := z) (Nat.le_refl t) (fun i hi => h1 _ (h.2.1 i hi)) (fun i a b => by omega)).congr (fun _ => Iff.rfl) (fun i hi => by
    unfold en_put
    show (if i < t then f i else z) = _
    by_cases a : i < t
    · rw [if_pos a, if_pos a]
    · rw [if_neg a, if_neg a, if_pos (by omega)])
/-- one goes away -/
theorem en_.take {S : Nat → Prop} {u : Nat} {f : Nat → Nat} (h : en_ S (u + 1) f) {p : Nat} (hp : p < u + 1) : en_ (fun x => S x ∧ x ≠ f p) u (fun i => if i < p then f i else f (i + 1)) := by
  refine ⟨fun i j hi hj => ?_, fun i hi => ?_, fun x hx => ?_⟩
  · show (if i < p then f i else f (i + 1)) < (if j < p then f j else f (j + 1))
    by_cases a : j < p
    · rw [if_pos (by omega), if_pos a]; exact h.1 i j hi (by omega)
    · rw [if_neg a]
      by_cases b : i < p
      · rw [if_pos b]; exact h.1 i (j + 1) (by omega) (by omega)
      · rw [if_neg b]; exact h.1 (i + 1) (j + 1) (by omega) (by omega)
  · show S (if i < p then f i else f (i + 1)) ∧ (if i < p then f i else f (i + 1)) ≠ f p
    by_cases a : i < p
    · rw [if_pos a]
      refine ⟨h.2.1 i (by omega), fun q => ?_⟩
      have := h.inj (by omega) hp q; omega
    · rw [if_neg a]
      refine ⟨h.2.1 (i + 1) (by omega), fun q => ?_⟩
      have := h.inj (by omega) hp q; omega
  · obtain ⟨i, hi, e⟩ := h.2.2 x hx.1
    have ne : i ≠ p := by rintro rfl; exact hx.2 e.symm
    by_cases a : i < p
    · exact ⟨i, by omega, by show (if i < p then f i else f (i + 1)) = x; rw [if_pos a]; exact e⟩
    · refine ⟨i - 1, by omega, ?_⟩
      show (if i - 1 < p then f (i - 1) else f (i - 1 + 1)) = x
      rw [if_neg (by omega), show i - 1 + 1 = i from by omega]; exact e
