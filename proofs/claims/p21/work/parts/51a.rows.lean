/-! rows of the law's moor and codes of the second picture -/
def sr_z (z : Nat) (r : Nat → Int32) : Prop := r 0 = nI (z / 32 / 32) ∧ r 1 = nI (z / 32 % 32) ∧ r 2 = nI (z % 32)
def sv_T (t : Nat) (T : Nat → Nat → Int32) (tb : Nat → Int32) : Prop := ∀ k, k < t → ∃ z, z < 32768 ∧ tb k = nI z ∧ sr_z z (T k)
theorem sr_ahead {y z : Nat} {p q : Nat → Int32} (hy : y < 32768) (hz : z < 32768) (hp : sr_z y p) (hq : sr_z z q) : s_ahead p q = decide (y < z) := by
  obtain ⟨a0, a1, a2⟩ := hp
  obtain ⟨b0, b1, b2⟩ := hq
  unfold s_ahead
  rw [a0, a1, a2, b0, b1, b2]
  by_cases h0 : y / 32 / 32 = z / 32 / 32
  · rw [if_pos (congrArg nI h0)]
    by_cases h1 : y / 32 % 32 = z / 32 % 32
    · rw [if_pos (congrArg nI h1)]
      by_cases h2 : z % 32 ≤ y % 32
      · rw [if_pos ((nI_leI (by omega) (by omega)).mpr h2), decide_eq_false (by omega)]
      · rw [if_neg (fun w => h2 ((nI_leI (by omega) (by omega)).mp w)), decide_eq_true (by omega)]
    · rw [if_neg (fun w => h1 ((nI_eq (by omega) (by omega)).mp w))]
      by_cases h2 : z / 32 % 32 ≤ y / 32 % 32
      · rw [if_pos ((nI_leI (by omega) (by omega)).mpr h2), decide_eq_false (by omega)]
      · rw [if_neg (fun w => h2 ((nI_leI (by omega) (by omega)).mp w)), decide_eq_true (by omega)]
  · rw [if_neg (fun w => h0 ((nI_eq (by omega) (by omega)).mp w))]
    by_cases h2 : z / 32 / 32 ≤ y / 32 / 32
    · rw [if_pos ((nI_leI (by omega) (by omega)).mpr h2), decide_eq_false (by omega)]
    · rw [if_neg (fun w => h2 ((nI_leI (by omega) (by omega)).mp w)), decide_eq_true (by omega)]
theorem sr_same {y z : Nat} {p q : Nat → Int32} (hy : y < 32768) (hz : z < 32768) (hp : sr_z y p) (hq : sr_z z q) : s_same p q = decide (y = z) := by
  unfold s_same
  rw [sr_ahead hy hz hp hq, sr_ahead hz hy hq hp]
  by_cases h1 : y < z
  · rw [decide_eq_true h1, if_pos rfl, decide_eq_false (by omega)]
  · rw [decide_eq_false h1, if_neg (by decide)]
    by_cases h2 : z < y
    · rw [decide_eq_true h2, if_pos rfl, decide_eq_false (by omega)]
    · rw [decide_eq_false h2, if_neg (by decide), decide_eq_true (by omega)]
theorem sr_three {a b c : Nat} (ha : a < 32) (hb : b < 32) (hc : c < 32) : sr_z (sc a b c) (s_three (nI a) (nI b) (nI c)) := by
  obtain ⟨d1, d2, d3⟩ := sc_d ha hb hc
  have le : ∀ x y : Nat, x < 32 → y < 32 → (nI x ≤ nI y ↔ x ≤ y) := fun x y hx hy => nI_leI (by omega) (by omega)
  have key : ∀ x y z : Nat, x = min a (min b c) → y = a + b + c - min a (min b c) - max a (max b c) → z = max a (max b c) → sr_z (sc a b c) (s3 (nI x) (nI y) (nI z)) := fun x y z h1 h2 h3 => by
    unfold sr_z
    rw [d1, d2, d3]
    exact ⟨congrArg nI h1, congrArg nI h2, congrArg nI h3⟩
  unfold s_three
  simp only [s_th, le a b ha hb, le b c hb hc, le a c ha hc, le c b hc hb, le b a hb ha, le c a hc ha]
  repeat' split
  all_goals exact key _ _ _ (by omega) (by omega) (by omega)
theorem sv_to {u : Nat} {T : Nat → Nat → Int32} {tb : Nat → Int32} {z : Nat} {r : Nat → Int32} (h : sv_T (u + 1) T tb) (hz : z < 32768) (hr : sr_z z r) (hex : ∃ j, j < u + 1 ∧ tb j = nI z) : (s_to (u + 1) T r).1 = u ∧ sv_T u (s_to (u + 1) T r).2 (r_take u (r_pos (u + 1) tb (nI z)) tb) := by
  obtain ⟨h1, h2, h3⟩ := r_pos_spec hex
  generalize r_pos (u + 1) tb (nI z) = p at h1 h2 h3 ⊢
  have hs : ∀ k, k < u + 1 → (s_same r (T k) = true ↔ tb k = nI z) := fun k hk => by
    obtain ⟨y, hy, e, hT⟩ := h k hk
    rw [sr_same hz hy hr hT, e, decide_eq_true_iff]
    exact ⟨fun q => by rw [q], fun q => ((nI_eq (by omega) (by omega)).mp q).symm⟩
  have e := s_to_some (nT := u + 1) (i := p) (T := T) (t := r) ((hs p h1).mpr h2) (fun j hj => by
    cases q : s_same r (T j) with
    | false => rfl
    | true => exact absurd ((hs j (by omega)).mp q) (h3 j hj)) h1
  rw [e]
  refine ⟨rfl, fun k hk => ?_⟩
  show ∃ z, z < 32768 ∧ va_cpy tb tb (p + 1) p (u - p) k = nI z ∧ sr_z z (s_less T p k)
  unfold s_less
  by_cases q : k < p
  · rw [pk_cpy_out (Or.inl q), if_pos q]; exact h k (by omega)
  · rw [pk_cpy_in (by omega) (by omega), if_neg q, show p + 1 + (k - p) = k + 1 from by omega]; exact h (k + 1) (by omega)
theorem sv_bub {m z : Nat} (hz : z < 32768) : ∀ (k : Nat) (T : Nat → Nat → Int32) (tb : Nat → Int32), k < m → (∀ j, j < m → j ≠ k → ∃ y, y < 32768 ∧ tb j = nI y ∧ sr_z y (T j)) → sr_z z (T k) → (∀ j, k < j → j < m → True) → (∀ j, j < k → ∃ y, y < 32768 ∧ tb j = nI y ∧ sr_z y (T j)) → ∀ j, j < m → ∃ y, y < 32768 ∧ r_ins tb (nI z) k j = nI y ∧ sr_z y (s_bub T k j)
  | 0, T, tb, hk, h, hr, _, _, j, hj => by
    show ∃ y, y < 32768 ∧ upd tb 0 (nI z) j = nI y ∧ sr_z y (T j)
    rw [upd_if]
    by_cases e : j = 0
    · subst e; rw [if_pos rfl]; exact ⟨z, hz, rfl, hr⟩
    · rw [if_neg e]; exact h j hj e
  | k + 1, T, tb, hk, h, hr, _, _, j, hj => by
    obtain ⟨y, hy, ey, hT⟩ := h k (by omega) (by omega)
    show ∃ y, y < 32768 ∧ (if tb k ≤ nI z then upd tb (k + 1) (nI z) else r_ins (upd tb (k + 1) (tb k)) (nI z) k) j = nI y ∧ sr_z y ((if s_ahead (T (k + 1)) (T k) = true then s_bub (s_swap T k) k else T) j)
    rw [sr_ahead hz hy hr hT, ey]
    by_cases q : z < y
    · rw [if_neg (fun w => absurd ((nI_leI (by omega) (by omega)).mp w) (by omega)), if_pos (decide_eq_true q)]
      have hp : ∀ i, i < m → i ≠ k → ∃ y9, y9 < 32768 ∧ upd tb (k + 1) (nI y) i = nI y9 ∧ sr_z y9 (s_swap T k i) := fun i hi hik => by
        unfold s_swap
        rw [upd_if]
        by_cases e1 : i = k + 1
        · rw [if_pos e1, if_pos e1]; exact ⟨y, hy, rfl, hT⟩
        · rw [if_neg e1, if_neg e1, if_neg hik]; exact h i hi e1
      exact sv_bub hz k _ _ (by omega) hp (by unfold s_swap; rw [if_neg (by omega), if_pos rfl]; exact hr) (fun _ _ _ => trivial) (fun i hi => hp i (by omega) (by omega)) j hj
    · rw [if_pos ((nI_leI (by omega) (by omega)).mpr (by omega)), if_neg (by rw [decide_eq_false q]; decide), upd_if]
      by_cases e : j = k + 1
      · subst e; rw [if_pos rfl]; exact ⟨z, hz, rfl, hr⟩
      · rw [if_neg e]; exact h j hj e
theorem sv_put {t : Nat} {T : Nat → Nat → Int32} {tb : Nat → Int32} (h : sv_T t T tb) {a b c : Nat} (ha : a < 32) (hb : b < 32) (hc : c < 32) : sv_T (t + 1) (s_put t T (s_three (nI a) (nI b) (nI c))) (r_put t tb (nI a) (nI b) (nI c)) := by
  unfold r_put s_put
  rw [r_code_nI ha hb hc]
  have hp : ∀ i, i < t + 1 → i ≠ t → ∃ y, y < 32768 ∧ tb i = nI y ∧ sr_z y (s_more T t (s_three (nI a) (nI b) (nI c)) i) := fun i hi hne => by
    unfold s_more; rw [if_neg hne]; exact h i (by omega)
  exact fun j hj => sv_bub (sc_lt ha hb hc) t _ _ (by omega) hp (by unfold s_more; rw [if_pos rfl]; exact sr_three ha hb hc) (fun _ _ _ => trivial) (fun i hi => hp i (by omega) (by omega)) j hj
section SV
variable {t k : Nat} {T : Nat → Nat → Int32} {tb : Nat → Int32}
theorem sv_corner (h : sv_T t T tb) (ht : t < 2 ^ 31) (hk : k < t) : r_corner tb (nI k) 0 = T k 0 ∧ r_corner tb (nI k) 1 = T k 1 ∧ r_corner tb (nI k) 2 = T k 2 := by
  obtain ⟨z, hz, e, q0, q1, q2⟩ := h k hk
  obtain ⟨c0, c1, c2⟩ := r_corner_nI (by omega) e hz
  exact ⟨c0.trans q0.symm, c1.trans q1.symm, c2.trans q2.symm⟩
theorem sv_has (h : sv_T t T tb) (ht : t < 2 ^ 31) (hk : k < t) (c : Int32) : s_has (T k) c = r_has tb (nI k) c := by
  obtain ⟨c0, c1, c2⟩ := sv_corner h ht hk
  unfold s_has r_has
  rw [c0, c1, c2]
theorem sv_far (h : sv_T t T tb) (ht : t < 2 ^ 31) (hk : k < t) (a b : Int32) : r_far tb (nI k) a b = if s_mt (T k) a b = true then s_its (T k) a b else (-1) := by
  obtain ⟨c0, c1, c2⟩ := sv_corner h ht hk
  unfold r_far s_mt s_its
  rw [c0, c1, c2, ← sv_has h ht hk a, ← sv_has h ht hk b]
  by_cases q : a = b
  · rw [if_pos q, if_pos q, if_neg (by decide)]
  · rw [if_neg q, if_neg q]
    by_cases q2 : s_has (T k) a = true
    · rw [if_pos q2, if_pos q2]
    · rw [if_neg q2, if_neg q2, if_neg (by decide)]
end SV
