/-! the list of the triangles' codes -/
def tr_S (L : Nat → Nat → Option Nat) (z : Nat) : Prop := ∃ a b c, L a b = some c ∧ z = sc a b c
theorem tr_S_face {n : Nat} {P : Nat → g_P} {L : Nat → Nat → Option Nat} (h : tr_Tri n P L) (hn : n ≤ 17) {a b c x y z : Nat} (e : L a b = some c) (f : L x y = some z) (s : sc a b c = sc x y z) : tr_rot a b c x y z := by
  obtain ⟨h1, h2, h3, h4, -⟩ := h a b c e
  obtain ⟨k1, k2, k3, k4, -⟩ := h x y z f
  rcases sc_inj (by omega) (by omega) (by omega) (by omega) (by omega) (by omega) s with ⟨rfl, rfl, rfl⟩ | ⟨rfl, rfl, rfl⟩ | ⟨rfl, rfl, rfl⟩ | ⟨rfl, rfl, rfl⟩ | ⟨rfl, rfl, rfl⟩ | ⟨rfl, rfl, rfl⟩
  · exact Or.inl ⟨rfl, rfl, rfl⟩
  · exact Or.inr (Or.inl ⟨rfl, rfl, rfl⟩)
  · exact Or.inr (Or.inr ⟨rfl, rfl, rfl⟩)
  · have := gO_swap (P x) (P y) (P z); omega
  · have := gO_swap2 (P x) (P y) (P z); omega
  · have := gO_swap3 (P x) (P y) (P z); omega
abbrev ti_T (t : Nat) (f : Nat → Nat) (tb : Nat → Int32) : Prop := ∀ k, k < t → tb k = nI (f k)
theorem nI_ceq {a b : Nat} (ha : a < 32) (hb : b < 32) : nI a = nI b ↔ a = b := nI_eq (by omega) (by omega)
theorem r_trip {n : Nat} {P : Nat → g_P} {L : Nat → Nat → Option Nat} (h : tr_Tri n P L) (hn : n ≤ 17) {t : Nat} {f : Nat → Nat} {tb : Nat → Int32} (ht : t < 2 ^ 31) (he : en_ (tr_S L) t f) (hT : ti_T t f tb) {k : Nat} (hk : k < t) : ∃ x y z, L x y = some z ∧ f k = sc x y z ∧ (∀ c, c < 32 → (r_has tb (nI k) (nI c) = true ↔ (c = x ∨ c = y ∨ c = z))) ∧ r_corner tb (nI k) 0 + r_corner tb (nI k) 1 + r_corner tb (nI k) 2 = nI (x + y + z) := by
  obtain ⟨x, y, z, e, s⟩ := he.2.1 k hk
  obtain ⟨h1, h2, h3, h4, -⟩ := h x y z e
  have hz := sc_lt (a := x) (b := y) (c := z) (by omega) (by omega) (by omega)
  obtain ⟨c0, c1, c2⟩ := r_corner_nI (tb := tb) (k := k) (z := sc x y z) (by omega) (by rw [hT k hk, s]) hz
  obtain ⟨d0, d1, d2⟩ := sc_d (a := x) (b := y) (c := z) (by omega) (by omega) (by omega)
  rw [d0] at c0
  rw [d1] at c1
  rw [d2] at c2
  refine ⟨x, y, z, e, s, fun c hc => ?_, ?_⟩
  · unfold r_has
    rw [c0, c1, c2]
    have q0 := nI_ceq (a := min x (min y z)) (b := c) (by omega) hc
    have q1 := nI_ceq (a := x + y + z - min x (min y z) - max x (max y z)) (b := c) (by omega) hc
    have q2 := nI_ceq (a := max x (max y z)) (b := c) (by omega) hc
    by_cases g0 : min x (min y z) = c
    · rw [if_pos (q0.mpr g0)]
      refine ⟨fun _ => by omega, fun _ => rfl⟩
    · rw [if_neg (fun w => g0 (q0.mp w))]
      by_cases g1 : x + y + z - min x (min y z) - max x (max y z) = c
      · rw [if_pos (q1.mpr g1)]
        refine ⟨fun _ => by omega, fun _ => rfl⟩
      · rw [if_neg (fun w => g1 (q1.mp w))]
        by_cases g2 : max x (max y z) = c
        · rw [if_pos (q2.mpr g2)]
          refine ⟨fun _ => by omega, fun _ => rfl⟩
        · rw [if_neg (fun w => g2 (q2.mp w))]
          exact ⟨fun w => absurd w (by decide), fun w => by omega⟩
  · rw [c0, c1, c2, nI_add, nI_add]; congr 1; omega
theorem nI_m19w {a : Nat} (ha : a < 2 ^ 31) : ¬ nI a = -1 := by
  intro e
  have := congrArg Int32.toInt e
  rw [nI_toInt ha] at this
  have e1 : (-1 : Int32).toInt = -1 := rfl
  omega
/-- which triangles have an edge, and what is far of it -/
theorem r_farE {n : Nat} {P : Nat → g_P} {L : Nat → Nat → Option Nat} (h : tr_Tri n P L) (hn : n ≤ 17) {t : Nat} {f : Nat → Nat} {tb : Nat → Int32} (ht : t < 2 ^ 31) (he : en_ (tr_S L) t f) (hT : ti_T t f tb) {a b : Nat} (ha : a < n) (hb : b < n) {k : Nat} (hk : k < t) : (r_far tb (nI k) (nI a) (nI b) = -1 ∧ (∀ c, L a b = some c → f k ≠ sc a b c) ∧ (∀ d, L b a = some d → f k ≠ sc a b d)) ∨ ∃ c, (L a b = some c ∨ L b a = some c) ∧ f k = sc a b c ∧ r_far tb (nI k) (nI a) (nI b) = nI c ∧ c < n := by
  obtain ⟨x, y, z, e, s, hh, hs⟩ := r_trip h hn ht he hT hk
  obtain ⟨h1, h2, h3, h4, -⟩ := h x y z e
  obtain ⟨m1, m2, m3⟩ := tr_ne h4
  unfold r_far
  by_cases hab : a = b
  · subst hab
    rw [if_pos rfl]
    refine Or.inl ⟨rfl, fun c hc => ?_, fun c hc => ?_⟩
    · obtain ⟨-, -, -, h5, -⟩ := h _ _ _ hc
      exact absurd rfl (tr_ne h5).1
    · obtain ⟨-, -, -, h5, -⟩ := h _ _ _ hc
      exact absurd rfl (tr_ne h5).1
  · rw [if_neg (fun q => hab ((nI_ceq (by omega) (by omega)).mp q))]
    have ia := hh a (by omega)
    have ib := hh b (by omega)
    by_cases pa : a = x ∨ a = y ∨ a = z
    · rw [if_pos (ia.mpr pa)]
      by_cases pb : b = x ∨ b = y ∨ b = z
      · rw [if_pos (ib.mpr pb), hs, pk_sub (by omega), pk_sub (by omega)]
        right
        have r := h.rot e
        have r2 := h.rot2 e
        rcases pa with rfl | rfl | rfl <;> rcases pb with rfl | rfl | rfl <;> try (exact absurd rfl hab)
        · exact ⟨z, Or.inl e, s, by congr 1; omega, h3⟩
        · exact ⟨y, Or.inr r2, by rw [s, ← sc_rot, sc_swap, sc_rot, sc_rot], by congr 1; omega, h2⟩
        · exact ⟨z, Or.inr e, by rw [s, sc_swap], by congr 1; omega, h3⟩
        · exact ⟨x, Or.inl r, by rw [s, ← sc_rot], by congr 1; omega, h1⟩
        · exact ⟨y, Or.inl r2, by rw [s, ← sc_rot, ← sc_rot], by congr 1; omega, h2⟩
        · exact ⟨x, Or.inr r, by rw [s, ← sc_rot, sc_swap], by congr 1; omega, h1⟩
      · rw [if_neg (fun q => pb (ib.mp q))]
        refine Or.inl ⟨rfl, fun c hc q => ?_, fun c hc q => ?_⟩
        · have := tr_S_face h hn hc e (by rw [← q, s])
          unfold tr_rot at this; omega
        · have := tr_S_face h hn hc e (by rw [sc_swap, ← q, s])
          unfold tr_rot at this; omega
    · rw [if_neg (fun q => pa (ia.mp q))]
      refine Or.inl ⟨rfl, fun c hc q => ?_, fun c hc q => ?_⟩
      · have := tr_S_face h hn hc e (by rw [← q, s])
        unfold tr_rot at this; omega
      · have := tr_S_face h hn hc e (by rw [sc_swap, ← q, s])
        unfold tr_rot at this; omega

