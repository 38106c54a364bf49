/-! how many triangles have an edge, and what is far of it -/
theorem rg_ct_seg {p : Nat → Bool} {s : Nat} : ∀ t, s ≤ t → (∀ j, s ≤ j → j < t → p j = false) → rg_ct p t = rg_ct p s
  | 0, h, _ => by have : s = 0 := by omega
                  subst this; rfl
  | t + 1, h, hp => by
    by_cases e : s = t + 1
    · rw [e]
    · rw [rg_ct_f (hp t (by omega) (by omega))]
      exact rg_ct_seg t (by omega) (fun j a b => hp j a (by omega))
theorem rg_ct_one {p : Nat → Bool} {t k : Nat} (hk : k < t) (h : ∀ j, j < t → (p j = true ↔ j = k)) : rg_ct p t = 1 := by
  have hf : ∀ j, j < t → j ≠ k → p j = false := fun j hj n => by
    cases e : p j with
    | false => rfl
    | true => exact absurd ((h j hj).mp e) n
  rw [rg_ct_seg (s := k + 1) t (by omega) (fun j a b => hf j b (by omega)), rg_ct_t ((h k hk).mpr rfl), rg_ct_0 (fun j hj => hf j (by omega) (by omega))]
theorem rg_ct_two {p : Nat → Bool} {t k k2 : Nat} (hk : k < k2) (hk2 : k2 < t) (h : ∀ j, j < t → (p j = true ↔ j = k ∨ j = k2)) : rg_ct p t = 2 := by
  have hf : ∀ j, j < t → j ≠ k → j ≠ k2 → p j = false := fun j hj n n2 => by
    cases e : p j with
    | false => rfl
    | true => exact absurd ((h j hj).mp e) (by omega)
  rw [rg_ct_seg (s := k2 + 1) t (by omega) (fun j a b => hf j b (by omega) (by omega)), rg_ct_t ((h k2 hk2).mpr (Or.inr rfl)), rg_ct_seg (s := k + 1) k2 (by omega) (fun j a b => hf j (by omega) (by omega) (by omega)), rg_ct_t ((h k (by omega)).mpr (Or.inl rfl)), rg_ct_0 (fun j hj => hf j (by omega) (by omega) (by omega))]
theorem r_fr_seg {tb : Nat → Int32} {a b z : Int32} {s : Nat} : ∀ t, s ≤ t → (∀ j, s ≤ j → j < t → r_far tb (nI j) a b = -1) → r_fr tb a b z t = r_fr tb a b z s
  | 0, h, _ => by have : s = 0 := by omega
                  subst this; rfl
  | t + 1, h, hp => by
    by_cases e : s = t + 1
    · rw [e]
    · show (if r_far tb (nI t) a b = (-1) then r_fr tb a b z t else _) = _
      rw [if_pos (hp t (by omega) (by omega))]
      exact r_fr_seg t (by omega) (fun j a b => hp j a (by omega))
theorem r_fr_last {tb : Nat → Int32} {a b : Int32} {k : Nat} (h : ¬ r_far tb (nI k) a b = -1) : r_fr tb a b 0 (k + 1) = r_far tb (nI k) a b := by
  show (if r_far tb (nI k) a b = (-1) then _ else if (0 : Int32) = 0 then _ else _) = _
  rw [if_neg h, if_pos rfl]
theorem r_fr_fst {tb : Nat → Int32} {a b : Int32} {k : Nat} (h : ¬ r_far tb (nI k) a b = -1) (h0 : r_fr tb a b 1 k = -1) : r_fr tb a b 1 (k + 1) = r_far tb (nI k) a b := by
  show (if r_far tb (nI k) a b = (-1) then _ else if (1 : Int32) = 0 then _ else if r_fr tb a b 1 k = (-1) then _ else _) = _
  rw [if_neg h, if_neg (by decide), if_pos h0]
theorem r_fr_fst2 {tb : Nat → Int32} {a b : Int32} {k : Nat} (h0 : ¬ r_fr tb a b 1 k = -1) : r_fr tb a b 1 (k + 1) = r_fr tb a b 1 k := by
  show (if r_far tb (nI k) a b = (-1) then _ else if (1 : Int32) = 0 then _ else if r_fr tb a b 1 k = (-1) then _ else _) = _
  by_cases h : r_far tb (nI k) a b = -1
  · rw [if_pos h]
  · rw [if_neg h, if_neg (by decide), if_neg h0]
/-- what the tie says of the lists -/
abbrev ti_R (n : Nat) (P : Nat → g_P) (L : Nat → Nat → Option Nat) (t : Nat) (f : Nat → Nat) (tb : Nat → Int32) : Prop := tr_Tri n P L ∧ n ≤ 17 ∧ t < 2 ^ 31 ∧ en_ (tr_S L) t f ∧ ti_T t f tb
section R
variable {n : Nat} {P : Nat → g_P} {L : Nat → Nat → Option Nat} {t : Nat} {f : Nat → Nat} {tb : Nat → Int32}
theorem ti_R.tri (h : ti_R n P L t f tb) : tr_Tri n P L := h.1
theorem ti_R.hn (h : ti_R n P L t f tb) : n ≤ 17 := h.2.1
theorem ti_R.ht (h : ti_R n P L t f tb) : t < 2 ^ 31 := h.2.2.1
theorem ti_R.en (h : ti_R n P L t f tb) : en_ (tr_S L) t f := h.2.2.2.1
theorem ti_R.tbl (h : ti_R n P L t f tb) : ti_T t f tb := h.2.2.2.2
theorem r_pS_iff {tb : Nat → Int32} {a b : Int32} {k : Nat} : r_pS tb a b k = true ↔ ¬ r_far tb (nI k) a b = -1 := by
  unfold r_pS
  by_cases h : r_far tb (nI k) a b = -1
  · rw [if_pos h]; exact ⟨fun q => absurd q (by decide), fun q => absurd h q⟩
  · rw [if_neg h]; exact ⟨fun _ => h, fun _ => rfl⟩
theorem ti_R.face (h : ti_R n P L t f tb) {a b c : Nat} (e : L a b = some c) : ∃ k, k < t ∧ f k = sc a b c := h.en.2.2 _ ⟨a, b, c, e, rfl⟩
theorem sides0 (h : ti_R n P L t f tb) {a b : Nat} (ha : a < n) (hb : b < n) (e1 : L a b = none) (e2 : L b a = none) : r_sides t tb (nI a) (nI b) = nI 0 := by
  unfold r_sides
  rw [rg_ct_0]
  intro j hj
  rcases r_farE h.tri h.hn h.ht h.en h.tbl ha hb hj with ⟨q, -⟩ | ⟨c, q, -⟩
  · unfold r_pS; rw [if_pos q]
  · rw [e1, e2] at q; simp at q
theorem far1 (h : ti_R n P L t f tb) {a b c : Nat} (ha : a < n) (hb : b < n) (e1 : L a b = some c) (e2 : L b a = none) : ∃ k, k < t ∧ r_far tb (nI k) (nI a) (nI b) = nI c ∧ ∀ j, j < t → (¬ r_far tb (nI j) (nI a) (nI b) = -1 ↔ j = k) := by
  obtain ⟨k, hk, hf⟩ := h.face e1
  have hc := (h.tri _ _ _ e1).2.2.1
  have hn := h.hn
  have key : ∀ j, j < t → (¬ r_far tb (nI j) (nI a) (nI b) = -1 ↔ j = k) := by
    intro j hj
    rcases r_farE h.tri h.hn h.ht h.en h.tbl ha hb hj with ⟨q, q2, -⟩ | ⟨c', q, q2, q3, q4⟩
    · refine ⟨fun z => absurd q z, fun z => ?_⟩
      subst z
      exact absurd hf (q2 _ e1)
    · rw [e1, e2] at q
      have : c' = c := by simp at q; omega
      subst this
      refine ⟨fun _ => h.en.inj hj hk (by rw [q2, hf]), fun _ => by rw [q3]; exact nI_m19w (by omega)⟩
  refine ⟨k, hk, ?_, key⟩
  rcases r_farE h.tri h.hn h.ht h.en h.tbl ha hb hk with ⟨q, q2, -⟩ | ⟨c', q, q2, q3, q4⟩
  · exact absurd hf (q2 _ e1)
  · rw [e1, e2] at q
    have : c' = c := by simp at q; omega
    subst this
    exact q3
theorem far2 (h : ti_R n P L t f tb) {a b c d : Nat} (ha : a < n) (hb : b < n) (e1 : L a b = some c) (e2 : L b a = some d) : ∃ k k2, k < t ∧ k2 < t ∧ k ≠ k2 ∧ r_far tb (nI k) (nI a) (nI b) = nI c ∧ r_far tb (nI k2) (nI a) (nI b) = nI d ∧ ∀ j, j < t → (¬ r_far tb (nI j) (nI a) (nI b) = -1 ↔ j = k ∨ j = k2) := by
  obtain ⟨k, hk, hf⟩ := h.face e1
  obtain ⟨k2, hk2, hf2⟩ := h.face e2
  obtain ⟨-, -, hc, g1, -⟩ := h.tri _ _ _ e1
  obtain ⟨-, -, hd, g2, -⟩ := h.tri _ _ _ e2
  have hn := h.hn
  rw [sc_swap] at hf2
  have ncd : c ≠ d := by
    rintro rfl
    have := gO_swap (P a) (P b) (P c)
    omega
  have inj : sc a b c ≠ sc a b d := fun q => by
    have r := sc_inj (by omega) (by omega) (by omega) (by omega) (by omega) (by omega) q
    obtain ⟨n1, n2, n3⟩ := tr_ne g1
    obtain ⟨n4, n5, n6⟩ := tr_ne g2
    omega
  have at1 : ∀ j, j < t → f j = sc a b c → r_far tb (nI j) (nI a) (nI b) = nI c := by
    intro j hj q0
    rcases r_farE h.tri h.hn h.ht h.en h.tbl ha hb hj with ⟨q, q2, -⟩ | ⟨c', q, q2, q3, q4⟩
    · exact absurd q0 (q2 _ e1)
    · have : c' = c := by
        rw [e1, e2] at q
        rcases q with q | q
        · exact (Option.some.inj q).symm
        · have : d = c' := Option.some.inj q
          subst this
          rw [q0] at q2
          exact absurd q2 inj
      subst this
      exact q3
  have at2 : ∀ j, j < t → f j = sc a b d → r_far tb (nI j) (nI a) (nI b) = nI d := by
    intro j hj q0
    rcases r_farE h.tri h.hn h.ht h.en h.tbl ha hb hj with ⟨q, -, q2⟩ | ⟨c', q, q2, q3, q4⟩
    · exact absurd q0 (q2 _ e2)
    · have : c' = d := by
        rw [e1, e2] at q
        rcases q with q | q
        · have : c = c' := Option.some.inj q
          subst this
          rw [q0] at q2
          exact absurd q2.symm inj
        · exact (Option.some.inj q).symm
      subst this
      exact q3
  refine ⟨k, k2, hk, hk2, fun q => inj (by rw [← hf, ← hf2, q]), at1 k hk hf, at2 k2 hk2 hf2, fun j hj => ?_⟩
  rcases r_farE h.tri h.hn h.ht h.en h.tbl ha hb hj with ⟨q, q1, q2⟩ | ⟨c', q, q2, q3, q4⟩
  · refine ⟨fun z => absurd q z, fun z => ?_⟩
    rcases z with rfl | rfl
    · exact absurd hf (q1 _ e1)
    · exact absurd hf2 (q2 _ e2)
  · refine ⟨fun _ => ?_, fun _ => by rw [q3]; exact nI_m19w (by omega)⟩
    rw [e1, e2] at q
    rcases q with q | q
    · have : c = c' := Option.some.inj q
      subst this
      exact Or.inl (h.en.inj hj hk (by rw [q2, hf]))
    · have : d = c' := Option.some.inj q
      subst this
      exact Or.inr (h.en.inj hj hk2 (by rw [q2, hf2]))
theorem r_pS_far {tb : Nat → Int32} {a b : Int32} {j : Nat} {X : Prop} (h : ¬ r_far tb (nI j) a b = -1 ↔ X) : r_pS tb a b j = true ↔ X := r_pS_iff.trans h
theorem far_swap (tb : Nat → Int32) (k a b : Int32) : r_far tb k a b = r_far tb k b a := by
  unfold r_far
  by_cases e : a = b
  · subst e; rfl
  · have e' : ¬ b = a := fun q => e q.symm
    rw [if_neg e, if_neg e']
    by_cases h1 : r_has tb k a = true <;> by_cases h2 : r_has tb k b = true
    · rw [if_pos h1, if_pos h2, if_pos h2, if_pos h1]; grind
    · rw [if_pos h1, if_neg h2, if_neg h2]
    · rw [if_neg h1, if_pos h2, if_neg h1]
    · rw [if_neg h1, if_neg h2]
theorem sides_swap (t : Nat) (tb : Nat → Int32) (a b : Int32) : r_sides t tb a b = r_sides t tb b a := by
  unfold r_sides
  have : r_pS tb a b = r_pS tb b a := by
    funext k; unfold r_pS; rw [far_swap]
  rw [this]
theorem sides1 (h : ti_R n P L t f tb) {a b c : Nat} (ha : a < n) (hb : b < n) (e1 : L a b = some c) (e2 : L b a = none) : r_sides t tb (nI a) (nI b) = nI 1 := by
  obtain ⟨k, hk, -, hj⟩ := far1 h ha hb e1 e2
  unfold r_sides
  rw [rg_ct_one hk (fun j q => r_pS_far (hj j q))]
theorem sides2 (h : ti_R n P L t f tb) {a b c d : Nat} (ha : a < n) (hb : b < n) (e1 : L a b = some c) (e2 : L b a = some d) : r_sides t tb (nI a) (nI b) = nI 2 := by
  obtain ⟨k, k2, hk, hk2, hne, -, -, hj⟩ := far2 h ha hb e1 e2
  unfold r_sides
  rcases Nat.lt_or_ge k k2 with q | q
  · rw [rg_ct_two q hk2 (fun j z => r_pS_far (hj j z))]
  · rw [rg_ct_two (k := k2) (k2 := k) (by omega) hk (fun j z => (r_pS_far (hj j z)).trans (Or.comm))]
theorem fr2 (h : ti_R n P L t f tb) {a b c d : Nat} (ha : a < n) (hb : b < n) (e1 : L a b = some c) (e2 : L b a = some d) : (r_fr tb (nI a) (nI b) 1 t = nI c ∧ r_fr tb (nI a) (nI b) 0 t = nI d) ∨ (r_fr tb (nI a) (nI b) 1 t = nI d ∧ r_fr tb (nI a) (nI b) 0 t = nI c) := by
  obtain ⟨k, k2, hk, hk2, hne, f1, f2, hj⟩ := far2 h ha hb e1 e2
  have hc := (h.tri _ _ _ e1).2.2.1
  have hd := (h.tri _ _ _ e2).2.2.1
  have hn := h.hn
  have gen : ∀ k k2 u v, k < k2 → k2 < t → u < 17 → v < 17 → r_far tb (nI k) (nI a) (nI b) = nI u → r_far tb (nI k2) (nI a) (nI b) = nI v → (∀ j, j < t → (¬ r_far tb (nI j) (nI a) (nI b) = -1 ↔ j = k ∨ j = k2)) → r_fr tb (nI a) (nI b) 1 t = nI u ∧ r_fr tb (nI a) (nI b) 0 t = nI v := by
    intro k k2 u v q hk2 hu hv f1 f2 hj
    have z : ∀ j, j < t → j ≠ k → j ≠ k2 → r_far tb (nI j) (nI a) (nI b) = -1 := by
      intro j hj' n1 n2
      by_cases w : r_far tb (nI j) (nI a) (nI b) = -1
      · exact w
      · have := (hj j hj').mp w; omega
    have nk : ¬ r_far tb (nI k) (nI a) (nI b) = -1 := (hj k (by omega)).mpr (Or.inl rfl)
    have nk2 : ¬ r_far tb (nI k2) (nI a) (nI b) = -1 := (hj k2 hk2).mpr (Or.inr rfl)
    constructor
    · have s1 : r_fr tb (nI a) (nI b) 1 k = -1 := r_fr_seg (s := 0) k (Nat.zero_le k) (fun j _ w => z j (by omega) (by omega) (by omega))
      have s2 : r_fr tb (nI a) (nI b) 1 k2 = nI u := by
        rw [r_fr_seg (s := k + 1) k2 (by omega) (fun j w1 w2 => z j (by omega) (by omega) (by omega)), r_fr_fst nk s1, f1]
      rw [r_fr_seg (s := k2 + 1) t (by omega) (fun j w1 w2 => z j (by omega) (by omega) (by omega)), r_fr_fst2 (by rw [s2]; exact nI_m19w (by omega)), s2]
    · rw [r_fr_seg (s := k2 + 1) t (by omega) (fun j w1 w2 => z j (by omega) (by omega) (by omega)), r_fr_last nk2, f2]
  rcases Nat.lt_or_ge k k2 with q | q
  · exact Or.inl (gen k k2 c d q hk2 (by omega) (by omega) f1 f2 hj)
  · exact Or.inr (gen k2 k d c (by omega) hk (by omega) (by omega) f2 f1 (fun j z => (hj j z).trans Or.comm))
end R

