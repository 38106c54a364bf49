/-! room for the rows at a new cairn -/
theorem rg_ct_k2 {p : Nat → Bool} {k k' : Nat} : ∀ m, (∀ j, j < m → p j = true → j = k ∨ j = k') → rg_ct p m ≤ (if k < m then 1 else 0) + (if k' < m then 1 else 0)
  | 0, _ => Nat.zero_le _
  | m + 1, h => by
    have i := rg_ct_k2 (p := p) (k := k) (k' := k') m (fun j hj => h j (by omega))
    cases e : p m with
    | false =>
      rw [rg_ct_f e]
      by_cases a1 : k < m <;> by_cases a2 : k' < m <;> by_cases a3 : k < m + 1 <;> by_cases a4 : k' < m + 1 <;> simp only [a1, a2, a3, a4, if_true, if_false] at i ⊢ <;> omega
    | true =>
      have w := h m (by omega) e
      rw [rg_ct_t e]
      by_cases a1 : k < m <;> by_cases a2 : k' < m <;> by_cases a3 : k < m + 1 <;> by_cases a4 : k' < m + 1 <;> simp only [a1, a2, a3, a4, if_true, if_false] at i ⊢ <;> omega
theorem s_cutS_le {nS : Nat} {S : Nat → Nat → Int32} {a b c : Int32} : (s_cutS nS S a b c).1 ≤ nS + 1 := by
  unfold s_cutS
  rcases Nat.eq_zero_or_pos nS with z | z
  · subst z
    show (0 : Nat) ≤ _
    exact Nat.zero_le _
  · split
    · exact Nat.le_succ _
    · show nS - 1 + 1 + 1 ≤ nS + 1
      omega
theorem s_bK_le {r : Nat → Int32} {on its : Int32} {st : s_St} : ∀ k, (s_bK r on its st k).1 ≤ st.1 + k ∧ (s_bK r on its st k).2.2.1 ≤ st.2.2.1 + k
  | 0 => ⟨Nat.le_refl _, Nat.le_refl _⟩
  | k + 1 => by
    obtain ⟨h1, h2⟩ := s_bK_le (r := r) (on := on) (its := its) (st := st) k
    unfold s_bK
    split
    · have := s_cutS_le (nS := (s_bK r on its st k).2.2.1) (S := (s_bK r on its st k).2.2.2) (a := r k) (b := r ((k + 1) % 3)) (c := its)
      exact ⟨by show (s_bK r on its st k).1 ≤ _; omega, by show (s_cutS _ _ _ _ _).1 ≤ _; omega⟩
    · exact ⟨by show (s_bK r on its st k).1 + 1 ≤ _; omega, by show (s_bK r on its st k).2.2.1 ≤ _; omega⟩
theorem s_bO_le {C : Nat → Nat → Int32} {x y its : Int32} {T0 : Nat → Nat → Int32} {st : s_St} : ∀ i, (s_bO C x y its T0 st i).1 ≤ st.1 + 3 * rg_ct (fun j => decide (0 ≤ s_side C (T0 j) x y)) i ∧ (s_bO C x y its T0 st i).2.2.1 ≤ st.2.2.1 + 3 * rg_ct (fun j => decide (0 ≤ s_side C (T0 j) x y)) i
  | 0 => ⟨Nat.le_add_right _ _, Nat.le_add_right _ _⟩
  | i + 1 => by
    obtain ⟨h1, h2⟩ := s_bO_le (C := C) (x := x) (y := y) (its := its) (T0 := T0) (st := st) i
    by_cases q : 0 ≤ s_side C (T0 i) x y
    · rw [bO_step q, rg_ct_t (p := fun j => decide (0 ≤ s_side C (T0 j) x y)) (k := i) (decide_eq_true q)]
      obtain ⟨k1, k2⟩ := s_bK_le (r := T0 i) (on := s_side C (T0 i) x y) (its := its) (st := s_b1 (T0 i) (s_bO C x y its T0 st i)) 3
      have k3 : (s_b1 (T0 i) (s_bO C x y its T0 st i)).1 ≤ (s_bO C x y its T0 st i).1 := s_to_le
      have k4 : (s_b1 (T0 i) (s_bO C x y its T0 st i)).2.2.1 = (s_bO C x y its T0 st i).2.2.1 := rfl
      exact ⟨by omega, by omega⟩
    · rw [show s_bO C x y its T0 st (i + 1) = s_bO C x y its T0 st i from if_neg q, rg_ct_f (p := fun j => decide (0 ≤ s_side C (T0 j) x y)) (k := i) (decide_eq_false q)]
      exact ⟨h1, h2⟩
section OV
variable {n t : Nat} {P : Nat → g_P} {L L' : Nat → Nat → Option Nat} {St St' : Nat → Nat → Bool} {f : Nat → Nat} {T C C0 S : Nat → Nat → Int32} {nS t' : Nat} {z : Int32}
theorem two_rows (h : ti_A n t P L St f) (hn : n ≤ 16) (hP : tr_Pos (n + 1) P) (hC : sv_C (n + 1) P C) (hE : sv_E (tr_S L) t T) (how : ti_how n t P L L' St St' t') : ∃ k k', ∀ j, j < t → 0 ≤ bSide n P C T j → j = k ∨ j = k' := by
  rcases how with ⟨a, b, c, e, z1, z2, z3, -⟩ | ⟨a, b, c, d, e1, e2, z1, z2, z3, -⟩ | ⟨a, b, c, e1, e2, z1, z2, z3, -⟩
  · obtain ⟨k, hk, fk⟩ := at_k h ⟨a, b, c, e, rfl⟩
    exact ⟨k, k, fun j hj q => Or.inl (h.en.inj hj hk (((has_in h hn hP hC hE e z1 z2 z3 hj).mp q).trans fk.symm))⟩
  · obtain ⟨k, hk, fk⟩ := at_k h ⟨a, b, c, e1, rfl⟩
    obtain ⟨k', hk', fk'⟩ := at_k h ⟨b, a, d, e2, rfl⟩
    refine ⟨k, k', fun j hj q => ?_⟩
    rcases (has_on h hn hP hC hE e1 z1 z2 z3 hj).mp q with w | ⟨d', w, w2⟩
    · exact Or.inl (h.en.inj hj hk (w.trans fk.symm))
    · rw [e2] at w; cases w
      exact Or.inr (h.en.inj hj hk' (w2.trans ((sc_swap _ _ _).symm.trans fk'.symm)))
  · obtain ⟨k, hk, fk⟩ := at_k h ⟨a, b, c, e1, rfl⟩
    refine ⟨k, k, fun j hj q => ?_⟩
    rcases (has_on h hn hP hC hE e1 z1 z2 z3 hj).mp q with w | ⟨d', w, w2⟩
    · exact Or.inl (h.en.inj hj hk (w.trans fk.symm))
    · rw [e2] at w; cases w
theorem sv_okV (h : ti_A n t P L St f) (hn : n ≤ 16) (hP : tr_Pos (n + 1) P) (hC : sv_C (n + 1) P (s_more C0 n (s3 (iN (P n).1) (iN (P n).2) z))) (hE : sv_E (tr_S L) t T) (how : ti_how n t P L L' St St' t') (ht : t ≤ 28) (hS : nS ≤ 40) : s_okV n C0 t T nS S (iN (P n).1) (iN (P n).2) z 60 := by
  obtain ⟨k0, k1, hk⟩ := two_rows h hn hP hC hE how
  intro i k hi hk3
  obtain ⟨b1, b2⟩ := s_bO_le (C := s_more C0 n (s3 (iN (P n).1) (iN (P n).2) z)) (x := iN (P n).1) (y := iN (P n).2) (its := nI n) (T0 := T) (st := (t, T, nS, S)) i
  have c2 := rg_ct_k2 (p := fun j => decide (0 ≤ s_side (s_more C0 n (s3 (iN (P n).1) (iN (P n).2) z)) (T j) (iN (P n).1) (iN (P n).2))) (k := k0) (k' := k1) i (fun j hj q => hk j (by omega) (of_decide_eq_true q))
  have c3 : (if k0 < i then 1 else 0) + (if k1 < i then 1 else 0) ≤ 2 := by
    split <;> split <;> omega
  generalize s_bO (s_more C0 n (s3 (iN (P n).1) (iN (P n).2) z)) (iN (P n).1) (iN (P n).2) (nI n) T (t, T, nS, S) i = st at *
  generalize rg_ct (fun j => decide (0 ≤ s_side (s_more C0 n (s3 (iN (P n).1) (iN (P n).2) z)) (T j) (iN (P n).1) (iN (P n).2))) i = cc at *
  obtain ⟨d1, d2⟩ := s_bK_le (r := T i) (on := s_side (s_more C0 n (s3 (iN (P n).1) (iN (P n).2) z)) (T i) (iN (P n).1) (iN (P n).2)) (its := nI n) (st := s_b1 (T i) st) k
  have d3 : (s_b1 (T i) st).1 ≤ st.1 := s_to_le
  have d4 : (s_b1 (T i) st).2.2.1 = st.2.2.1 := rfl
  have b1' : st.1 ≤ t + 3 * cc := b1
  have b2' : st.2.2.1 ≤ nS + 3 * cc := b2
  exact ⟨by omega, by omega, by omega⟩
end OV
