/-! settling, in the class and in the law's moor at once -/
noncomputable def tr_low2 (P : Nat → g_P) (L : Nat → Nat → Option Nat) (m : Nat) : Nat := rg_ct (fun e => @decide (e / 17 < e % 17 ∧ e % 17 < m ∧ tr_Lo P L (e / 17) (e % 17)) (Classical.propDecidable _)) 289
theorem tr_low2_lt {n m : Nat} {P : Nat → g_P} {L : Nat → Nat → Option Nat} {a b c d : Nat} (hn : n ≤ m) (hm : m ≤ 17) (h : tr_Ok n P L) (q : tr_Un1 P L a b c d) (hab : a < b) : tr_low2 P L m < tr_low2 P (tr_flip L a b c d) m := by
  obtain ⟨k1, k2⟩ := tr_Lo.flip h (h.quad q) q.2.2
  have k3 := tr_Lo.not h q.1 q.2.1
  obtain ⟨ha, hb, -⟩ := h.tri a b c q.1
  have e1 : (a * 17 + b) / 17 = a := by omega
  have e2 : (a * 17 + b) % 17 = b := by omega
  refine tr_ct_lt (e := a * 17 + b) (fun e he => ?_) ?_ ?_ 289 (by omega)
  · simp only [decide_eq_true_eq] at he ⊢
    exact ⟨he.1, he.2.1, k1 _ _ he.2.2⟩
  · simp only [decide_eq_false_iff_not]
    rw [e1, e2]; exact fun w => k3 w.2.2
  · simp only [decide_eq_true_eq]
    rw [e1, e2]; exact ⟨hab, by omega, k2⟩
theorem tr_low2_le (P : Nat → g_P) (L : Nat → Nat → Option Nat) (m : Nat) : tr_low2 P L m ≤ rg_ct (fun e => decide (e / 17 < e % 17 ∧ e % 17 < m)) 289 := by
  refine tr_ct_mono (fun e he => ?_) 289
  simp only [decide_eq_true_eq] at he ⊢
  exact ⟨he.1, he.2.1⟩
theorem low13 : rg_ct (fun e => decide (e / 17 < e % 17 ∧ e % 17 < 13)) 289 = 78 := by decide +kernel
theorem low15 : rg_ct (fun e => decide (e / 17 < e % 17 ∧ e % 17 < 15)) 289 = 105 := by decide +kernel
section SK
variable {m n t u : Nat} {P : Nat → g_P} {L : Nat → Nat → Option Nat} {St : Nat → Nat → Bool} {f : Nat → Nat} {xs ys lf sy co : Nat → Int32} {nS : Nat} {T C S : Nat → Nat → Int32}
theorem s_pFU_eq (h : ti_A n t P L St f) (hE : sv_E (tr_S L) t T) (hC : sv_C n P C) (hS : ∀ a b, a < n → b < n → s_stay nS S (nI a) (nI b) = St a b) {i j : Nat} (hi : i < n) (hj : j < n) : s_pFU C t T nS S i j = fU P L St i j := by
  have hV := (hE.rows h.en).1
  unfold s_pFU fU
  rw [hS i j hi hj, sv_unf h (fun _ _ => rfl) hV hC hi hj]
  cases uB P L i j <;> cases St i j <;> rfl
theorem s_fu_eq (h : ti_A n t P L St f) (hE : sv_E (tr_S L) t T) (hC : sv_C n P C) (hS : ∀ a b, a < n → b < n → s_stay nS S (nI a) (nI b) = St a b) : s_fu n C t T nS S = fF P L St n := by
  have := fF_of (p := s_pFU C t T nS S) (q := s_pFUa n C t T nS S) (n := n) (fun i j hi hj => s_pFU_eq h hE hC hS hi hj) (fun i => rfl)
  rw [← this]
  unfold s_fu
  cases rg_fst (s_pFUa n C t T nS S) n with
  | none => rfl
  | some a =>
    show (match rg_fst (s_pFU C t T nS S a) n with | none => none | some b => some (a, b)) = (match rg_fst (s_pFU C t T nS S a) n with | some b => some (a, b) | none => none)
    cases rg_fst (s_pFU C t T nS S a) n <;> rfl
/-- what both have behind k flips of settling -/
abbrev sv_K (m n u : Nat) (P : Nat → g_P) (St : Nat → Nat → Bool) (xs ys sy : Nat → Int32) (mm : Nat × (Nat → Int32) × (Nat → Int32)) (sT : Nat × (Nat → Nat → Int32)) (k : Nat) (L : Nat → Nat → Option Nat) (f : Nat → Nat) : Prop := ti_A n (u + 1 + 1) P L St f ∧ mm.1 = u + 1 + 1 ∧ ti_m n (u + 1 + 1) P L St f xs ys mm.2.1 sy mm.2.2 ∧ sT.1 = u + 1 + 1 ∧ sv_E (tr_S L) (u + 1 + 1) sT.2 ∧ k ≤ tr_low2 P L m ∧ eu_ n (u + 1 + 1) L
theorem sv_flip_ti {a b c d : Nat} (h : ti_A n (u + 1 + 1) P L St f) (q : tr_Quad n P L a b c d) (hst : St a b = false) : ∃ f', ti_A n (u + 1 + 1) P (tr_flip L a b c d) St f' := by
  obtain ⟨-, -, f', a', -⟩ := flip_tie (tb := fun k => nI (f k)) (sg := fun a b => bI (St a b)) h (fun _ _ => rfl) (fun _ _ _ _ => rfl) q hst (kc := nI c) (kd := nI d) (Or.inl ⟨rfl, rfl⟩)
  exact ⟨f', a'⟩
theorem sv_set1 (hn : n ≤ m) (hm : m ≤ 17) (hC : sv_C n P C) (hS : ∀ a b, a < n → b < n → s_stay nS S (nI a) (nI b) = St a b) {mm : Nat × (Nat → Int32) × (Nat → Int32)} {sT : Nat × (Nat → Nat → Int32)} {k : Nat} (h : sv_K m n u P St xs ys sy mm sT k L f) : (fF P L St n = none → m_fu n xs ys mm.2.1 sy = none ∧ s_fu n C sT.1 sT.2 nS S = none) ∧ ∀ i j, fF P L St n = some (i, j) → m_fu n xs ys mm.2.1 sy = some (i, j) ∧ s_fu n C sT.1 sT.2 nS S = some (i, j) ∧ ∃ L' f', sv_K m n u P St xs ys sy (m_fuSt n xs ys sy mm) (s_flip sT.1 sT.2 (nI i) (nI j)) (k + 1) L' f' := by
  obtain ⟨h1, h2, h3, h4, h5, h6, h7⟩ := h
  obtain ⟨m1, m2, m3⟩ := mm
  obtain ⟨s1, s2⟩ := sT
  replace h4 : s1 = u + 1 + 1 := h4
  subst h4
  replace h5 : sv_E (tr_S L) (u + 1 + 1) s2 := h5
  have em := m_fu_eq h1 h3.1 h3.2.1 h3.2.2.1
  have es := s_fu_eq h1 h5 hC hS
  refine ⟨fun e => ⟨em.trans e, es.trans e⟩, fun i j e => ⟨em.trans e, es.trans e, ?_⟩⟩
  obtain ⟨hi, hj, hU⟩ := fF_some e
  have hij : i < j := by
    unfold fU at hU
    rcases Nat.lt_or_ge i j with z | z
    · exact z
    · rw [if_pos z] at hU; cases hU
  obtain ⟨c, d, hv, hst⟩ := fU_of hU
  have hq := h1.ok.quad hv
  obtain ⟨f', a'⟩ := sv_flip_ti h1 hq hst
  obtain ⟨g1, g2⟩ := flip_m h1 h3 hq a'
  have lw := tr_low2_lt hn hm h1.ok hv hij
  have hV := (h5.rows h1.en).1
  obtain ⟨-, q2⟩ := sv_two h1 (tb := fun k => nI (f k)) (fun _ _ => rfl) hV hi hj hv.1 hv.2.1
  obtain ⟨v1, v2⟩ := sv_flip h1.ok h1.n17 h5 hq q2
  refine ⟨tr_flip L i j c d, f', ?_⟩
  rw [m_fuSt_some (em.trans e)]
  exact ⟨a', g1, g2, v1, v2, by omega, h7.flip h1.ok hq⟩
theorem sv_setk (hn : n ≤ m) (hm : m ≤ 17) (hC : sv_C n P C) (hS : ∀ a b, a < n → b < n → s_stay nS S (nI a) (nI b) = St a b) (h0 : sv_K m n u P St xs ys sy (u + 1 + 1, lf, co) (u + 1 + 1, T) 0 L f) : ∀ k, (∀ j, j < k → m_tuP n xs ys sy (u + 1 + 1, lf, co) j = false) → (∃ L' f', sv_K m n u P St xs ys sy (m_tuS n xs ys sy (u + 1 + 1, lf, co) k) (s_sq n C nS S (u + 1 + 1, T) k) k L' f') ∧ ∀ j, j < k → (s_fu n C (s_sq n C nS S (u + 1 + 1, T) j).1 (s_sq n C nS S (u + 1 + 1, T) j).2 nS S).isSome = true ∧ ∃ L' f', sv_K m n u P St xs ys sy (m_tuS n xs ys sy (u + 1 + 1, lf, co) j) (s_sq n C nS S (u + 1 + 1, T) j) j L' f'
  | 0, _ => ⟨⟨L, f, h0⟩, fun j hj => absurd hj (Nat.not_lt_zero _)⟩
  | k + 1, hj => by
    obtain ⟨⟨L', f', i⟩, i2⟩ := sv_setk hn hm hC hS h0 k (fun j q => hj j (by omega))
    obtain ⟨s1, s3⟩ := sv_set1 hn hm hC hS i
    have hp := hj k (by omega)
    unfold m_tuP at hp
    cases e : fF P L' St n with
    | none => rw [(s1 e).1] at hp; cases hp
    | some q =>
      obtain ⟨x, y⟩ := q
      obtain ⟨e1, e2, L'', f'', i3⟩ := s3 x y e
      rw [← s_sq_s e2] at i3
      refine ⟨⟨L'', f'', i3⟩, fun j q => ?_⟩
      rcases Nat.lt_or_ge j k with z | z
      · exact i2 j z
      · have : j = k := by omega
        subst this
        exact ⟨by rw [e2]; rfl, L', f', i⟩
/-- settling ends in both at once, with the same flips -/
theorem sv_settle (hn : n ≤ m) (hm : m ≤ 17) (hC : sv_C n P C) (hS : ∀ a b, a < n → b < n → s_stay nS S (nI a) (nI b) = St a b) (h : ti_A n (u + 1 + 1) P L St f) (hmm : ti_m n (u + 1 + 1) P L St f xs ys lf sy co) (hE : sv_E (tr_S L) (u + 1 + 1) T) (hu : eu_ n (u + 1 + 1) L) : ∃ N, m_tuN n xs ys sy (u + 1 + 1, lf, co) = N ∧ (∀ k, k ≤ N → ∃ L' f', sv_K m n u P St xs ys sy (m_tuS n xs ys sy (u + 1 + 1, lf, co) k) (s_sq n C nS S (u + 1 + 1, T) k) k L' f') ∧ (∀ k, k < N → (s_fu n C (s_sq n C nS S (u + 1 + 1, T) k).1 (s_sq n C nS S (u + 1 + 1, T) k).2 nS S).isSome = true) ∧ s_fu n C (s_sq n C nS S (u + 1 + 1, T) N).1 (s_sq n C nS S (u + 1 + 1, T) N).2 nS S = none ∧ ∀ L' f', sv_K m n u P St xs ys sy (m_tuS n xs ys sy (u + 1 + 1, lf, co) N) (s_sq n C nS S (u + 1 + 1, T) N) N L' f' → fF P L' St n = none := by
  have h0 : sv_K m n u P St xs ys sy (u + 1 + 1, lf, co) (u + 1 + 1, T) 0 L f := ⟨h, rfl, hmm, rfl, hE, Nat.zero_le _, hu⟩
  by_cases w : ∃ j, j < 1000 ∧ m_tuP n xs ys sy (u + 1 + 1, lf, co) j = true
  · obtain ⟨N, e, h1, h2, h3⟩ := rg_fst_ex w
    obtain ⟨⟨L', f', i⟩, i2⟩ := sv_setk hn hm hC hS h0 N h3
    have none9 : ∀ L' f', sv_K m n u P St xs ys sy (m_tuS n xs ys sy (u + 1 + 1, lf, co) N) (s_sq n C nS S (u + 1 + 1, T) N) N L' f' → fF P L' St n = none := fun L9 f9 i9 => by
      obtain ⟨-, s3⟩ := sv_set1 hn hm hC hS i9
      cases e2 : fF P L9 St n with
      | none => rfl
      | some q =>
        have := (s3 q.1 q.2 e2).1
        unfold m_tuP at h2
        rw [this] at h2; cases h2
    obtain ⟨s1, -⟩ := sv_set1 hn hm hC hS i
    refine ⟨N, m_tuN_some h1 h3 h2, fun k hk => ?_, fun k hk => (i2 k hk).1, (s1 (none9 L' f' i)).2, none9⟩
    rcases Nat.lt_or_ge k N with z | z
    · exact (i2 k z).2
    · have : k = N := by omega
      subst this
      exact ⟨L', f', i⟩
  · exfalso
    obtain ⟨⟨L', f', i⟩, -⟩ := sv_setk hn hm hC hS h0 999 (fun j hj => by
      cases e : m_tuP n xs ys sy (u + 1 + 1, lf, co) j with
      | false => rfl
      | true => exact absurd ⟨j, by omega, e⟩ w)
    have l1 := i.2.2.2.2.2.1
    have l2 : tr_low2 P L' m ≤ 289 := rg_ct_le _ _
    omega
end SK
