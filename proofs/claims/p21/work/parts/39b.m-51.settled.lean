/-! settling, in the class and in the reference -/
section S
variable {n t u : Nat} {P : Nat → g_P} {L : Nat → Nat → Option Nat} {St : Nat → Nat → Bool} {f : Nat → Nat} {xs ys lf sy co : Nat → Int32} {xr yr tb : Nat → Int32} {sg : Nat → Nat → Int32} {fl : Int32}
def fU (P : Nat → g_P) (L : Nat → Nat → Option Nat) (St : Nat → Nat → Bool) (i j : Nat) : Bool := if j ≤ i then false else (uB P L i j && !St i j)
def fA (P : Nat → g_P) (L : Nat → Nat → Option Nat) (St : Nat → Nat → Bool) (n : Nat) (i : Nat) : Bool := (rg_fst (fU P L St i) n).isSome
def fF (P : Nat → g_P) (L : Nat → Nat → Option Nat) (St : Nat → Nat → Bool) (n : Nat) : Option (Nat × Nat) := match rg_fst (fA P L St n) n with
  | some a => (match rg_fst (fU P L St a) n with
    | some b => some (a, b)
    | none => none)
  | none => none
theorem rg_fst_lt {p : Nat → Bool} {k i : Nat} (h : rg_fst p k = some i) : i < k ∧ p i = true := by
  by_cases w : ∃ j, j < k ∧ p j = true
  · obtain ⟨i', e, h1, h2, -⟩ := rg_fst_ex w
    rw [h] at e; cases e
    exact ⟨h1, h2⟩
  · have : rg_fst p k = none := rg_fst_none (fun j hj => by
      cases e3 : p j with
      | false => rfl
      | true => exact absurd ⟨j, hj, e3⟩ w)
    rw [h] at this; cases this
theorem m_pFU_eq (h : ti_A n t P L St f) (hX : ti_X n P xs ys) (hL : ti_L L lf) (hS : ti_S St sy) {i j : Nat} (hi : i < n) (hj : j < n) : m_pFU n xs ys lf sy i j = fU P L St i j := by
  unfold m_pFU fU
  rw [m_unfair_eq h hX hL hi hj, m_stay_eq h.n17 hS hi hj]
  cases uB P L i j <;> cases St i j <;> rfl
theorem r_pFU_eq (h : ti_A n (u + 1 + 1) P L St f) (hX : ti_X n P xr yr) (hT : ti_T (u + 1 + 1) f tb) (hG : ti_G St sg) {i j : Nat} (hi : i < n) (hj : j < n) : r_pFU u xr yr (tb, sg, fl) i j = fU P L St i j := by
  have hn := h.n17
  unfold r_pFU fU
  show (if j ≤ i then false else (if sg i j = 0 then r_isUnfair (u + 1 + 1) xr yr tb (nI i) (nI j) else false)) = _
  rw [r_unfair_eq h hX hT hi hj, hG i j (by omega) (by omega)]
  cases uB P L i j <;> cases St i j <;> rfl
theorem fF_of {p : Nat → Nat → Bool} {q : Nat → Bool} (hp : ∀ i j, i < n → j < n → p i j = fU P L St i j) (hq : ∀ i, q i = (rg_fst (p i) n).isSome) : (match rg_fst q n with
  | some a => (match rg_fst (p a) n with
    | some b => some (a, b)
    | none => none)
  | none => none) = fF P L St n := by
  have e1 : ∀ i, i < n → rg_fst (p i) n = rg_fst (fU P L St i) n := fun i hi => rg_fst_congr (fun j hj => hp i j hi hj)
  have e2 : rg_fst q n = rg_fst (fA P L St n) n := rg_fst_congr (fun i hi => by rw [hq, e1 i hi]; rfl)
  unfold fF
  rw [e2]
  cases e : rg_fst (fA P L St n) n with
  | none => rfl
  | some a =>
    show (match rg_fst (p a) n with | some b => some (a, b) | none => none) = (match rg_fst (fU P L St a) n with | some b => some (a, b) | none => none)
    rw [e1 a (rg_fst_lt e).1]
theorem m_fu_eq (h : ti_A n t P L St f) (hX : ti_X n P xs ys) (hL : ti_L L lf) (hS : ti_S St sy) : m_fu n xs ys lf sy = fF P L St n := fF_of (fun i j hi hj => m_pFU_eq h hX hL hS hi hj) (fun i => rfl)
theorem r_fu_eq (h : ti_A n (u + 1 + 1) P L St f) (hX : ti_X n P xr yr) (hT : ti_T (u + 1 + 1) f tb) (hG : ti_G St sg) : r_fu u n xr yr (tb, sg, fl) = fF P L St n := fF_of (p := r_pFU u xr yr (tb, sg, fl)) (fun i j hi hj => r_pFU_eq h hX hT hG hi hj) (fun i => rfl)
theorem fF_some {i j : Nat} (h : fF P L St n = some (i, j)) : i < n ∧ j < n ∧ fU P L St i j = true := by
  unfold fF at h
  cases e : rg_fst (fA P L St n) n with
  | none => rw [e] at h; cases h
  | some a =>
    rw [e] at h
    replace h : (match rg_fst (fU P L St a) n with | some b => some (a, b) | none => none) = some (i, j) := h
    cases e2 : rg_fst (fU P L St a) n with
    | none => rw [e2] at h; cases h
    | some b =>
      rw [e2] at h
      have : (a, b) = (i, j) := Option.some.inj h
      cases this
      exact ⟨(rg_fst_lt e).1, (rg_fst_lt e2).1, (rg_fst_lt e2).2⟩
theorem fU_of {i j : Nat} (h : fU P L St i j = true) : ∃ c d, tr_Un1 P L i j c d ∧ St i j = false := by
  unfold fU at h
  split at h
  · cases h
  · rw [Bool.and_eq_true] at h
    obtain ⟨h1, h2⟩ := h
    unfold uB at h1
    split at h1
    · rename_i c d e1 e2
      exact ⟨c, d, ⟨e1, e2, by simpa using h1⟩, by simpa using h2⟩
    · cases h1
/-- what both have behind k flips of settling -/
abbrev ti_K (n u : Nat) (P : Nat → g_P) (St : Nat → Nat → Bool) (xs ys sy xr yr : Nat → Int32) (m : Nat × (Nat → Int32) × (Nat → Int32)) (r : r_St) (fl : Int32) (k : Nat) (L : Nat → Nat → Option Nat) (f : Nat → Nat) : Prop := ti_A n (u + 1 + 1) P L St f ∧ m.1 = u + 1 + 1 ∧ ti_m n (u + 1 + 1) P L St f xs ys m.2.1 sy m.2.2 ∧ ti_r n (u + 1 + 1) P St f xr yr r.1 r.2.1 ∧ r.2.2 = fl + nI k ∧ k ≤ tr_low P L
theorem settle_1 {m : Nat × (Nat → Int32) × (Nat → Int32)} {r : r_St} {k : Nat} (h : ti_K n u P St xs ys sy xr yr m r fl k L f) (hk : k < 1000) : (fF P L St n = none → m_fu n xs ys m.2.1 sy = none ∧ r_fu u n xr yr r = none) ∧ r_okS u n xr yr r ∧ (∀ q, fF P L St n = some q → m_fu n xs ys m.2.1 sy = some q ∧ r_fu u n xr yr r = some q ∧ ∃ L' f', ti_K n u P St xs ys sy xr yr (m_fuSt n xs ys sy m) (r_fuSt u n xr yr r) fl (k + 1) L' f') := by
  obtain ⟨h1, h2, h3, h4, h5, h6⟩ := h
  obtain ⟨m1, m2, m3⟩ := m
  obtain ⟨r1, r2, r3⟩ := r
  have hn := h1.n17
  have em := m_fu_eq h1 h3.1 h3.2.1 h3.2.2.1
  have er := r_fu_eq (fl := r3) h1 h4.1 h4.2.1 h4.2.2
  refine ⟨fun e => ⟨em.trans e, er.trans e⟩, fun i j hi hj => ⟨?_, ?_⟩, fun q e => ⟨em.trans e, er.trans e, ?_⟩⟩
  · intro hs
    obtain ⟨c, d, e1, e2⟩ := iB_some ((r_sides_2 h1 h4.2.1 hi hj).mp hs)
    have hc := (h1.lt e1).2.2
    have hd := (h1.lt e2).2.2
    rcases fr2 (h1.R h4.2.1) hi hj e1 e2 with ⟨q1, q2⟩ | ⟨q1, q2⟩
    · rw [q1, q2]; exact ⟨vp_in_nI (by omega) (by decide), vp_in_nI (by omega) (by decide)⟩
    · rw [q1, q2]; exact ⟨vp_in_nI (by omega) (by decide), vp_in_nI (by omega) (by decide)⟩
  · intro hs hu
    rw [r_unfair_eq h1 h4.1 h4.2.1 hi hj] at hu
    have hst : St i j = false := by
      have : (r1, r2, r3).2.1 i j = 0 := hs
      rw [h4.2.2 i j (by omega) (by omega)] at this
      exact (bI_0 _).mp this
    have hv : ∃ c d, tr_Un1 P L i j c d := by
      unfold uB at hu
      split at hu
      · rename_i c d e1 e2
        exact ⟨c, d, e1, e2, by simpa using hu⟩
      · cases hu
    obtain ⟨c, d, hv⟩ := hv
    refine (flip_tie h1 h4.2.1 h4.2.2 (h1.ok.quad hv) hst (kc := r_kc u r1 i j) (kd := r_kd u r1 i j) ?_).1
    exact fr2 (h1.R h4.2.1) hi hj hv.1 hv.2.1
  · obtain ⟨i, j⟩ := q
    obtain ⟨hi, hj, hU⟩ := fF_some e
    obtain ⟨c, d, hv, hst⟩ := fU_of hU
    have hq := h1.ok.quad hv
    obtain ⟨-, g, f', a', t'⟩ := flip_tie h1 h4.2.1 h4.2.2 hq hst (kc := r_kc u r1 i j) (kd := r_kd u r1 i j) (fr2 (h1.R h4.2.1) hi hj hv.1 hv.2.1)
    obtain ⟨g1, g2⟩ := flip_m h1 h3 hq a'
    have lw := tr_low_lt hn h1.ok hv
    refine ⟨tr_flip L i j c d, f', ?_⟩
    rw [m_fuSt_some (em.trans e), r_fuSt_some (er.trans e)]
    refine ⟨a', g1, g2, ⟨h4.1, t', g⟩, ?_, by omega⟩
    show r3 + 1 = fl + nI (k + 1)
    have : r3 = fl + nI k := h5
    rw [this, Int32.add_assoc, nI_1]
theorem settle_k (h0 : ti_K n u P St xs ys sy xr yr (u + 1 + 1, lf, co) (tb, sg, fl) fl 0 L f) : ∀ k, k < 1000 → (∀ j, j < k → m_tuP n xs ys sy (u + 1 + 1, lf, co) j = false) → (∃ L' f', ti_K n u P St xs ys sy xr yr (m_tuS n xs ys sy (u + 1 + 1, lf, co) k) (r_tuS u n xr yr (tb, sg, fl) k) fl k L' f') ∧ ∀ j, j < k → (r_fu u n xr yr (r_tuS u n xr yr (tb, sg, fl) j)).isSome = true ∧ r_okS u n xr yr (r_tuS u n xr yr (tb, sg, fl) j)
  | 0, _, _ => ⟨⟨L, f, h0⟩, fun j hj => absurd hj (Nat.not_lt_zero _)⟩
  | k + 1, hk, hj => by
    obtain ⟨⟨L', f', i⟩, i2⟩ := settle_k h0 k (by omega) (fun j q => hj j (by omega))
    obtain ⟨s1, s2, s3⟩ := settle_1 i (by omega)
    have hp := hj k (by omega)
    unfold m_tuP at hp
    cases e : fF P L' St n with
    | none => rw [(s1 e).1] at hp; cases hp
    | some q =>
      obtain ⟨e1, e2, L'', f'', i3⟩ := s3 q e
      refine ⟨⟨L'', f'', i3⟩, fun j q => ?_⟩
      rcases Nat.lt_or_ge j k with z | z
      · exact i2 j z
      · have : j = k := by omega
        subst this
        exact ⟨by rw [e2]; rfl, s2⟩
/-- settling ends in both at once, with the same flips -/
theorem settle_eq (h : ti_A n (u + 1 + 1) P L St f) (hm : ti_m n (u + 1 + 1) P L St f xs ys lf sy co) (hr : ti_r n (u + 1 + 1) P St f xr yr tb sg) : ∃ N L' f', N ≤ 289 ∧ m_tuN n xs ys sy (u + 1 + 1, lf, co) = N ∧ ti_K n u P St xs ys sy xr yr (m_tuS n xs ys sy (u + 1 + 1, lf, co) N) (r_tuS u n xr yr (tb, sg, fl) N) fl N L' f' ∧ (∀ k, k < N → (r_fu u n xr yr (r_tuS u n xr yr (tb, sg, fl) k)).isSome = true) ∧ r_fu u n xr yr (r_tuS u n xr yr (tb, sg, fl) N) = none ∧ ∀ k, k ≤ N → r_okS u n xr yr (r_tuS u n xr yr (tb, sg, fl) k) := by
  have h0 : ti_K n u P St xs ys sy xr yr (u + 1 + 1, lf, co) (tb, sg, fl) fl 0 L f := ⟨h, rfl, hm, hr, (Int32.add_zero fl).symm, Nat.zero_le _⟩
  by_cases w : ∃ j, j < 1000 ∧ m_tuP n xs ys sy (u + 1 + 1, lf, co) j = true
  · obtain ⟨N, e, h1, h2, h3⟩ := rg_fst_ex w
    obtain ⟨⟨L', f', i⟩, i2⟩ := settle_k (fl := fl) h0 N h1 h3
    obtain ⟨s1, s2, s3⟩ := settle_1 i h1
    have lw := tr_low_le P L'
    have hnone : fF P L' St n = none := by
      cases e2 : fF P L' St n with
      | none => rfl
      | some q =>
        have := (s3 q e2).1
        unfold m_tuP at h2
        rw [this] at h2; cases h2
    refine ⟨N, L', f', by have := i.2.2.2.2.2; omega, m_tuN_some h1 h3 h2, i, fun k hk => (i2 k hk).1, (s1 hnone).2, fun k hk => ?_⟩
    rcases Nat.lt_or_ge k N with z | z
    · exact (i2 k z).2
    · have : k = N := by omega
      subst this
      exact s2
  · exfalso
    obtain ⟨⟨L', f', i⟩, -⟩ := settle_k (fl := fl) h0 999 (by omega) (fun j hj => by
      cases e : m_tuP n xs ys sy (u + 1 + 1, lf, co) j with
      | false => rfl
      | true => exact absurd ⟨j, by omega, e⟩ w)
    have lw := tr_low_le P L'
    have := i.2.2.2.2.2
    omega
end S

