/-! building in the law's moor, the whole of it -/
theorem cut_sym {St : Nat → Nat → Bool} (hs : ∀ i j, St i j = St j i) (n a b : Nat) : ∀ i j, cutSt St n a b i j = cutSt St n a b j i := by
  intro i j
  unfold cutSt
  by_cases e : St a b = true
  · rw [if_pos e]
    exact st_set_sym (st_set_sym (st_set_sym hs a b false) a n true) b n true i j
  · rw [if_neg e]; exact hs i j
theorem cut_no {St : Nat → Nat → Bool} {n a b : Nat} (ha : a < n) (hb : b < n) : cutSt St n a b a b = false := by
  unfold cutSt
  by_cases e : St a b = true
  · rw [if_pos e]
    unfold st_set
    rw [if_neg (by omega), if_neg (by omega), if_pos (Or.inl ⟨rfl, rfl⟩)]
  · rw [if_neg e]; simpa using e
theorem cut_cut {St : Nat → Nat → Bool} {n a b : Nat} (ha : a < n) (hb : b < n) : cutSt (cutSt St n a b) n a b = cutSt St n a b := by
  have := cut_no (St := St) ha hb
  generalize cutSt St n a b = S1 at *
  unfold cutSt
  rw [if_neg (by rw [this]; decide)]
section BW
variable {n t : Nat} {P : Nat → g_P} {L L' : Nat → Nat → Option Nat} {St St' : Nat → Nat → Bool} {f : Nat → Nat} {T C S : Nat → Nat → Int32} {nS t' : Nat}
abbrev bSide (n : Nat) (P : Nat → g_P) (C T : Nat → Nat → Int32) (j : Nat) : Int32 := s_side C (T j) (iN (P n).1) (iN (P n).2)
theorem side_row (h : ti_A n t P L St f) (hn : n ≤ 16) (hP : tr_Pos (n + 1) P) (hC : sv_C (n + 1) P C) (hE : sv_E (tr_S L) t T) {j : Nat} (hj : j < t) : (cB (P (f j / 32 / 32)) (P (f j / 32 % 32)) (P (f j % 32)) (P n) = false → bSide n P C T j = -1) ∧ (cB (P (f j / 32 / 32)) (P (f j / 32 % 32)) (P (f j % 32)) (P n) = true → bSide n P C T j = if gO (P (f j % 32)) (P (f j / 32 / 32)) (P n) = 0 then 2 else if gO (P (f j / 32 % 32)) (P (f j % 32)) (P n) = 0 then 1 else if gO (P (f j / 32 / 32)) (P (f j / 32 % 32)) (P n) = 0 then 0 else 3) := by
  obtain ⟨k1, k2, k3, -, k5⟩ := ti_k h hj
  have hr := (hE.rows h.en).2 j hj
  refine s_side_eq hC (by omega) hP.1 hr (by omega) (by omega) (by omega) (hP.1 n (by omega)) ?_
  rcases k5 with e | e
  · have := (h.ok.tri _ _ _ e).2.2.2.1; omega
  · have := (h.ok.tri _ _ _ e).2.2.2.1
    have := gO_swap2 (P (f j / 32 / 32)) (P (f j / 32 % 32)) (P (f j % 32))
    omega
theorem side_has (h : ti_A n t P L St f) (hn : n ≤ 16) (hP : tr_Pos (n + 1) P) (hC : sv_C (n + 1) P C) (hE : sv_E (tr_S L) t T) {j : Nat} (hj : j < t) : 0 ≤ bSide n P C T j ↔ ∃ x y w, L x y = some w ∧ f j = sc x y w ∧ gInW (P x) (P y) (P w) (P n) := by
  obtain ⟨s1, s2⟩ := side_row h hn hP hC hE hj
  rw [← cB_face h hj]
  cases e : cB (P (f j / 32 / 32)) (P (f j / 32 % 32)) (P (f j % 32)) (P n) with
  | false => rw [s1 e]; exact ⟨fun q => absurd q (by decide), fun q => by cases q⟩
  | true =>
    rw [s2 e]
    refine ⟨fun _ => rfl, fun _ => ?_⟩
    split
    · decide
    · split
      · decide
      · split <;> decide
theorem side_on (h : ti_A n t P L St f) (hn : n ≤ 16) (hP : tr_Pos (n + 1) P) (hC : sv_C (n + 1) P C) (hE : sv_E (tr_S L) t T) {j a b c : Nat} (hj : j < t) (hf : f j = sc a b c) (ha : a < n) (hb : b < n) (hc : c < n) (nab : a ≠ b) (nbc : b ≠ c) (nca : c ≠ a) (h0 : 0 ≤ bSide n P C T j) (z1 : gO (P a) (P b) (P n) = 0) (z2 : gO (P b) (P c) (P n) ≠ 0) (z3 : gO (P c) (P a) (P n) ≠ 0) : bSide n P C T j = if sc a b c % 32 = c then 0 else if sc a b c / 32 / 32 = c then 1 else 2 := by
  obtain ⟨s1, s2⟩ := side_row h hn hP hC hE hj
  have w1 := gO_swap (P a) (P b) (P n)
  have w2 := gO_swap (P b) (P c) (P n)
  have w3 := gO_swap (P c) (P a) (P n)
  cases e : cB (P (f j / 32 / 32)) (P (f j / 32 % 32)) (P (f j % 32)) (P n) with
  | false => rw [s1 e] at h0; exact absurd h0 (by decide)
  | true =>
    rw [s2 e, hf]
    rcases sc_perm (a := a) (b := b) (c := c) (by omega) (by omega) (by omega) with ⟨q0, q1, q2⟩ | ⟨q0, q1, q2⟩ | ⟨q0, q1, q2⟩ | ⟨q0, q1, q2⟩ | ⟨q0, q1, q2⟩ | ⟨q0, q1, q2⟩ <;> rw [q0, q1, q2]
    · rw [if_neg z3, if_neg z2, if_pos z1, if_pos rfl]
    · rw [if_pos (by omega), if_neg nbc, if_neg (fun q => nca q.symm)]
    · rw [if_neg (by omega), if_neg (by omega), if_pos (by omega), if_pos rfl]
    · rw [if_pos z1, if_neg (fun q => nca q.symm), if_neg nbc]
    · rw [if_neg z2, if_pos z1, if_neg nbc, if_pos rfl]
    · rw [if_neg (by omega), if_pos (by omega), if_neg (fun q => nca q.symm), if_pos rfl]
theorem side_in (h : ti_A n t P L St f) (hn : n ≤ 16) (hP : tr_Pos (n + 1) P) (hC : sv_C (n + 1) P C) (hE : sv_E (tr_S L) t T) {j a b c : Nat} (hj : j < t) (hf : f j = sc a b c) (ha : a < n) (hb : b < n) (hc : c < n) (h0 : 0 ≤ bSide n P C T j) (z1 : gO (P a) (P b) (P n) ≠ 0) (z2 : gO (P b) (P c) (P n) ≠ 0) (z3 : gO (P c) (P a) (P n) ≠ 0) : bSide n P C T j = 3 := by
  obtain ⟨s1, s2⟩ := side_row h hn hP hC hE hj
  have w1 := gO_swap (P a) (P b) (P n)
  have w2 := gO_swap (P b) (P c) (P n)
  have w3 := gO_swap (P c) (P a) (P n)
  cases e : cB (P (f j / 32 / 32)) (P (f j / 32 % 32)) (P (f j % 32)) (P n) with
  | false => rw [s1 e] at h0; exact absurd h0 (by decide)
  | true =>
    rw [s2 e, hf]
    rcases sc_perm (a := a) (b := b) (c := c) (by omega) (by omega) (by omega) with ⟨q0, q1, q2⟩ | ⟨q0, q1, q2⟩ | ⟨q0, q1, q2⟩ | ⟨q0, q1, q2⟩ | ⟨q0, q1, q2⟩ | ⟨q0, q1, q2⟩ <;> rw [q0, q1, q2, if_neg (by omega), if_neg (by omega), if_neg (by omega)]
/-- which rows have the place -/
theorem has_in (h : ti_A n t P L St f) (hn : n ≤ 16) (hP : tr_Pos (n + 1) P) (hC : sv_C (n + 1) P C) (hE : sv_E (tr_S L) t T) {a b c : Nat} (e : L a b = some c) (z1 : 0 < gO (P a) (P b) (P n)) (z2 : 0 < gO (P b) (P c) (P n)) (z3 : 0 < gO (P c) (P a) (P n)) {j : Nat} (hj : j < t) : 0 ≤ bSide n P C T j ↔ f j = sc a b c := by
  rw [side_has h hn hP hC hE hj]
  constructor
  · rintro ⟨x', y', w', e', s, q⟩
    exact s.trans (rot_sc (tr_one h.ok (hP.1 n (by omega)) e ⟨z1, z2, z3⟩ e' q))
  · intro s
    exact ⟨a, b, c, e, s, by unfold gInW; omega⟩
theorem has_on (h : ti_A n t P L St f) (hn : n ≤ 16) (hP : tr_Pos (n + 1) P) (hC : sv_C (n + 1) P C) (hE : sv_E (tr_S L) t T) {a b c : Nat} (e : L a b = some c) (z1 : gO (P a) (P b) (P n) = 0) (z2 : 0 < gO (P b) (P c) (P n)) (z3 : 0 < gO (P c) (P a) (P n)) {j : Nat} (hj : j < t) : 0 ≤ bSide n P C T j ↔ (f j = sc a b c ∨ ∃ d, L b a = some d ∧ f j = sc a b d) := by
  rw [side_has h hn hP hC hE hj]
  constructor
  · rintro ⟨x', y', w', e', s, q⟩
    rcases tr_two h.ok (hP.1 n (by omega)) e z1 z2 z3 e' q with r | ⟨d, e2, r⟩
    · exact Or.inl (s.trans (rot_sc r))
    · exact Or.inr ⟨d, e2, s.trans ((rot_sc r).trans (sc_swap _ _ _))⟩
  · rintro (s | ⟨d, e2, s⟩)
    · exact ⟨a, b, c, e, s, by unfold gInW; omega⟩
    · have g1 := (h.ok.tri _ _ _ e).2.2.2.1
      have g2 := (h.ok.tri _ _ _ e2).2.2.2.1
      obtain ⟨k1, k2, k3⟩ := g_onEdge g1 g2 z1 z2 z3
      exact ⟨b, a, d, e2, s.trans (sc_swap _ _ _).symm, by unfold gInW; omega⟩
/-- the law's moor, behind a new cairn -/
theorem sv_build (h : ti_A n t P L St f) (hn : n ≤ 16) (hP : tr_Pos (n + 1) P) (hC : sv_C (n + 1) P C) (hE : sv_E (tr_S L) t T) (hL : sv_L (qS St) nS S) (how : ti_how n t P L L' St St' t') : (s_bO C (iN (P n).1) (iN (P n).2) (nI n) T (t, T, nS, S) t).1 = t' ∧ sv_E (tr_S L') t' (s_bO C (iN (P n).1) (iN (P n).2) (nI n) T (t, T, nS, S) t).2.1 ∧ sv_L (qS St') (s_bO C (iN (P n).1) (iN (P n).2) (nI n) T (t, T, nS, S) t).2.2.1 (s_bO C (iN (P n).1) (iN (P n).2) (nI n) T (t, T, nS, S) t).2.2.2 := by
  have hs := h.sym
  have hB : sv_B (tr_S L) St (t, T, nS, S) := ⟨hE, hL⟩
  have hno : ∀ i, St i n = false := fun i => by
    cases e : St i n with
    | false => rfl
    | true =>
      rcases h.ed i n e with ⟨c, q⟩ | ⟨c, q⟩
      · have := (h.lt q).2.1; omega
      · have := (h.lt q).1; omega
  have rows := (hE.rows h.en).2
  have skip : ∀ i m, i ≤ m → m ≤ t → (∀ j, i ≤ j → j < m → ¬ 0 ≤ bSide n P C T j) → s_bO C (iN (P n).1) (iN (P n).2) (nI n) T (t, T, nS, S) m = s_bO C (iN (P n).1) (iN (P n).2) (nI n) T (t, T, nS, S) i := fun i m h1 _ h2 => bO_same m h1 h2
  rcases how with ⟨a, b, c, e, z1, z2, z3, rfl, hSt, hiff⟩ | ⟨a, b, c, d, e1, e2, z1, z2, z3, rfl, hSt, hiff⟩ | ⟨a, b, c, e1, e2, z1, z2, z3, rfl, hSt, hiff⟩
  · -- within
    obtain ⟨ha, hb, hc, g, -⟩ := h.ok.tri _ _ _ e
    obtain ⟨n1, n2, n3⟩ := tr_ne g
    have has := fun j (hj : j < t) => has_in h hn hP hC hE e z1 z2 z3 hj
    obtain ⟨k, hk, fk⟩ := at_k h ⟨a, b, c, e, rfl⟩
    have hk0 := (has k hk).mpr fk
    have one : ∀ j, j < t → 0 ≤ bSide n P C T j → j = k := fun j hj q => h.en.inj hj hk (((has j hj).mp q).trans fk.symm)
    rw [skip (k + 1) t (by omega) (Nat.le_refl t) (fun j h1 h2 q => by have := one j h2 q; omega)]
    rw [bO_step hk0, skip 0 k (Nat.zero_le k) (by omega) (fun j _ h2 q => by have := one j (by omega) q; omega)]
    rw [show s_side C (T k) (iN (P n).1) (iN (P n).2) = 3 from side_in h hn hP hC hE hk fk ha hb hc hk0 (by omega) (by omega) (by omega)]
    have hr := rows k hk
    rw [fk] at hr
    obtain ⟨c1, b1, b2⟩ := row_in (r := T k) hB ⟨a, b, c, e, rfl⟩ hr ha hb hc n1 n2 n3 (by omega) (no_new h hn ha hb) (no_new h hn hb hc) (no_new h hn hc ha)
    have c2 : (s_bK (T k) 3 (nI n) (s_b1 (T k) (s_bO C (iN (P n).1) (iN (P n).2) (nI n) T (t, T, nS, S) 0)) 3).1 = t + 2 := c1
    refine ⟨c2, ?_, ?_⟩
    · have := b1.congr (fun v => tr_S_in3 h.ok.tri h.n17 e hiff v)
      rw [show (s_bK (T k) 3 (nI n) (s_b1 (T k) (t, T, nS, S)) 3).1 = t + 2 from c1] at this
      exact this
    · rw [show St' = St from funext fun i => funext fun j => hSt i j]
      exact b2
  · -- on an inner edge
    obtain ⟨ha, hb, hc, g1, -⟩ := h.ok.tri _ _ _ e1
    obtain ⟨-, -, hd, g2, -⟩ := h.ok.tri _ _ _ e2
    obtain ⟨n1, n2, n3⟩ := tr_ne g1
    obtain ⟨n4, n5, n6⟩ := tr_ne g2
    obtain ⟨k1, k2, k3⟩ := g_onEdge g1 g2 z1 z2 z3
    have ncd : c ≠ d := by
      rintro rfl
      have := gO_swap (P a) (P b) (P c)
      omega
    have sw1 := gO_swap (P d) (P b) (P n)
    have sw2 := gO_swap (P a) (P d) (P n)
    have has : ∀ j, j < t → (0 ≤ bSide n P C T j ↔ (f j = sc a b c ∨ f j = sc a b d)) := fun j hj => by
      rw [has_on h hn hP hC hE e1 z1 z2 z3 hj]
      constructor
      · rintro (q | ⟨d', q, q'⟩)
        · exact Or.inl q
        · rw [e2] at q; cases q; exact Or.inr q'
      · rintro (q | q)
        · exact Or.inl q
        · exact Or.inr ⟨d, e2, q⟩
    have S1 : tr_S L (sc a b c) := ⟨a, b, c, e1, rfl⟩
    have S2 : tr_S L (sc a b d) := ⟨b, a, d, e2, (sc_swap _ _ _).symm⟩
    have d12 : sc a b c ≠ sc a b d := fun w => by
      rcases sc_inj (by omega) (by omega) (by omega) (by omega) (by omega) (by omega) w with w | w | w | w | w | w <;> omega
    have two : ∀ (c d : Nat), c < n → d < n → b ≠ c → c ≠ a → b ≠ d → d ≠ a → c ≠ d → tr_S L (sc a b c) → tr_S L (sc a b d) → sc a b c ≠ sc a b d → gO (P b) (P c) (P n) ≠ 0 → gO (P c) (P a) (P n) ≠ 0 → gO (P b) (P d) (P n) ≠ 0 → gO (P d) (P a) (P n) ≠ 0 → (∀ j, j < t → (0 ≤ bSide n P C T j ↔ (f j = sc a b c ∨ f j = sc a b d))) → ∀ k k', k < k' → k' < t → f k = sc a b c → f k' = sc a b d → (s_bO C (iN (P n).1) (iN (P n).2) (nI n) T (t, T, nS, S) t).1 = t + 2 ∧ sv_B (fun v => ((((((tr_S L v ∧ v ≠ sc a b c) ∨ v = sc a c n) ∨ v = sc b c n)) ∧ v ≠ sc a b d) ∨ v = sc a d n) ∨ v = sc b d n) (cutSt St n a b) (s_bO C (iN (P n).1) (iN (P n).2) (nI n) T (t, T, nS, S) t) := by
      intro c d hc hd m2 m3 m5 m6 mcd S1 S2 d12 y2 y3 y5 y6 has k k' hkk hk' fk fk'
      have hk : k < t := by omega
      have hk0 := (has k hk).mpr (Or.inl fk)
      have hk1 := (has k' hk').mpr (Or.inr fk')
      have one : ∀ j, j < t → 0 ≤ bSide n P C T j → j = k ∨ j = k' := fun j hj q => by
        rcases (has j hj).mp q with q | q
        · exact Or.inl (h.en.inj hj hk (q.trans fk.symm))
        · exact Or.inr (h.en.inj hj hk' (q.trans fk'.symm))
      have hr := rows k hk
      have hr' := rows k' hk'
      rw [fk] at hr
      rw [fk'] at hr'
      have s1 := side_on h hn hP hC hE hk fk ha hb hc n1 m2 m3 hk0 z1 y2 y3
      have s2 := side_on h hn hP hC hE hk' fk' ha hb hd n1 m5 m6 hk1 z1 y5 y6
      obtain ⟨c1, b1⟩ := row_on (r := T k) (on := bSide n P C T k) hB S1 hr ha hb hc n1 m2 m3 (by omega) hs (fun _ i _ => hno i) (no_new h hn ha hc) (no_new h hn hb hc) s1
      have e1 : s_bO C (iN (P n).1) (iN (P n).2) (nI n) T (t, T, nS, S) k' = s_bK (T k) (bSide n P C T k) (nI n) (s_b1 (T k) (t, T, nS, S)) 3 := by
        rw [skip (k + 1) k' (by omega) (by omega) (fun j h1 h2 q => by have := one j (by omega) q; omega), bO_step hk0, skip 0 k (Nat.zero_le k) (by omega) (fun j _ h2 q => by have := one j (by omega) q; omega)]
        rfl
      have ns : ∀ x y w, sc a b w ≠ sc x y n → True := fun _ _ _ _ => trivial
      have no2 : ∀ x, x < n → sc a b d ≠ sc x c n ∧ True := fun x hx => ⟨fun w => no_new h hn hx hc (by rw [← w]; exact S2), trivial⟩
      obtain ⟨c2, b2⟩ := row_on (r := T k') (on := bSide n P C T k') b1 (Or.inl (Or.inl ⟨S2, fun w => d12 w.symm⟩)) hr' ha hb hd n1 m5 m6 (by omega) (cut_sym hs n a b) (fun w => by rw [cut_no ha hb] at w; cases w)
        (fun w => w.elim (fun w => w.elim (fun w => no_new h hn ha hd w.1) (fun w => sc_n ha hd ha hc (by omega) (by omega) w)) (fun w => sc_n ha hd hb hc (by omega) (by omega) w))
        (fun w => w.elim (fun w => w.elim (fun w => no_new h hn hb hd w.1) (fun w => sc_n hb hd ha hc (by omega) (by omega) w)) (fun w => sc_n hb hd hb hc (by omega) (by omega) w)) s2
      have e2 : s_bO C (iN (P n).1) (iN (P n).2) (nI n) T (t, T, nS, S) t = s_bK (T k') (bSide n P C T k') (nI n) (s_b1 (T k') (s_bK (T k) (bSide n P C T k) (nI n) (s_b1 (T k) (t, T, nS, S)) 3)) 3 := by
        rw [skip (k' + 1) t (by omega) (Nat.le_refl t) (fun j h1 h2 q => by have := one j h2 q; omega), bO_step hk1, e1]
      rw [cut_cut ha hb] at b2
      rw [e2]
      exact ⟨by omega, b2⟩
    have goal : ∀ {K : Nat → Prop}, ((s_bO C (iN (P n).1) (iN (P n).2) (nI n) T (t, T, nS, S) t).1 = t + 2 ∧ sv_B K (cutSt St n a b) (s_bO C (iN (P n).1) (iN (P n).2) (nI n) T (t, T, nS, S) t)) → (∀ v, tr_S L' v ↔ K v) → (s_bO C (iN (P n).1) (iN (P n).2) (nI n) T (t, T, nS, S) t).1 = t + 2 ∧ sv_E (tr_S L') (t + 2) (s_bO C (iN (P n).1) (iN (P n).2) (nI n) T (t, T, nS, S) t).2.1 ∧ sv_L (qS St') (s_bO C (iN (P n).1) (iN (P n).2) (nI n) T (t, T, nS, S) t).2.2.1 (s_bO C (iN (P n).1) (iN (P n).2) (nI n) T (t, T, nS, S) t).2.2.2 := by
      rintro K ⟨q1, q2, q3⟩ q4
      rw [q1] at q2
      refine ⟨q1, q2.congr q4, ?_⟩
      rw [show St' = cutSt St n a b from funext fun i => funext fun j => hSt i j]
      exact q3
    obtain ⟨k, hk, fk⟩ := at_k h S1
    obtain ⟨k', hk', fk'⟩ := at_k h S2
    have set := tr_S_in12 h.ok.tri h.n17 e1 e2 hiff
    have x1 : ∀ v, v = sc a c n ∨ v = sc b c n ∨ v = sc a d n ∨ v = sc b d n → v ≠ sc a b c ∧ v ≠ sc a b d := fun v w => by
      constructor
      · intro y
        rw [y] at w
        rcases w with w | w | w | w
        · exact no_new h hn ha hc (by rw [← w]; exact S1)
        · exact no_new h hn hb hc (by rw [← w]; exact S1)
        · exact no_new h hn ha hd (by rw [← w]; exact S1)
        · exact no_new h hn hb hd (by rw [← w]; exact S1)
      · intro y
        rw [y] at w
        rcases w with w | w | w | w
        · exact no_new h hn ha hc (by rw [← w]; exact S2)
        · exact no_new h hn hb hc (by rw [← w]; exact S2)
        · exact no_new h hn ha hd (by rw [← w]; exact S2)
        · exact no_new h hn hb hd (by rw [← w]; exact S2)
    rcases Nat.lt_or_ge k k' with w | w
    · refine goal (two c d hc hd n2 n3 (fun q => n6 q.symm) (fun q => n5 q.symm) ncd S1 S2 d12 (by omega) (by omega) (by omega) (by omega) has k k' w hk' fk fk') (fun v => ?_)
      rw [set v]
      have := x1 v
      constructor
      · rintro (((((⟨⟨q1, q2⟩, q3⟩) | q) | q) | q) | q)
        · exact Or.inl (Or.inl ⟨Or.inl (Or.inl ⟨q1, q2⟩), q3⟩)
        · exact Or.inl (Or.inl ⟨Or.inl (Or.inr q), (this (Or.inl q)).2⟩)
        · exact Or.inl (Or.inl ⟨Or.inr q, (this (Or.inr (Or.inl q))).2⟩)
        · exact Or.inl (Or.inr q)
        · exact Or.inr q
      · rintro ((⟨(⟨q1, q2⟩ | q) | q, q3⟩ | q) | q)
        · exact Or.inl (Or.inl (Or.inl (Or.inl ⟨⟨q1, q2⟩, q3⟩)))
        · exact Or.inl (Or.inl (Or.inl (Or.inr q)))
        · exact Or.inl (Or.inl (Or.inr q))
        · exact Or.inl (Or.inr q)
        · exact Or.inr q
    · have w2 : k' < k := by
        rcases Nat.lt_or_ge k' k with y | y
        · exact y
        · exfalso
          have : k = k' := by omega
          subst this
          exact d12 (fk.symm.trans fk')
      refine goal (two d c hd hc (fun q => n6 q.symm) (fun q => n5 q.symm) n2 n3 (fun q => ncd q.symm) S2 S1 d12.symm (by omega) (by omega) (by omega) (by omega) (fun j hj => (has j hj).trans Or.comm) k' k w2 hk fk' fk) (fun v => ?_)
      rw [set v]
      have := x1 v
      constructor
      · rintro (((((⟨⟨q1, q2⟩, q3⟩) | q) | q) | q) | q)
        · exact Or.inl (Or.inl ⟨Or.inl (Or.inl ⟨q1, q3⟩), q2⟩)
        · exact Or.inl (Or.inr q)
        · exact Or.inr q
        · exact Or.inl (Or.inl ⟨Or.inl (Or.inr q), (this (Or.inr (Or.inr (Or.inl q)))).1⟩)
        · exact Or.inl (Or.inl ⟨Or.inr q, (this (Or.inr (Or.inr (Or.inr q)))).1⟩)
      · rintro ((⟨(⟨q1, q2⟩ | q) | q, q3⟩ | q) | q)
        · exact Or.inl (Or.inl (Or.inl (Or.inl ⟨⟨q1, q3⟩, q2⟩)))
        · exact Or.inl (Or.inr q)
        · exact Or.inr q
        · exact Or.inl (Or.inl (Or.inl (Or.inr q)))
        · exact Or.inl (Or.inl (Or.inr q))
  · -- on the border
    obtain ⟨ha, hb, hc, g1, -⟩ := h.ok.tri _ _ _ e1
    obtain ⟨n1, n2, n3⟩ := tr_ne g1
    have has : ∀ j, j < t → (0 ≤ bSide n P C T j ↔ f j = sc a b c) := fun j hj => by
      rw [has_on h hn hP hC hE e1 z1 z2 z3 hj]
      exact ⟨fun q => q.elim id (fun ⟨d', q, _⟩ => by rw [e2] at q; cases q), Or.inl⟩
    obtain ⟨k, hk, fk⟩ := at_k h ⟨a, b, c, e1, rfl⟩
    have hk0 := (has k hk).mpr fk
    have one : ∀ j, j < t → 0 ≤ bSide n P C T j → j = k := fun j hj q => h.en.inj hj hk (((has j hj).mp q).trans fk.symm)
    have s1 := side_on h hn hP hC hE hk fk ha hb hc n1 n2 n3 hk0 z1 (by omega) (by omega)
    have hr := rows k hk
    rw [fk] at hr
    obtain ⟨c1, b1, b2⟩ := row_on (r := T k) (on := bSide n P C T k) hB ⟨a, b, c, e1, rfl⟩ hr ha hb hc n1 n2 n3 (by omega) hs (fun _ i _ => hno i) (no_new h hn ha hc) (no_new h hn hb hc) s1
    have e9 : s_bO C (iN (P n).1) (iN (P n).2) (nI n) T (t, T, nS, S) t = s_bK (T k) (bSide n P C T k) (nI n) (s_b1 (T k) (t, T, nS, S)) 3 := by
      rw [skip (k + 1) t (by omega) (Nat.le_refl t) (fun j h1 h2 q => by have := one j h2 q; omega), bO_step hk0, skip 0 k (Nat.zero_le k) (by omega) (fun j _ h2 q => by have := one j (by omega) q; omega)]
      rfl
    rw [e9]
    have c2 : (s_bK (T k) (bSide n P C T k) (nI n) (s_b1 (T k) (t, T, nS, S)) 3).1 = t + 1 := c1
    refine ⟨c2, ?_, ?_⟩
    · rw [c2] at b1
      exact b1.congr (fun v => tr_S_in1 h.ok.tri h.n17 e1 hiff v)
    · rw [show St' = cutSt St n a b from funext fun i => funext fun j => hSt i j]
      exact b2
end BW
