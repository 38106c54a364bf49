/-! what the law's moor tells, as the second picture does -/
theorem nI_sub2 {s a b : Nat} (h : a + b ≤ s) : nI s - nI a - nI b = nI (s - a - b) := by
  rw [iN_nI, iN_nI, iN_nI, iN_nI, iN_sub, iN_sub]
  congr 1
  omega
theorem s_has_or {r : Nat → Int32} {c : Int32} (h : s_has r c = true) : r 0 = c ∨ r 1 = c ∨ r 2 = c := by
  unfold s_has at h
  by_cases h0 : r 0 = c
  · exact Or.inl h0
  · by_cases h1 : r 1 = c
    · exact Or.inr (Or.inl h1)
    · by_cases h2 : r 2 = c
      · exact Or.inr (Or.inr h2)
      · rw [if_neg h0, if_neg h1, if_neg h2] at h; cases h
theorem s_mt_and {r : Nat → Int32} {a b : Int32} (h : s_mt r a b = true) : ¬ a = b ∧ s_has r a = true ∧ s_has r b = true := by
  unfold s_mt at h
  by_cases h0 : a = b
  · rw [if_pos h0] at h; cases h
  · rw [if_neg h0] at h
    by_cases h1 : s_has r a = true
    · rw [if_pos h1] at h; exact ⟨h0, h1, h⟩
    · rw [if_neg h1] at h; cases h
section TV
variable {n t : Nat} {P : Nat → g_P} {L : Nat → Nat → Option Nat} {St : Nat → Nat → Bool} {f : Nat → Nat} {T : Nat → Nat → Int32} {tb : Nat → Int32} {k : Nat}
theorem sv_z (h : ti_A n t P L St f) (hT : ti_T t f tb) (hV : sv_T t T tb) (hk : k < t) : sr_z (f k) (T k) := by
  obtain ⟨z, hz, e, r⟩ := hV k hk
  have h1 := (ti_k h hk).2.2.2.1
  rw [hT k hk] at e
  rw [(nI_eq (by omega) (by omega)).mp e]; exact r
theorem sv_mtA (h : ti_A n t P L St f) (hT : ti_T t f tb) (hV : sv_T t T tb) (hk : k < t) {a b : Int32} (hm : s_mt (T k) a b = true) : ∃ a' b' c, a' < n ∧ b' < n ∧ c < n ∧ a = nI a' ∧ b = nI b' ∧ s_its (T k) a b = nI c ∧ (L a' b' = some c ∨ L b' a' = some c) ∧ f k = sc a' b' c := by
  obtain ⟨k1, k2, k3, k4, k5⟩ := ti_k h hk
  have hn := h.n17
  obtain ⟨r0, r1, r2⟩ := sv_z h hT hV hk
  have e0 : f k = (f k / 32 / 32 * 32 + f k / 32 % 32) * 32 + f k % 32 := by omega
  generalize f k / 32 / 32 = x at k1 k5 r0 e0
  generalize f k / 32 % 32 = y at k1 k2 k5 r1 e0
  generalize f k % 32 = z at k2 k3 k5 r2 e0
  obtain ⟨hne, ha, hb⟩ := s_mt_and hm
  have fin : ∀ u v w : Nat, u < n → v < n → w < n → u + v + w = x + y + z → sc u v w = (x * 32 + y) * 32 + z → (L u v = some w ∨ L v u = some w) → a = nI u → b = nI v → ∃ a' b' c, a' < n ∧ b' < n ∧ c < n ∧ a = nI a' ∧ b = nI b' ∧ s_its (T k) a b = nI c ∧ (L a' b' = some c ∨ L b' a' = some c) ∧ f k = sc a' b' c := fun u v w h1 h2 h3 h4 h5 h6 h7 h8 => by
    refine ⟨u, v, w, h1, h2, h3, h7, h8, ?_, h6, by rw [e0, h5]⟩
    unfold s_its
    rw [r0, r1, r2, h7, h8, nI_add, nI_add, nI_sub2 (by omega)]
    congr 1; omega
  have s1 : ∀ u v w : Nat, min u (min v w) = x → max u (max v w) = z → u + v + w = x + y + z → sc u v w = (x * 32 + y) * 32 + z := fun u v w h1 h2 h3 => by
    unfold sc; rw [h1, h2, show u + v + w - x - z = y by omega]
  have hL : (L x y = some z ∧ L y z = some x ∧ L z x = some y) ∨ (L x z = some y ∧ L z y = some x ∧ L y x = some z) := by
    rcases k5 with q | q
    · exact Or.inl ⟨q, (h.ok.tri x y z q).2.2.2.2, h.ok.tri.rot2 q⟩
    · exact Or.inr ⟨q, (h.ok.tri x z y q).2.2.2.2, h.ok.tri.rot2 q⟩
  rcases s_has_or ha with q | q | q <;> rcases s_has_or hb with w | w | w
  · exact absurd (q.symm.trans w) hne
  · refine fin x y z (by omega) (by omega) k3 rfl (s1 _ _ _ (by omega) (by omega) rfl) ?_ (q.symm.trans r0) (w.symm.trans r1)
    rcases hL with m | m
    · exact Or.inl m.1
    · exact Or.inr m.2.2
  · refine fin x z y (by omega) k3 (by omega) (by omega) (s1 _ _ _ (by omega) (by omega) (by omega)) ?_ (q.symm.trans r0) (w.symm.trans r2)
    rcases hL with m | m
    · exact Or.inr m.2.2
    · exact Or.inl m.1
  · refine fin y x z (by omega) (by omega) k3 (by omega) (s1 _ _ _ (by omega) (by omega) (by omega)) ?_ (q.symm.trans r1) (w.symm.trans r0)
    rcases hL with m | m
    · exact Or.inr m.1
    · exact Or.inl m.2.2
  · exact absurd (q.symm.trans w) hne
  · refine fin y z x (by omega) k3 (by omega) (by omega) (s1 _ _ _ (by omega) (by omega) (by omega)) ?_ (q.symm.trans r1) (w.symm.trans r2)
    rcases hL with m | m
    · exact Or.inl m.2.1
    · exact Or.inr m.2.1
  · refine fin z x y k3 (by omega) (by omega) (by omega) (s1 _ _ _ (by omega) (by omega) (by omega)) ?_ (q.symm.trans r2) (w.symm.trans r0)
    rcases hL with m | m
    · exact Or.inl m.2.2
    · exact Or.inr m.1
  · refine fin z y x k3 (by omega) (by omega) (by omega) (s1 _ _ _ (by omega) (by omega) (by omega)) ?_ (q.symm.trans r2) (w.symm.trans r1)
    rcases hL with m | m
    · exact Or.inr m.2.1
    · exact Or.inl m.2.1
  · exact absurd (q.symm.trans w) hne
theorem sv_mt (h : ti_A n t P L St f) (hT : ti_T t f tb) (hV : sv_T t T tb) (hk : k < t) (a b : Int32) : s_mt (T k) a b = r_pS tb a b k := by
  have ht := ti_t28 h
  have e := sv_far hV (by omega) hk a b
  cases q : s_mt (T k) a b with
  | true =>
    obtain ⟨_, _, c, _, _, hc, _, _, hi, _⟩ := sv_mtA h hT hV hk q
    have hn := h.n17
    rw [q, if_pos rfl, hi] at e
    exact (r_pS_iff.mpr (by rw [e]; exact nI_m19w (by omega))).symm
  | false =>
    rw [q, if_neg (by decide)] at e
    cases w : r_pS tb a b k with
    | false => rfl
    | true => exact absurd e (r_pS_iff.mp w)
theorem sv_ct (h : ti_A n t P L St f) (hT : ti_T t f tb) (hV : sv_T t T tb) (a b : Int32) : ∀ m, m ≤ t → s_ct T a b m = rg_ct (r_pS tb a b) m := fun m hm => rg_ct_congr (p := fun k => s_mt (T k) a b) fun j hj => sv_mt h hT hV (by omega) a b
theorem sv_fa (h : ti_A n t P L St f) (hT : ti_T t f tb) (hV : sv_T t T tb) (a b : Int32) : ∀ m, m ≤ t → (s_fa T a b m).1 = min 2 (s_ct T a b m) ∧ (0 < s_ct T a b m → (s_fa T a b m).2.1 = r_fr tb a b 1 m ∧ ¬ r_fr tb a b 1 m = -1) ∧ (s_ct T a b m = 0 → r_fr tb a b 1 m = -1) ∧ (2 ≤ s_ct T a b m → (s_fa T a b m).2.2 = r_fr tb a b 0 m)
  | 0, _ => ⟨rfl, fun q => absurd q (Nat.lt_irrefl 0), fun _ => rfl, fun q => absurd q (show ¬ 2 ≤ 0 from by decide)⟩
  | m + 1, hm => by
    have ht := ti_t28 h
    obtain ⟨i1, i2, i3, i4⟩ := sv_fa h hT hV a b m (by omega)
    have e := sv_far hV (by omega) (show m < t by omega) a b
    have u1 : r_fr tb a b 1 (m + 1) = if r_far tb (nI m) a b = (-1) then r_fr tb a b 1 m else if (1 : Int32) = 0 then r_far tb (nI m) a b else if r_fr tb a b 1 m = (-1) then r_far tb (nI m) a b else r_fr tb a b 1 m := rfl
    have u0 : r_fr tb a b 0 (m + 1) = if r_far tb (nI m) a b = (-1) then r_fr tb a b 0 m else if (0 : Int32) = 0 then r_far tb (nI m) a b else if r_fr tb a b 0 m = (-1) then r_far tb (nI m) a b else r_fr tb a b 0 m := rfl
    cases q : s_mt (T m) a b with
    | false =>
      rw [q, if_neg (by decide)] at e
      rw [s_fa_no q, s_ct_no q, u1, u0, if_pos e, if_pos e]
      exact ⟨i1, i2, i3, i4⟩
    | true =>
      obtain ⟨_, _, c, _, _, hc, _, _, hi, _⟩ := sv_mtA h hT hV (show m < t by omega) q
      have hn := h.n17
      rw [q, if_pos rfl] at e
      have ne : ¬ r_far tb (nI m) a b = -1 := by rw [e, hi]; exact nI_m19w (by omega)
      rw [s_ct_yes q, u1, u0, if_neg ne, if_neg ne, if_neg (by decide), if_pos rfl]
      by_cases z : s_ct T a b m = 0
      · have z1 : (s_fa T a b m).1 = 0 := by rw [i1, z]; rfl
        rw [s_fa_1 q (by rw [z1]; rfl), if_pos (i3 z), z]
        exact ⟨rfl, fun _ => ⟨e.symm, ne⟩, fun w => absurd w (by decide), fun w => absurd w (by decide)⟩
      · have z1 : ¬ nI (s_fa T a b m).1 = 0 := fun w => by
          have := s_fa_le (T := T) (a := a) (b := b) m
          have w2 := (nI_eq (a := (s_fa T a b m).1) (b := 0) (by omega) (by decide)).mp w
          omega
        rw [s_fa_2 q z1, if_neg (i2 (by omega)).2]
        exact ⟨by show 2 = _; omega, fun _ => i2 (by omega), fun w => absurd w (by omega), fun _ => e.symm⟩
theorem sv_ct2 (h : ti_A n t P L St f) (hT : ti_T t f tb) (hV : sv_T t T tb) {a b : Nat} (ha : a < n) (hb : b < n) : s_ct T (nI a) (nI b) t = (if (L a b).isSome then 1 else 0) + (if (L b a).isSome then 1 else 0) := by
  have ht := ti_t28 h
  have e := r_sides_eq h hT ha hb
  have c1 : r_sides t tb (nI a) (nI b) = nI (rg_ct (r_pS tb (nI a) (nI b)) t) := rfl
  rw [c1, ← sv_ct h hT hV (nI a) (nI b) t (Nat.le_refl t)] at e
  have c2 := s_ct_le (nT := t) (T := T) (a := nI a) (b := nI b)
  refine (nI_eq (by omega) ?_).mp e
  split <;> split <;> decide
theorem sv_ct0 (h : ti_A n t P L St f) (hT : ti_T t f tb) (hV : sv_T t T tb) {a b : Int32} (hc : 0 < s_ct T a b t) : ∃ a' b', a' < n ∧ b' < n ∧ a = nI a' ∧ b = nI b' := by
  have key : ∀ m, m ≤ t → 0 < s_ct T a b m → ∃ k, k < m ∧ s_mt (T k) a b = true := by
    intro m
    induction m with
    | zero => intro _ q; exact absurd q (Nat.lt_irrefl 0)
    | succ m ih =>
      intro hm q
      cases w : s_mt (T m) a b with
      | true => exact ⟨m, Nat.lt_succ_self m, w⟩
      | false =>
        rw [s_ct_no w] at q
        obtain ⟨k, hk, e⟩ := ih (by omega) q
        exact ⟨k, by omega, e⟩
  obtain ⟨k, hk, e⟩ := key t (Nat.le_refl t) hc
  obtain ⟨a', b', _, h1, h2, _, h3, h4, _⟩ := sv_mtA h hT hV hk e
  exact ⟨a', b', h1, h2, h3, h4⟩
/-- both far corners, in one order or the other -/
theorem sv_two (h : ti_A n t P L St f) (hT : ti_T t f tb) (hV : sv_T t T tb) {a b c d : Nat} (ha : a < n) (hb : b < n) (e1 : L a b = some c) (e2 : L b a = some d) : (s_fa T (nI a) (nI b) t).1 = 2 ∧ (((s_fa T (nI a) (nI b) t).2.1 = nI c ∧ (s_fa T (nI a) (nI b) t).2.2 = nI d) ∨ ((s_fa T (nI a) (nI b) t).2.1 = nI d ∧ (s_fa T (nI a) (nI b) t).2.2 = nI c)) := by
  obtain ⟨i1, i2, -, i4⟩ := sv_fa h hT hV (nI a) (nI b) t (Nat.le_refl t)
  have hc := sv_ct2 h hT hV ha hb
  rw [e1, e2] at hc
  have hc2 : s_ct T (nI a) (nI b) t = 2 := hc
  refine ⟨by rw [i1, hc2]; rfl, ?_⟩
  rw [(i2 (by omega)).1, i4 (by omega)]
  exact fr2 (h.R hT) ha hb e1 e2
theorem sv_okF (h : ti_A n t P L St f) (hT : ti_T t f tb) (hV : sv_T t T tb) : s_okF n t T := by
  intro a b h2
  have i1 := (sv_fa h hT hV a b t (Nat.le_refl t)).1
  obtain ⟨a', b', ha, hb, rfl, rfl⟩ := sv_ct0 (a := a) (b := b) h hT hV (by omega)
  have hc := sv_ct2 h hT hV ha hb
  have hn := h.n17
  have hvp : ∀ c, c < n → vp_in (nI c) n := fun c hc q => by
    rcases q with q | q
    · exact nI_pos (by omega) q
    · rw [nI_clamp (by omega)] at q; omega
  cases e1 : L a' b' with
  | none => rw [e1] at hc; exfalso; cases e2 : L b' a' <;> rw [e2] at hc <;> simp at hc <;> omega
  | some c =>
    cases e2 : L b' a' with
    | none => rw [e1, e2] at hc; exfalso; simp at hc; omega
    | some d =>
      obtain ⟨-, q⟩ := sv_two h hT hV ha hb e1 e2
      have lc := (h.lt e1).2.2
      have ld := (h.lt e2).2.2
      rcases q with ⟨q1, q2⟩ | ⟨q1, q2⟩
      · rw [q1, q2]; exact ⟨hvp c lc, hvp d ld⟩
      · rw [q1, q2]; exact ⟨hvp d ld, hvp c lc⟩
theorem sv_okR (h : ti_A n t P L St f) (hT : ti_T t f tb) (hV : sv_T t T tb) : ∀ k : Nat, k < t → ∀ j : Nat, j < 3 → vp_in (T k j) n := by
  intro k hk j hj
  obtain ⟨k1, k2, k3, k4, -⟩ := ti_k h hk
  obtain ⟨r0, r1, r2⟩ := sv_z h hT hV hk
  have hn := h.n17
  have hvp : ∀ c, c < n → vp_in (nI c) n := fun c hc q => by
    rcases q with q | q
    · exact nI_pos (by omega) q
    · rw [nI_clamp (by omega)] at q; omega
  rcases (show j = 0 ∨ j = 1 ∨ j = 2 by omega) with rfl | rfl | rfl
  · rw [r0]; exact hvp _ (by omega)
  · rw [r1]; exact hvp _ (by omega)
  · rw [r2]; exact hvp _ (by omega)
end TV
