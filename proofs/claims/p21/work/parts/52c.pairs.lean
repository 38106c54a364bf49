/-! the edges that stay, as pairs without an order -/
def pc (a b : Nat) : Nat := min a b * 32 + max a b
theorem pc_iff {a b c d : Nat} (ha : a < 32) (hb : b < 32) (hc : c < 32) (hd : d < 32) : pc a b = pc c d ↔ (a = c ∧ b = d) ∨ (a = d ∧ b = c) := by
  unfold pc; omega
theorem pc_swap (a b : Nat) : pc a b = pc b a := by unfold pc; omega
def ls_ (Q : Nat → Prop) (m : Nat) (g : Nat → Nat) : Prop := (∀ i j, i < m → j < m → g i = g j → i = j) ∧ (∀ i, i < m → Q (g i)) ∧ ∀ z, Q z → ∃ i, i < m ∧ g i = z
def sr_p (z : Nat) (r : Nat → Int32) : Prop := ∃ a b, a < 32 ∧ b < 32 ∧ z = pc a b ∧ r 0 = nI a ∧ r 1 = nI b
def sv_L (Q : Nat → Prop) (m : Nat) (S : Nat → Nat → Int32) : Prop := ∃ g, ls_ Q m g ∧ ∀ j, j < m → sr_p (g j) (S j)
theorem s_pr_iff {z : Nat} {r : Nat → Int32} (h : sr_p z r) {a b : Nat} (ha : a < 32) (hb : b < 32) : s_pr r (nI a) (nI b) = true ↔ z = pc a b := by
  obtain ⟨c, d, hc, hd, rfl, e0, e1⟩ := h
  have q : ∀ x y : Nat, x < 32 → y < 32 → (nI x = nI y ↔ x = y) := fun x y hx hy => nI_eq (by omega) (by omega)
  rw [pc_iff hc hd ha hb]
  unfold s_pr
  rw [e0, e1]
  simp only [q c a hc ha, q d b hd hb, q c b hc hb, q d a hd ha]
  by_cases h1 : c = a <;> by_cases h2 : d = b <;> by_cases h3 : c = b <;> by_cases h4 : d = a <;> simp [h1, h2, h3, h4] <;> omega
section SL
variable {Q Q' : Nat → Prop} {m : Nat} {S : Nat → Nat → Int32} {a b c : Nat}
theorem sv_L.congr (h : sv_L Q m S) (e : ∀ z, Q' z ↔ Q z) : sv_L Q' m S := by
  obtain ⟨g, ⟨h1, h2, h3⟩, h4⟩ := h
  exact ⟨g, ⟨h1, fun i hi => (e _).mpr (h2 i hi), fun z hz => h3 z ((e z).mp hz)⟩, h4⟩
theorem sv_L.at (h : sv_L Q m S) (ha : a < 32) (hb : b < 32) : (∃ j, j < m ∧ s_pS S (nI a) (nI b) j = true) ↔ Q (pc a b) := by
  obtain ⟨g, ⟨h1, h2, h3⟩, h4⟩ := h
  constructor
  · rintro ⟨j, hj, e⟩
    have := (s_pr_iff (h4 j hj) ha hb).mp e
    rw [← this]; exact h2 j hj
  · intro q
    obtain ⟨j, hj, e⟩ := h3 _ q
    exact ⟨j, hj, (s_pr_iff (h4 j hj) ha hb).mpr e⟩
theorem sv_L.stay (h : sv_L Q m S) (ha : a < 32) (hb : b < 32) : s_stay m S (nI a) (nI b) = true ↔ Q (pc a b) := by
  rw [← h.at ha hb]
  constructor
  · intro q
    apply Classical.byContradiction
    intro w
    have := s_stay_none (nS := m) (S := S) (a := nI a) (b := nI b) (fun j hj => by
      cases e : s_pS S (nI a) (nI b) j with
      | false => rfl
      | true => exact absurd ⟨j, hj, e⟩ w)
    rw [q] at this; cases this
  · intro q
    obtain ⟨i, e, hi, h1, h2⟩ := rg_fst_ex q
    exact s_stay_some h1 h2 hi
theorem sv_L.less (h : sv_L Q m S) (ha : a < 32) (hb : b < 32) (q : Q (pc a b)) : ∃ j, j < m ∧ s_pS S (nI a) (nI b) j = true ∧ (∀ i, i < j → s_pS S (nI a) (nI b) i = false) ∧ sv_L (fun x => Q x ∧ x ≠ pc a b) (m - 1) (s_less S j) := by
  obtain ⟨i, e, hi, h1, h2⟩ := rg_fst_ex ((h.at ha hb).mpr q)
  refine ⟨i, hi, h1, h2, ?_⟩
  obtain ⟨g, ⟨g1, g2, g3⟩, g4⟩ := h
  have gi := (s_pr_iff (g4 i hi) ha hb).mp h1
  refine ⟨s_less g i, ⟨fun x y hx hy w => ?_, fun x hx => ?_, fun z hz => ?_⟩, fun x hx => ?_⟩
  · unfold s_less at w
    by_cases u1 : x < i <;> by_cases u2 : y < i
    · rw [if_pos u1, if_pos u2] at w; exact g1 _ _ (by omega) (by omega) w
    · rw [if_pos u1, if_neg u2] at w; have := g1 _ _ (by omega) (by omega) w; omega
    · rw [if_neg u1, if_pos u2] at w; have := g1 _ _ (by omega) (by omega) w; omega
    · rw [if_neg u1, if_neg u2] at w; have := g1 _ _ (by omega) (by omega) w; omega
  · unfold s_less
    by_cases u1 : x < i
    · rw [if_pos u1]; exact ⟨g2 x (by omega), fun w => by have := g1 x i (by omega) hi (w.trans gi.symm); omega⟩
    · rw [if_neg u1]; exact ⟨g2 _ (by omega), fun w => by have := g1 (x + 1) i (by omega) hi (w.trans gi.symm); omega⟩
  · obtain ⟨y, hy, e⟩ := g3 z hz.1
    have ne : y ≠ i := fun w => hz.2 (by rw [← e, w]; exact gi)
    by_cases u : y < i
    · exact ⟨y, by omega, by unfold s_less; rw [if_pos u]; exact e⟩
    · exact ⟨y - 1, by omega, by unfold s_less; rw [if_neg (by omega), show y - 1 + 1 = y by omega]; exact e⟩
  · unfold s_less
    by_cases u1 : x < i
    · rw [if_pos u1, if_pos u1]; exact g4 x (by omega)
    · rw [if_neg u1, if_neg u1]; exact g4 _ (by omega)
theorem sv_L.more (h : sv_L Q m S) (ha : a < 32) (hb : b < 32) (q : ¬ Q (pc a b)) : sv_L (fun x => Q x ∨ x = pc a b) (m + 1) (s_more S m (s2 (nI a) (nI b))) := by
  obtain ⟨g, ⟨g1, g2, g3⟩, g4⟩ := h
  refine ⟨s_more g m (pc a b), ⟨fun x y hx hy w => ?_, fun x hx => ?_, fun z hz => ?_⟩, fun x hx => ?_⟩
  · unfold s_more at w
    by_cases u1 : x = m <;> by_cases u2 : y = m
    · omega
    · rw [if_pos u1, if_neg u2] at w; exact absurd (g2 y (by omega)) (by rw [← w]; exact q)
    · rw [if_neg u1, if_pos u2] at w; exact absurd (g2 x (by omega)) (by rw [w]; exact q)
    · rw [if_neg u1, if_neg u2] at w; exact g1 x y (by omega) (by omega) w
  · unfold s_more
    by_cases u : x = m
    · rw [if_pos u]; exact Or.inr rfl
    · rw [if_neg u]; exact Or.inl (g2 x (by omega))
  · rcases hz with hz | hz
    · obtain ⟨y, hy, e⟩ := g3 z hz
      exact ⟨y, by omega, by unfold s_more; rw [if_neg (by omega)]; exact e⟩
    · exact ⟨m, by omega, by unfold s_more; rw [if_pos rfl]; exact hz.symm⟩
  · unfold s_more
    by_cases u : x = m
    · rw [if_pos u, if_pos u]; exact ⟨a, b, ha, hb, rfl, rfl, rfl⟩
    · rw [if_neg u, if_neg u]; exact g4 x (by omega)
theorem sv_L.pos (h : sv_L Q m S) {z : Nat} (q : Q z) : 1 ≤ m := by
  obtain ⟨g, ⟨-, -, h3⟩, -⟩ := h
  obtain ⟨j, hj, -⟩ := h3 z q
  omega
theorem sv_L.fix (h : sv_L Q m S) (ha : a < 32) (hb : b < 32) (z : Bool) : sv_L (fun x => if x = pc a b then z = true else Q x) (s_fixS m S (nI a) (nI b) z).1 (s_fixS m S (nI a) (nI b) z).2 := by
  by_cases q : Q (pc a b)
  · have st := (h.stay ha hb).mpr q
    cases z with
    | true =>
      rw [s_fixS_t rfl st]
      refine h.congr fun x => ?_
      by_cases w : x = pc a b
      · rw [if_pos w, w]; exact ⟨fun _ => q, fun _ => rfl⟩
      · rw [if_neg w]
    | false =>
      obtain ⟨j, hj, h1, h2, h3⟩ := h.less ha hb q
      rw [s_fixS_l rfl h1 h2 hj]
      refine h3.congr fun x => ?_
      by_cases w : x = pc a b
      · rw [if_pos w]; exact ⟨fun w2 => absurd w2 (by decide), fun w2 => absurd w w2.2⟩
      · rw [if_neg w]; exact ⟨fun w2 => ⟨w2, w⟩, fun w2 => w2.1⟩
  · have st : s_stay m S (nI a) (nI b) = false := by
      cases e : s_stay m S (nI a) (nI b) with
      | false => rfl
      | true => exact absurd ((h.stay ha hb).mp e) q
    cases z with
    | true =>
      rw [s_fixS_m rfl st]
      refine (h.more ha hb q).congr fun x => ?_
      by_cases w : x = pc a b
      · rw [if_pos w]; exact ⟨fun _ => Or.inr w, fun _ => rfl⟩
      · rw [if_neg w]; exact ⟨Or.inl, fun w2 => w2.elim id (fun w3 => absurd w3 w)⟩
    | false =>
      rw [s_fixS_f rfl st]
      refine h.congr fun x => ?_
      by_cases w : x = pc a b
      · rw [if_pos w, w]; exact ⟨fun w2 => absurd w2 (by decide), fun w2 => absurd w2 q⟩
      · rw [if_neg w]
theorem sv_L.cut (h : sv_L Q m S) (ha : a < 32) (hb : b < 32) (hc : c < 32) (hab : a ≠ b) (q : Q (pc a b)) (n1 : ¬ Q (pc a c)) (n2 : ¬ Q (pc b c)) : (s_cutS m S (nI a) (nI b) (nI c)).1 = m + 1 ∧ sv_L (fun x => ((Q x ∧ x ≠ pc a b) ∨ x = pc a c) ∨ x = pc b c) (s_cutS m S (nI a) (nI b) (nI c)).1 (s_cutS m S (nI a) (nI b) (nI c)).2 := by
  obtain ⟨j, hj, h1, h2, h3⟩ := h.less ha hb q
  rw [s_cutS_some h1 h2 hj]
  have h4 := h3.more ha hc (fun w => n1 w.1)
  have h5 := h4.more hb hc (fun w => w.elim (fun w => n2 w.1) (fun w => by rcases (pc_iff hb hc ha hc).mp w with w | w <;> omega))
  exact ⟨by show m - 1 + 1 + 1 = m + 1; omega, h5⟩
theorem sv_L.cut0 (h : sv_L Q m S) (ha : a < 32) (hb : b < 32) (q : ¬ Q (pc a b)) : s_cutS m S (nI a) (nI b) (nI c) = (m, S) := s_cutS_none fun k hk => by
  cases e : s_pS S (nI a) (nI b) k with
  | false => rfl
  | true => exact absurd ((h.at ha hb).mp ⟨k, hk, e⟩) q
end SL
/-- the pairs of a table of edges that stay -/
def qS (St : Nat → Nat → Bool) (z : Nat) : Prop := ∃ a b, a < 17 ∧ b < 17 ∧ z = pc a b ∧ St a b = true
theorem qS_iff {St : Nat → Nat → Bool} (hs : ∀ a b, St a b = St b a) {a b : Nat} (ha : a < 17) (hb : b < 17) : qS St (pc a b) ↔ St a b = true := by
  constructor
  · rintro ⟨c, d, hc, hd, e, q⟩
    rcases (pc_iff (by omega) (by omega) (by omega) (by omega)).mp e with ⟨rfl, rfl⟩ | ⟨rfl, rfl⟩
    · exact q
    · rw [hs]; exact q
  · intro q; exact ⟨a, b, ha, hb, rfl, q⟩
theorem qS_set {St : Nat → Nat → Bool} (hs : ∀ a b, St a b = St b a) {a b : Nat} (ha : a < 17) (hb : b < 17) (v : Bool) (x : Nat) : qS (st_set St a b v) x ↔ (if x = pc a b then v = true else qS St x) := by
  by_cases w : x = pc a b
  · rw [if_pos w]
    constructor
    · rintro ⟨c, d, hc, hd, e, q⟩
      rw [e] at w
      have := (pc_iff (by omega) (by omega) (by omega) (by omega)).mp w
      unfold st_set at q
      rw [if_pos (by omega)] at q; exact q
    · intro q
      refine ⟨a, b, ha, hb, w, ?_⟩
      unfold st_set; rw [if_pos (Or.inl ⟨rfl, rfl⟩)]; exact q
  · rw [if_neg w]
    constructor
    · rintro ⟨c, d, hc, hd, e, q⟩
      refine ⟨c, d, hc, hd, e, ?_⟩
      unfold st_set at q
      rw [if_neg (fun y => w (e.trans ((pc_iff (by omega) (by omega) (by omega) (by omega)).mpr (by omega))))] at q; exact q
    · rintro ⟨c, d, hc, hd, e, q⟩
      refine ⟨c, d, hc, hd, e, ?_⟩
      unfold st_set
      rw [if_neg (fun y => w (e.trans ((pc_iff (by omega) (by omega) (by omega) (by omega)).mpr (by omega))))]; exact q
theorem st_set_sym {St : Nat → Nat → Bool} (hs : ∀ a b, St a b = St b a) (a b : Nat) (v : Bool) : ∀ i j, st_set St a b v i j = st_set St a b v j i := by
  intro i j
  unfold st_set
  by_cases w : (i = a ∧ j = b) ∨ (i = b ∧ j = a)
  · rw [if_pos w, if_pos (by omega)]
  · rw [if_neg w, if_neg (by omega), hs]
