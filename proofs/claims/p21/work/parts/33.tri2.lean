/-! faces; what a change of some faces keeps -/
def tr_rot (a b c x y z : Nat) : Prop := (x = a ∧ y = b ∧ z = c) ∨ (x = b ∧ y = c ∧ z = a) ∨ (x = c ∧ y = a ∧ z = b)
theorem tr_rot.next {a b c x y z : Nat} (h : tr_rot a b c x y z) : tr_rot a b c y z x := by
  rcases h with ⟨rfl, rfl, rfl⟩ | ⟨rfl, rfl, rfl⟩ | ⟨rfl, rfl, rfl⟩
  · exact Or.inr (Or.inl ⟨rfl, rfl, rfl⟩)
  · exact Or.inr (Or.inr ⟨rfl, rfl, rfl⟩)
  · exact Or.inl ⟨rfl, rfl, rfl⟩
theorem tr_rot.refl (a b c : Nat) : tr_rot a b c a b c := Or.inl ⟨rfl, rfl, rfl⟩
theorem tr_rot.symm {a b c x y z : Nat} (h : tr_rot a b c x y z) : tr_rot x y z a b c := by
  rcases h with ⟨rfl, rfl, rfl⟩ | ⟨rfl, rfl, rfl⟩ | ⟨rfl, rfl, rfl⟩
  · exact Or.inl ⟨rfl, rfl, rfl⟩
  · exact Or.inr (Or.inr ⟨rfl, rfl, rfl⟩)
  · exact Or.inr (Or.inl ⟨rfl, rfl, rfl⟩)
theorem tr_rot.face {n : Nat} {P : Nat → g_P} {L : Nat → Nat → Option Nat} (h : tr_Tri n P L) {a b c x y z : Nat} (e : L a b = some c) (r : tr_rot a b c x y z) : L x y = some z := by
  rcases r with ⟨rfl, rfl, rfl⟩ | ⟨rfl, rfl, rfl⟩ | ⟨rfl, rfl, rfl⟩
  · exact e
  · exact h.rot e
  · exact h.rot2 e
theorem tr_rot.in {P : Nat → g_P} {a b c x y z : Nat} {Q : g_P} (r : tr_rot a b c x y z) (h : gIn (g_S (P a)) (g_S (P b)) (g_S (P c)) Q) : gIn (g_S (P x)) (g_S (P y)) (g_S (P z)) Q := by
  rcases r with ⟨rfl, rfl, rfl⟩ | ⟨rfl, rfl, rfl⟩ | ⟨rfl, rfl, rfl⟩
  · exact h
  · exact gIn_rot h
  · exact gIn_rot (gIn_rot h)
theorem tr_rot.inW {P : Nat → g_P} {a b c x y z : Nat} {q : g_P} (r : tr_rot a b c x y z) (h : gInW (P a) (P b) (P c) q) : gInW (P x) (P y) (P z) q := by
  rcases r with ⟨rfl, rfl, rfl⟩ | ⟨rfl, rfl, rfl⟩ | ⟨rfl, rfl, rfl⟩
  · exact h
  · exact gInW_rot h
  · exact gInW_rot (gInW_rot h)
theorem tr_Un.rot {n : Nat} {P : Nat → g_P} {L : Nat → Nat → Option Nat} (hT : tr_Tri n P L) (h : tr_Un n P L) {Q : g_P} (hQ : tr_Gen n P Q) {a b c x y z : Nat} (h1 : tr_In P L a b c Q) (h2 : tr_In P L x y z Q) : tr_rot a b c x y z := by
  rcases h Q hQ a b c x y z h1 h2 with ⟨rfl, rfl⟩ | ⟨rfl, rfl⟩ | ⟨rfl, rfl⟩
  · have := h1.1.symm.trans h2.1; cases this; exact tr_rot.refl _ _ _
  · have := (hT.rot h1.1).symm.trans h2.1; cases this; exact Or.inr (Or.inl ⟨rfl, rfl, rfl⟩)
  · have := (hT.rot2 h1.1).symm.trans h2.1; cases this; exact Or.inr (Or.inr ⟨rfl, rfl, rfl⟩)
def tr_sq (q : g_P) : Prop := 0 ≤ q.1 ∧ q.1 ≤ 30 ∧ 0 ≤ q.2 ∧ q.2 ≤ 30
def tr_Cov (P : Nat → g_P) (L : Nat → Nat → Option Nat) : Prop := ∀ q : g_P, tr_sq q → ∃ a b c, L a b = some c ∧ gInW (P a) (P b) (P c) q
def tr_Side (a b : g_P) : Prop := ∀ q, tr_sq q → 0 ≤ gO a b q
def tr_Bd (P : Nat → g_P) (L : Nat → Nat → Option Nat) : Prop := ∀ a b c, L a b = some c → L b a = none → tr_Side (P a) (P b)
def tr_E (L : Nat → Nat → Option Nat) (a b : Nat) : Prop := (∃ c, L a b = some c) ∨ ∃ c, L b a = some c
def tr_Conn (n : Nat) (L : Nat → Nat → Option Nat) : Prop := ∀ S : Nat → Prop, (∃ a, a < n ∧ S a) → (∀ a b, tr_E L a b → S a → S b) → ∀ b, b < n → S b
abbrev tr_Ok (n : Nat) (P : Nat → g_P) (L : Nat → Nat → Option Nat) : Prop := tr_Pos n P ∧ tr_Tri n P L ∧ tr_Un n P L ∧ tr_Cov P L ∧ tr_Bd P L ∧ tr_Conn n L
theorem tr_Ok.pos {n : Nat} {P : Nat → g_P} {L : Nat → Nat → Option Nat} (h : tr_Ok n P L) : tr_Pos n P := h.1
theorem tr_Ok.tri {n : Nat} {P : Nat → g_P} {L : Nat → Nat → Option Nat} (h : tr_Ok n P L) : tr_Tri n P L := h.2.1
theorem tr_Ok.un {n : Nat} {P : Nat → g_P} {L : Nat → Nat → Option Nat} (h : tr_Ok n P L) : tr_Un n P L := h.2.2.1
theorem tr_Ok.cov {n : Nat} {P : Nat → g_P} {L : Nat → Nat → Option Nat} (h : tr_Ok n P L) : tr_Cov P L := h.2.2.2.1
theorem tr_Ok.bd {n : Nat} {P : Nat → g_P} {L : Nat → Nat → Option Nat} (h : tr_Ok n P L) : tr_Bd P L := h.2.2.2.2.1
theorem tr_Ok.conn {n : Nat} {P : Nat → g_P} {L : Nat → Nat → Option Nat} (h : tr_Ok n P L) : tr_Conn n L := h.2.2.2.2.2
theorem tr_Un_re {n n' : Nat} {P : Nat → g_P} {L L' : Nat → Nat → Option Nat} {N O : Nat → Nat → Nat → Prop} (hn : n ≤ n') (hT : tr_Tri n P L) (hu : tr_Un n P L) (hL : ∀ x y z, L' x y = some z ↔ N x y z ∨ (L x y = some z ∧ ¬ O x y z)) (hO : ∀ x y z, O x y z → L x y = some z) (hr : ∀ x y z, O x y z → O y z x)
    (hNO : ∀ Q, tr_Gen n' P Q → ∀ x y z, N x y z → gIn (g_S (P x)) (g_S (P y)) (g_S (P z)) Q → ∃ a b c, O a b c ∧ gIn (g_S (P a)) (g_S (P b)) (g_S (P c)) Q)
    (hNN : ∀ Q, tr_Gen n' P Q → ∀ x y z x' y' z', N x y z → gIn (g_S (P x)) (g_S (P y)) (g_S (P z)) Q → N x' y' z' → gIn (g_S (P x')) (g_S (P y')) (g_S (P z')) Q → tr_rot x y z x' y' z') : tr_Un n' P L' := by
  intro Q hQ a b c a' b' c' h1 h2
  have hQn : tr_Gen n P Q := fun i j hi hj => hQ i j (by omega) (by omega)
  have fin : tr_rot a b c a' b' c' → (a' = a ∧ b' = b) ∨ (a' = b ∧ b' = c) ∨ (a' = c ∧ b' = a) := by
    rintro (⟨r1, r2, -⟩ | ⟨r1, r2, -⟩ | ⟨r1, r2, -⟩)
    · exact Or.inl ⟨r1, r2⟩
    · exact Or.inr (Or.inl ⟨r1, r2⟩)
    · exact Or.inr (Or.inr ⟨r1, r2⟩)
  have mix : ∀ x y z x' y' z', N x y z → gIn (g_S (P x)) (g_S (P y)) (g_S (P z)) Q → L x' y' = some z' → ¬ O x' y' z' → gIn (g_S (P x')) (g_S (P y')) (g_S (P z')) Q → False := by
    intro x y z x' y' z' k1 k2 k3 k4 k5
    obtain ⟨u, v, w, k6, k7⟩ := hNO Q hQ x y z k1 k2
    have r := tr_Un.rot hT hu hQn ⟨hO u v w k6, k7⟩ ⟨k3, k5⟩
    rcases r with ⟨rfl, rfl, rfl⟩ | ⟨rfl, rfl, rfl⟩ | ⟨rfl, rfl, rfl⟩
    · exact k4 k6
    · exact k4 (hr _ _ _ k6)
    · exact k4 (hr _ _ _ (hr _ _ _ k6))
  rcases (hL a b c).mp h1.1 with n1 | ⟨l1, o1⟩
  · rcases (hL a' b' c').mp h2.1 with n2 | ⟨l2, o2⟩
    · exact fin (hNN Q hQ _ _ _ _ _ _ n1 h1.2 n2 h2.2)
    · exact absurd (mix _ _ _ _ _ _ n1 h1.2 l2 o2 h2.2) id
  · rcases (hL a' b' c').mp h2.1 with n2 | ⟨l2, o2⟩
    · exact absurd (mix _ _ _ _ _ _ n2 h2.2 l1 o1 h1.2) id
    · exact fin (tr_Un.rot hT hu hQn ⟨l1, h1.2⟩ ⟨l2, h2.2⟩)
theorem tr_Cov_re {P : Nat → g_P} {L L' : Nat → Nat → Option Nat} {N O : Nat → Nat → Nat → Prop} (hu : tr_Cov P L) (hL : ∀ x y z, L' x y = some z ↔ N x y z ∨ (L x y = some z ∧ ¬ O x y z))
    (hON : ∀ q x y z, O x y z → gInW (P x) (P y) (P z) q → ∃ a b c, N a b c ∧ gInW (P a) (P b) (P c) q) : tr_Cov P L' := by
  intro q hq
  obtain ⟨a, b, c, h1, h2⟩ := hu q hq
  by_cases o : O a b c
  · obtain ⟨a', b', c', h3, h4⟩ := hON q a b c o h2
    exact ⟨a', b', c', (hL _ _ _).mpr (Or.inl h3), h4⟩
  · exact ⟨a, b, c, (hL _ _ _).mpr (Or.inr ⟨h1, o⟩), h2⟩
theorem tr_Bd_re {n : Nat} {P : Nat → g_P} {L L' : Nat → Nat → Option Nat} {N O : Nat → Nat → Nat → Prop} (hT : tr_Tri n P L) (hu : tr_Bd P L) (hL : ∀ x y z, L' x y = some z ↔ N x y z ∨ (L x y = some z ∧ ¬ O x y z))
    (h3 : ∀ x y z, O x y z → (∃ w, N x y w) ∨ ∃ w, O y x w)
    (h4 : ∀ x y z, N x y z → (∃ w, N y x w) ∨ ((∃ w, O x y w) ∧ ¬ ∃ w, O y x w) ∨ tr_Side (P x) (P y)) (hO : ∀ x y z, O x y z → L x y = some z) : tr_Bd P L' := by
  intro a b c h1 h2
  have no : ∀ w, ¬ (N b a w ∨ (L b a = some w ∧ ¬ O b a w)) := fun w k => by
    rw [(hL _ _ _).mpr k] at h2; cases h2
  rcases (hL _ _ _).mp h1 with k | ⟨k, k'⟩
  · rcases h4 _ _ _ k with ⟨w, q⟩ | ⟨⟨w, q⟩, q2⟩ | q
    · exact absurd (Or.inl q) (no w)
    · cases e : L b a with
      | none => exact hu _ _ _ (hO _ _ _ q) e
      | some v => exact absurd (Or.inr ⟨e, fun o => q2 ⟨v, o⟩⟩) (no v)
    · exact q
  · cases e : L b a with
    | none => exact hu _ _ _ k e
    | some v =>
      by_cases o : O b a v
      · rcases h3 _ _ _ o with ⟨w, q⟩ | ⟨w, q⟩
        · exact absurd (Or.inl q) (no w)
        · have := (hO _ _ _ q).symm.trans k
          cases this
          exact absurd q k'
      · exact absurd (Or.inr ⟨e, o⟩) (no v)
/-- the flip, by faces -/
theorem tr_flip_iff {n : Nat} {P : Nat → g_P} {L : Nat → Nat → Option Nat} {a b c d : Nat} (h : tr_Tri n P L) (q : tr_Quad n P L a b c d) (h1 : L c d = none) (h2 : L d c = none) (x y z : Nat) : tr_flip L a b c d x y = some z ↔ (tr_rot d c a x y z ∨ tr_rot c d b x y z) ∨ (L x y = some z ∧ ¬ (tr_rot a b c x y z ∨ tr_rot b a d x y z)) := by
  obtain ⟨qab, qba, q1, q2⟩ := q
  obtain ⟨ha, hb, hc, hp, e1⟩ := h a b c qab
  obtain ⟨-, -, hd, hp2, e2⟩ := h b a d qba
  have e3 := h.rot2 qab
  have e4 := h.rot2 qba
  obtain ⟨n1, n2, n3⟩ := tr_ne hp
  obtain ⟨n4, n5, n6⟩ := tr_ne hp2
  obtain ⟨n7, -, -⟩ := tr_ne q2
  unfold tr_flip tr_rot
  grind (splits := 40)
