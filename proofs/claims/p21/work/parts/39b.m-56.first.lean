/-! the first state -/
def P_0 : Nat → g_P := fun i => if i = 0 then (0, 0) else if i = 1 then (30, 0) else if i = 2 then (30, 30) else (0, 30)
def L_0 : Nat → Nat → Option Nat := tr_put (tr_put (fun _ _ => none) 0 1 2) 0 2 3
def f_0 : Nat → Nat := fun i => if i = 0 then 34 else 67
theorem L_0_iff (x y z : Nat) : L_0 x y = some z ↔ tr_rot 0 1 2 x y z ∨ tr_rot 0 2 3 x y z := by
  unfold L_0 tr_put tr_set3 tr_rot
  grind (splits := 60)
theorem P_00 : P_0 0 = (0, 0) := rfl
theorem P_01 : P_0 1 = (30, 0) := rfl
theorem P_02 : P_0 2 = (30, 30) := rfl
theorem P_03 : P_0 3 = (0, 30) := rfl
theorem Ok_0 : tr_Ok 4 P_0 L_0 := by
  have hT : tr_Tri 4 P_0 L_0 := by
    intro a b c e
    have nx : L_0 b c = some a := by
      rw [L_0_iff] at e ⊢
      rcases e with e | e
      · exact Or.inl e.next
      · exact Or.inr e.next
    rcases (L_0_iff _ _ _).mp e with (⟨rfl, rfl, rfl⟩ | ⟨rfl, rfl, rfl⟩ | ⟨rfl, rfl, rfl⟩) | (⟨rfl, rfl, rfl⟩ | ⟨rfl, rfl, rfl⟩ | ⟨rfl, rfl, rfl⟩) <;> exact ⟨by decide, by decide, by decide, by decide, nx⟩
  refine ⟨⟨?_, ?_⟩, hT, ?_, ?_, ?_, ?_⟩
  · intro i hi
    have : i = 0 ∨ i = 1 ∨ i = 2 ∨ i = 3 := by omega
    rcases this with rfl | rfl | rfl | rfl <;> decide
  · intro i j hi hj
    have h1 : i = 0 ∨ i = 1 ∨ i = 2 ∨ i = 3 := by omega
    have h2 : j = 0 ∨ j = 1 ∨ j = 2 ∨ j = 3 := by omega
    rcases h1 with rfl | rfl | rfl | rfl <;> rcases h2 with rfl | rfl | rfl | rfl <;> decide
  · intro Q hQ a b c a' b' c' h1 h2
    have fin : ∀ x y z, tr_rot x y z a b c → tr_rot x y z a' b' c' → (a' = a ∧ b' = b) ∨ (a' = b ∧ b' = c) ∨ (a' = c ∧ b' = a) := by
      intro x y z r r'
      rcases r.symm.trans r' with ⟨r1, r2, -⟩ | ⟨r1, r2, -⟩ | ⟨r1, r2, -⟩
      · exact Or.inl ⟨r1, r2⟩
      · exact Or.inr (Or.inl ⟨r1, r2⟩)
      · exact Or.inr (Or.inr ⟨r1, r2⟩)
    have no : gIn (g_S (P_0 0)) (g_S (P_0 1)) (g_S (P_0 2)) Q → gIn (g_S (P_0 0)) (g_S (P_0 2)) (g_S (P_0 3)) Q → False := by
      intro i1 i2
      have := gO_swap (g_S (P_0 0)) (g_S (P_0 2)) Q
      have := i1.2.2
      have := i2.1
      omega
    rcases (L_0_iff _ _ _).mp h1.1 with r | r <;> rcases (L_0_iff _ _ _).mp h2.1 with r' | r'
    · exact fin _ _ _ r r'
    · exact absurd (no (r.symm.in h1.2) (r'.symm.in h2.2)) id
    · exact absurd (no (r'.symm.in h2.2) (r.symm.in h1.2)) id
    · exact fin _ _ _ r r'
  · rintro ⟨x, y⟩ ⟨q1, q2, q3, q4⟩
    simp only at q1 q2 q3 q4
    rcases g_lg x y with w | w
    · refine ⟨0, 2, 3, (L_0_iff _ _ _).mpr (Or.inr (tr_rot.refl _ _ _)), ?_⟩
      unfold gInW gO
      rw [P_00, P_02, P_03]
      simp only
      omega
    · refine ⟨0, 1, 2, (L_0_iff _ _ _).mpr (Or.inl (tr_rot.refl _ _ _)), ?_⟩
      unfold gInW gO
      rw [P_00, P_01, P_02]
      simp only
      omega
  · intro a b c e1 e2
    have no : ∀ w, ¬ (tr_rot 0 1 2 b a w ∨ tr_rot 0 2 3 b a w) := fun w q => by
      rw [(L_0_iff _ _ _).mpr q] at e2; cases e2
    rintro ⟨x, y⟩ ⟨q1, q2, q3, q4⟩
    simp only at q1 q2 q3 q4
    rcases (L_0_iff _ _ _).mp e1 with (⟨rfl, rfl, rfl⟩ | ⟨rfl, rfl, rfl⟩ | ⟨rfl, rfl, rfl⟩) | (⟨rfl, rfl, rfl⟩ | ⟨rfl, rfl, rfl⟩ | ⟨rfl, rfl, rfl⟩)
    · unfold gO; rw [P_00, P_01]; simp only; omega
    · unfold gO; rw [P_01, P_02]; simp only; omega
    · exact absurd (Or.inr (tr_rot.refl _ _ _)) (no 3)
    · exact absurd (Or.inl (tr_rot.refl 0 1 2).next.next) (no 1)
    · unfold gO; rw [P_02, P_03]; simp only; omega
    · unfold gO; rw [P_03, P_00]; simp only; omega
  · intro S ⟨a, ha, hS⟩ hE
    have sy : ∀ x y z, L_0 x y = some z → (S x ↔ S y) := fun x y z hz => ⟨hE x y (Or.inl ⟨_, hz⟩), hE y x (Or.inr ⟨_, hz⟩)⟩
    have s1 := sy 0 1 2 ((L_0_iff _ _ _).mpr (Or.inl (tr_rot.refl _ _ _)))
    have s2 := sy 1 2 0 ((L_0_iff _ _ _).mpr (Or.inl (tr_rot.refl 0 1 2).next))
    have s3 := sy 2 3 0 ((L_0_iff _ _ _).mpr (Or.inr (tr_rot.refl 0 2 3).next))
    have h0 : S 0 := by
      have : a = 0 ∨ a = 1 ∨ a = 2 ∨ a = 3 := by omega
      rcases this with rfl | rfl | rfl | rfl
      · exact hS
      · exact s1.mpr hS
      · exact s1.mpr (s2.mpr hS)
      · exact s1.mpr (s2.mpr (s3.mpr hS))
    intro b hb
    have : b = 0 ∨ b = 1 ∨ b = 2 ∨ b = 3 := by omega
    rcases this with rfl | rfl | rfl | rfl
    · exact h0
    · exact s1.mp h0
    · exact s2.mp (s1.mp h0)
    · exact s3.mp (s2.mp (s1.mp h0))
theorem S_0_iff (z : Nat) : tr_S L_0 z ↔ z = 34 ∨ z = 67 := by
  constructor
  · rintro ⟨a, b, c, e, s⟩
    rcases (L_0_iff _ _ _).mp e with r | r
    · exact Or.inl (s.trans ((rot_sc r).trans (by decide)))
    · exact Or.inr (s.trans ((rot_sc r).trans (by decide)))
  · rintro (s | s)
    · exact ⟨0, 1, 2, (L_0_iff _ _ _).mpr (Or.inl (tr_rot.refl _ _ _)), s.trans (by decide)⟩
    · exact ⟨0, 2, 3, (L_0_iff _ _ _).mpr (Or.inr (tr_rot.refl _ _ _)), s.trans (by decide)⟩
theorem A_0 : ti_A 4 2 P_0 L_0 (fun _ _ => false) f_0 := by
  refine ⟨Ok_0, by decide, by decide, by decide, ⟨fun i j hi hj => ?_, fun i hi => ?_, fun z hz => ?_⟩, (fun a b q => by cases q), fun a b => rfl⟩
  · have : i = 0 ∧ j = 1 := by omega
    obtain ⟨rfl, rfl⟩ := this
    decide
  · have : i = 0 ∨ i = 1 := by omega
    rcases this with rfl | rfl
    · exact (S_0_iff _).mpr (Or.inl rfl)
    · exact (S_0_iff _).mpr (Or.inr rfl)
  · rcases (S_0_iff _).mp hz with rfl | rfl
    · exact ⟨0, by decide, rfl⟩
    · exact ⟨1, by decide, rfl⟩
theorem X_0 : ti_X 4 P_0 i_xs i_ys := by
  intro i hi
  have : i = 0 ∨ i = 1 ∨ i = 2 ∨ i = 3 := by omega
  rcases this with rfl | rfl | rfl | rfl <;> decide +kernel
theorem Xr_0 : ti_X 4 P_0 i_rx i_ry := by
  intro i hi
  have : i = 0 ∨ i = 1 ∨ i = 2 ∨ i = 3 := by omega
  rcases this with rfl | rfl | rfl | rfl <;> decide +kernel
theorem r_0 : ti_r 4 2 P_0 (fun _ _ => false) f_0 i_rx i_ry i_rt (fun _ _ => 0) := by
  refine ⟨Xr_0, fun k hk => ?_, fun a b _ _ => rfl⟩
  have : k = 0 ∨ k = 1 := by omega
  rcases this with rfl | rfl <;> decide +kernel
theorem m_0 : i_t = 2 ∧ ti_m 4 2 P_0 L_0 (fun _ _ => false) f_0 i_xs i_ys i_lf (fun _ => 0) i_co := by
  have hP : ∀ i, i < 4 → tr_sq (P_0 i) := fun i hi => A_0.sq i hi
  have l0 : ti_L (fun _ _ => none) (fun _ => (-1 : Int32)) := fun a b _ _ => rfl
  have l1 := addT_l (n := 4) X_0 (by decide) hP l0 (a := 0) (b := 1) (c := 2) (by decide) (by decide) (by decide) (by decide)
  have l2 := addT_l (n := 4) X_0 (by decide) hP l1 (a := 0) (b := 2) (c := 3) (by decide) (by decide) (by decide) (by decide)
  have l3 : ti_L L_0 i_lf := l2
  obtain ⟨e1, e2⟩ := list_eq (n := 4) A_0.ok.tri (by decide) l3 A_0.en (by decide) (fun _ => 0)
  exact ⟨e1, X_0, l3, fun a b _ _ => rfl, e2⟩

