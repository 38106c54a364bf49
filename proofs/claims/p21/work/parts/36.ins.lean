/-! a new cairn keeps all -/
theorem tr_Tri_re {n n' : Nat} {P : Nat → g_P} {L L' : Nat → Nat → Option Nat} {N O : Nat → Nat → Nat → Prop} (hn : n ≤ n') (hT : tr_Tri n P L) (hL : ∀ x y z, L' x y = some z ↔ N x y z ∨ (L x y = some z ∧ ¬ O x y z)) (hr : ∀ x y z, O x y z → O y z x)
    (hN : ∀ x y z, N x y z → x < n' ∧ y < n' ∧ z < n' ∧ 0 < gO (P x) (P y) (P z)) (hNr : ∀ x y z, N x y z → N y z x) : tr_Tri n' P L' := by
  intro x y z hz
  rcases (hL _ _ _).mp hz with k | ⟨k, k'⟩
  · obtain ⟨h1, h2, h3, h4⟩ := hN _ _ _ k
    exact ⟨h1, h2, h3, h4, (hL _ _ _).mpr (Or.inl (hNr _ _ _ k))⟩
  · obtain ⟨h1, h2, h3, h4, h5⟩ := hT _ _ _ k
    exact ⟨by omega, by omega, by omega, h4, (hL _ _ _).mpr (Or.inr ⟨h5, fun o => k' (hr _ _ _ (hr _ _ _ o))⟩)⟩
theorem g_side {a b c p : g_P} (h : 0 < gO a b c) (h1 : gO a b p = 0) (h2 : 0 < gO b c p) (h3 : 0 < gO c a p) (hs : tr_Side a b) : tr_Side a p ∧ tr_Side p b := by
  constructor
  · intro q hq
    have e := gO_pl a b c p q
    have s := gO_swap c a p
    rw [h1, s, Int.mul_neg] at e
    have := Int.mul_nonneg (hs q hq) (Int.le_of_lt h3)
    exact g_nonneg h (by omega)
  · intro q hq
    have e := gO_pl b c a p q
    have s := gO_swap a b p
    have s2 := gO_swap a b q
    have := hs q hq
    rw [show gO b a p = 0 by omega] at e
    have p1 := Int.mul_nonpos_of_nonneg_of_nonpos (Int.le_of_lt h2) (show gO b a q ≤ 0 by omega)
    have t : gO b p q ≤ 0 := g_nonpos (k := gO b c a) (by have := gO_rot a b c; omega) (by omega)
    have := gO_swap b p q
    omega
theorem tr_Ok.ins3 {n : Nat} {P : Nat → g_P} {L L' : Nat → Nat → Option Nat} {a b c : Nat} (h : tr_Ok n P L) (hP : tr_Pos (n + 1) P) (e : L a b = some c) (h1 : 0 < gO (P a) (P b) (P n)) (h2 : 0 < gO (P b) (P c) (P n)) (h3 : 0 < gO (P c) (P a) (P n))
    (hL : ∀ x y z, L' x y = some z ↔ (tr_rot a b n x y z ∨ tr_rot b c n x y z ∨ tr_rot c a n x y z) ∨ (L x y = some z ∧ ¬ tr_rot a b c x y z)) : tr_Ok (n + 1) P L' := by
  obtain ⟨ha, hb, hc, hp, e1⟩ := h.tri a b c e
  obtain ⟨n1, n2, n3⟩ := tr_ne hp
  have p1 := gO_rot (P a) (P b) (P c)
  have p2 := gO_rot (P b) (P c) (P a)
  refine ⟨hP, ?_, ?_, ?_, ?_, ?_⟩
  · refine tr_Tri_re (N := fun x y z => tr_rot a b n x y z ∨ tr_rot b c n x y z ∨ tr_rot c a n x y z) (O := tr_rot a b c) (by omega) h.tri hL (fun x y z r => r.next) ?_ ?_
    · have r1 := gO_rot (P a) (P b) (P n)
      have r2 := gO_rot (P b) (P n) (P a)
      have r3 := gO_rot (P b) (P c) (P n)
      have r4 := gO_rot (P c) (P n) (P b)
      have r5 := gO_rot (P c) (P a) (P n)
      have r6 := gO_rot (P a) (P n) (P c)
      rintro x y z ((⟨rfl, rfl, rfl⟩ | ⟨rfl, rfl, rfl⟩ | ⟨rfl, rfl, rfl⟩) | (⟨rfl, rfl, rfl⟩ | ⟨rfl, rfl, rfl⟩ | ⟨rfl, rfl, rfl⟩) | (⟨rfl, rfl, rfl⟩ | ⟨rfl, rfl, rfl⟩ | ⟨rfl, rfl, rfl⟩)) <;> exact ⟨by omega, by omega, by omega, by omega⟩
    · rintro x y z (r | r | r)
      · exact Or.inl r.next
      · exact Or.inr (Or.inl r.next)
      · exact Or.inr (Or.inr r.next)
  · refine tr_Un_re (N := fun x y z => tr_rot a b n x y z ∨ tr_rot b c n x y z ∨ tr_rot c a n x y z) (O := tr_rot a b c) (by omega) h.tri h.un hL (fun x y z r => r.face h.tri e) (fun x y z r => r.next) ?_ ?_
    · rintro Q hQ x y z (r | r | r) hin
      · exact ⟨a, b, c, tr_rot.refl _ _ _, g_part (g_Sp hp) (g_Sp h1) (Int.le_of_lt (g_Sp h2)) (Int.le_of_lt (g_Sp h3)) (r.symm.in hin)⟩
      · exact ⟨b, c, a, (tr_rot.refl _ _ _).next, g_part (g_Sp (by omega)) (g_Sp h2) (Int.le_of_lt (g_Sp h3)) (Int.le_of_lt (g_Sp h1)) (r.symm.in hin)⟩
      · exact ⟨c, a, b, (tr_rot.refl _ _ _).next.next, g_part (g_Sp (by omega)) (g_Sp h3) (Int.le_of_lt (g_Sp h1)) (Int.le_of_lt (g_Sp h2)) (r.symm.in hin)⟩
    · intro Q hQ x y z x' y' z' k hin k' hin'
      have sa := gO_swap (g_S (P a)) (g_S (P n)) Q
      have sb := gO_swap (g_S (P b)) (g_S (P n)) Q
      have sc := gO_swap (g_S (P c)) (g_S (P n)) Q
      rcases k with r | r | r <;> rcases k' with r' | r' | r' <;> first
        | exact r.symm.trans r'
        | (have i1 := r.symm.in hin
           have i2 := r'.symm.in hin'
           have := i1.1; have := i1.2.1; have := i1.2.2; have := i2.1; have := i2.2.1; have := i2.2.2
           omega)
  · refine tr_Cov_re h.cov hL ?_
    intro q x y z r hin
    rcases g_splitW h1 h2 h3 (r.symm.inW hin) with g | g | g
    · exact ⟨a, b, n, Or.inl (tr_rot.refl _ _ _), g⟩
    · exact ⟨b, c, n, Or.inr (Or.inl (tr_rot.refl _ _ _)), g⟩
    · exact ⟨c, a, n, Or.inr (Or.inr (tr_rot.refl _ _ _)), g⟩
  · refine tr_Bd_re h.tri h.bd hL ?_ ?_ (fun x y z r => r.face h.tri e)
    · rintro x y z (⟨rfl, rfl, rfl⟩ | ⟨rfl, rfl, rfl⟩ | ⟨rfl, rfl, rfl⟩)
      · exact Or.inl ⟨n, Or.inl (tr_rot.refl _ _ _)⟩
      · exact Or.inl ⟨n, Or.inr (Or.inl (tr_rot.refl _ _ _))⟩
      · exact Or.inl ⟨n, Or.inr (Or.inr (tr_rot.refl _ _ _))⟩
    · have z1 : ∀ w, ¬ tr_rot a b c b a w := fun w k => by unfold tr_rot at k; omega
      have z2 : ∀ w, ¬ tr_rot a b c c b w := fun w k => by unfold tr_rot at k; omega
      have z3 : ∀ w, ¬ tr_rot a b c a c w := fun w k => by unfold tr_rot at k; omega
      rintro x y z ((⟨rfl, rfl, rfl⟩ | ⟨rfl, rfl, rfl⟩ | ⟨rfl, rfl, rfl⟩) | (⟨rfl, rfl, rfl⟩ | ⟨rfl, rfl, rfl⟩ | ⟨rfl, rfl, rfl⟩) | (⟨rfl, rfl, rfl⟩ | ⟨rfl, rfl, rfl⟩ | ⟨rfl, rfl, rfl⟩))
      · exact Or.inr (Or.inl ⟨⟨c, tr_rot.refl _ _ _⟩, fun ⟨w, k⟩ => z1 w k⟩)
      · exact Or.inl ⟨c, Or.inr (Or.inl (Or.inr (Or.inr ⟨rfl, rfl, rfl⟩)))⟩
      · exact Or.inl ⟨c, Or.inr (Or.inr (Or.inr (Or.inl ⟨rfl, rfl, rfl⟩)))⟩
      · exact Or.inr (Or.inl ⟨⟨a, (tr_rot.refl _ _ _).next⟩, fun ⟨w, k⟩ => z2 w k⟩)
      · exact Or.inl ⟨a, Or.inr (Or.inr (Or.inr (Or.inr ⟨rfl, rfl, rfl⟩)))⟩
      · exact Or.inl ⟨a, Or.inl (Or.inr (Or.inl ⟨rfl, rfl, rfl⟩))⟩
      · exact Or.inr (Or.inl ⟨⟨b, (tr_rot.refl _ _ _).next.next⟩, fun ⟨w, k⟩ => z3 w k⟩)
      · exact Or.inl ⟨b, Or.inl (Or.inr (Or.inr ⟨rfl, rfl, rfl⟩))⟩
      · exact Or.inl ⟨b, Or.inr (Or.inl (Or.inr (Or.inl ⟨rfl, rfl, rfl⟩)))⟩
  · intro S ⟨s0, hs0, hS⟩ hE
    have f1 : L' a b = some n := (hL _ _ _).mpr (Or.inl (Or.inl (tr_rot.refl _ _ _)))
    have f2 : L' b c = some n := (hL _ _ _).mpr (Or.inl (Or.inr (Or.inl (tr_rot.refl _ _ _))))
    have f3 : L' c a = some n := (hL _ _ _).mpr (Or.inl (Or.inr (Or.inr (tr_rot.refl _ _ _))))
    have f4 : L' n a = some b := (hL _ _ _).mpr (Or.inl (Or.inl (Or.inr (Or.inr ⟨rfl, rfl, rfl⟩))))
    have key : ∀ x y z, L x y = some z → (S x ↔ S y) := by
      intro x y z hz
      by_cases o : tr_rot a b c x y z
      · rcases o with ⟨rfl, rfl, rfl⟩ | ⟨rfl, rfl, rfl⟩ | ⟨rfl, rfl, rfl⟩
        · exact ⟨hE _ _ (Or.inl ⟨_, f1⟩), hE _ _ (Or.inr ⟨_, f1⟩)⟩
        · exact ⟨hE _ _ (Or.inl ⟨_, f2⟩), hE _ _ (Or.inr ⟨_, f2⟩)⟩
        · exact ⟨hE _ _ (Or.inl ⟨_, f3⟩), hE _ _ (Or.inr ⟨_, f3⟩)⟩
      · have e : L' x y = some z := (hL _ _ _).mpr (Or.inr ⟨hz, o⟩)
        exact ⟨hE x y (Or.inl ⟨_, e⟩), hE y x (Or.inr ⟨_, e⟩)⟩
    have old : ∀ i, i < n → S i := by
      refine h.conn S ?_ ?_
      · rcases Nat.lt_or_ge s0 n with z | z
        · exact ⟨s0, z, hS⟩
        · have : s0 = n := by omega
          subst this
          exact ⟨a, ha, hE _ _ (Or.inl ⟨_, f4⟩) hS⟩
      · rintro x y (⟨z, hz⟩ | ⟨z, hz⟩) hx
        · exact (key x y z hz).mp hx
        · exact (key y x z hz).mpr hx
    intro i hi
    rcases Nat.lt_or_ge i n with z | z
    · exact old i z
    · have : i = n := by omega
      subst this
      exact hE _ _ (Or.inr ⟨_, f4⟩) (old a ha)
/-- a new cairn on an edge between two triangles -/
theorem tr_Ok.cut2 {n : Nat} {P : Nat → g_P} {L L' : Nat → Nat → Option Nat} {a b c d : Nat} (h : tr_Ok n P L) (hP : tr_Pos (n + 1) P) (e : L a b = some c) (f : L b a = some d) (h1 : gO (P a) (P b) (P n) = 0) (h2 : 0 < gO (P b) (P c) (P n)) (h3 : 0 < gO (P c) (P a) (P n))
    (hL : ∀ x y z, L' x y = some z ↔ ((tr_rot a n c x y z ∨ tr_rot n b c x y z) ∨ tr_rot b n d x y z ∨ tr_rot n a d x y z) ∨ (L x y = some z ∧ ¬ (tr_rot a b c x y z ∨ tr_rot b a d x y z))) : tr_Ok (n + 1) P L' := by
  obtain ⟨ha, hb, hc, hp, e1⟩ := h.tri a b c e
  obtain ⟨-, -, hd, hp2, f1⟩ := h.tri b a d f
  obtain ⟨n1, n2, n3⟩ := tr_ne hp
  obtain ⟨n4, n5, n6⟩ := tr_ne hp2
  obtain ⟨h1', h4, h5⟩ := g_onEdge hp hp2 h1 h2 h3
  have ncd : c ≠ d := by
    rintro rfl
    have := gO_swap (P a) (P b) (P c)
    omega
  have hO : ∀ x y z, (tr_rot a b c x y z ∨ tr_rot b a d x y z) → L x y = some z := by
    rintro x y z (r | r)
    · exact r.face h.tri e
    · exact r.face h.tri f
  refine ⟨hP, ?_, ?_, ?_, ?_, ?_⟩
  · refine tr_Tri_re (N := fun x y z => (tr_rot a n c x y z ∨ tr_rot n b c x y z) ∨ tr_rot b n d x y z ∨ tr_rot n a d x y z) (O := fun x y z => tr_rot a b c x y z ∨ tr_rot b a d x y z) (by omega) h.tri hL ?_ ?_ ?_
    · rintro x y z (r | r)
      · exact Or.inl r.next
      · exact Or.inr r.next
    · have r1 := gO_rot (P a) (P n) (P c)
      have r2 := gO_rot (P n) (P c) (P a)
      have r3 := gO_rot (P n) (P b) (P c)
      have r4 := gO_rot (P b) (P c) (P n)
      have r5 := gO_rot (P b) (P n) (P d)
      have r6 := gO_rot (P n) (P d) (P b)
      have r7 := gO_rot (P n) (P a) (P d)
      have r8 := gO_rot (P a) (P d) (P n)
      rintro x y z (((⟨rfl, rfl, rfl⟩ | ⟨rfl, rfl, rfl⟩ | ⟨rfl, rfl, rfl⟩) | (⟨rfl, rfl, rfl⟩ | ⟨rfl, rfl, rfl⟩ | ⟨rfl, rfl, rfl⟩)) | (⟨rfl, rfl, rfl⟩ | ⟨rfl, rfl, rfl⟩ | ⟨rfl, rfl, rfl⟩) | (⟨rfl, rfl, rfl⟩ | ⟨rfl, rfl, rfl⟩ | ⟨rfl, rfl, rfl⟩)) <;> exact ⟨by omega, by omega, by omega, by omega⟩
    · rintro x y z ((r | r) | r | r)
      · exact Or.inl (Or.inl r.next)
      · exact Or.inl (Or.inr r.next)
      · exact Or.inr (Or.inl r.next)
      · exact Or.inr (Or.inr r.next)
  · have inO : ∀ Q, (∀ x y z, (tr_rot a n c x y z ∨ tr_rot n b c x y z) → gIn (g_S (P x)) (g_S (P y)) (g_S (P z)) Q → gIn (g_S (P a)) (g_S (P b)) (g_S (P c)) Q) ∧ (∀ x y z, (tr_rot b n d x y z ∨ tr_rot n a d x y z) → gIn (g_S (P x)) (g_S (P y)) (g_S (P z)) Q → gIn (g_S (P b)) (g_S (P a)) (g_S (P d)) Q) := by
      intro Q
      constructor
      · rintro x y z (r | r) hin
        · exact g_half1 (g_Sp hp) (g_Sz h1) (g_Sp h2) (g_Sp h3) (r.symm.in hin)
        · exact g_half2 (g_Sp hp) (g_Sz h1) (g_Sp h2) (g_Sp h3) (r.symm.in hin)
      · rintro x y z (r | r) hin
        · exact g_half1 (g_Sp hp2) (g_Sz h1') (g_Sp h4) (g_Sp h5) (r.symm.in hin)
        · exact g_half2 (g_Sp hp2) (g_Sz h1') (g_Sp h4) (g_Sp h5) (r.symm.in hin)
    refine tr_Un_re (N := fun x y z => (tr_rot a n c x y z ∨ tr_rot n b c x y z) ∨ tr_rot b n d x y z ∨ tr_rot n a d x y z) (O := fun x y z => tr_rot a b c x y z ∨ tr_rot b a d x y z) (by omega) h.tri h.un hL hO ?_ ?_ ?_
    · rintro x y z (r | r)
      · exact Or.inl r.next
      · exact Or.inr r.next
    · rintro Q hQ x y z (r | r) hin
      · exact ⟨a, b, c, Or.inl (tr_rot.refl _ _ _), (inO Q).1 x y z r hin⟩
      · exact ⟨b, a, d, Or.inr (tr_rot.refl _ _ _), (inO Q).2 x y z r hin⟩
    · intro Q hQ x y z x' y' z' k hin k' hin'
      have sab := gO_swap (g_S (P a)) (g_S (P b)) Q
      have sc := gO_swap (g_S (P n)) (g_S (P c)) Q
      have sd := gO_swap (g_S (P n)) (g_S (P d)) Q
      rcases k with k | k <;> rcases k' with k' | k'
      · rcases k with r | r <;> rcases k' with r' | r' <;> first
          | exact r.symm.trans r'
          | (have i1 := r.symm.in hin
             have i2 := r'.symm.in hin'
             have := i1.1; have := i1.2.1; have := i1.2.2; have := i2.1; have := i2.2.1; have := i2.2.2
             omega)
      · have i1 := (inO Q).1 _ _ _ k hin
        have i2 := (inO Q).2 _ _ _ k' hin'
        have := i1.1; have := i2.1
        omega
      · have i1 := (inO Q).2 _ _ _ k hin
        have i2 := (inO Q).1 _ _ _ k' hin'
        have := i1.1; have := i2.1
        omega
      · rcases k with r | r <;> rcases k' with r' | r' <;> first
          | exact r.symm.trans r'
          | (have i1 := r.symm.in hin
             have i2 := r'.symm.in hin'
             have := i1.1; have := i1.2.1; have := i1.2.2; have := i2.1; have := i2.2.1; have := i2.2.2
             omega)
  · refine tr_Cov_re h.cov hL ?_
    rintro q x y z (r | r) hin
    · rcases g_cutW hp h1 h2 h3 (r.symm.inW hin) with g | g
      · exact ⟨a, n, c, Or.inl (Or.inl (tr_rot.refl _ _ _)), g⟩
      · exact ⟨n, b, c, Or.inl (Or.inr (tr_rot.refl _ _ _)), g⟩
    · rcases g_cutW hp2 h1' h4 h5 (r.symm.inW hin) with g | g
      · exact ⟨b, n, d, Or.inr (Or.inl (tr_rot.refl _ _ _)), g⟩
      · exact ⟨n, a, d, Or.inr (Or.inr (tr_rot.refl _ _ _)), g⟩
  · refine tr_Bd_re h.tri h.bd hL ?_ ?_ hO
    · rintro x y z ((⟨rfl, rfl, rfl⟩ | ⟨rfl, rfl, rfl⟩ | ⟨rfl, rfl, rfl⟩) | (⟨rfl, rfl, rfl⟩ | ⟨rfl, rfl, rfl⟩ | ⟨rfl, rfl, rfl⟩))
      · exact Or.inr ⟨d, Or.inr (tr_rot.refl _ _ _)⟩
      · exact Or.inl ⟨n, Or.inl (Or.inr (Or.inr (Or.inl ⟨rfl, rfl, rfl⟩)))⟩
      · exact Or.inl ⟨n, Or.inl (Or.inl (Or.inr (Or.inr ⟨rfl, rfl, rfl⟩)))⟩
      · exact Or.inr ⟨c, Or.inl (tr_rot.refl _ _ _)⟩
      · exact Or.inl ⟨n, Or.inr (Or.inr (Or.inr (Or.inl ⟨rfl, rfl, rfl⟩)))⟩
      · exact Or.inl ⟨n, Or.inr (Or.inl (Or.inr (Or.inr ⟨rfl, rfl, rfl⟩)))⟩
    · have z1 : ∀ w, ¬ (tr_rot a b c c b w ∨ tr_rot b a d c b w) := fun w k => by unfold tr_rot at k; omega
      have z2 : ∀ w, ¬ (tr_rot a b c a c w ∨ tr_rot b a d a c w) := fun w k => by unfold tr_rot at k; omega
      have z3 : ∀ w, ¬ (tr_rot a b c d a w ∨ tr_rot b a d d a w) := fun w k => by unfold tr_rot at k; omega
      have z4 : ∀ w, ¬ (tr_rot a b c b d w ∨ tr_rot b a d b d w) := fun w k => by unfold tr_rot at k; omega
      rintro x y z (((⟨rfl, rfl, rfl⟩ | ⟨rfl, rfl, rfl⟩ | ⟨rfl, rfl, rfl⟩) | (⟨rfl, rfl, rfl⟩ | ⟨rfl, rfl, rfl⟩ | ⟨rfl, rfl, rfl⟩)) | (⟨rfl, rfl, rfl⟩ | ⟨rfl, rfl, rfl⟩ | ⟨rfl, rfl, rfl⟩) | (⟨rfl, rfl, rfl⟩ | ⟨rfl, rfl, rfl⟩ | ⟨rfl, rfl, rfl⟩))
      · exact Or.inl ⟨d, Or.inr (Or.inr (tr_rot.refl _ _ _))⟩
      · exact Or.inl ⟨b, Or.inl (Or.inr (tr_rot.refl _ _ _).next.next)⟩
      · exact Or.inr (Or.inl ⟨⟨b, Or.inl (tr_rot.refl _ _ _).next.next⟩, fun ⟨w, k⟩ => z2 w k⟩)
      · exact Or.inl ⟨d, Or.inr (Or.inl (tr_rot.refl _ _ _))⟩
      · exact Or.inr (Or.inl ⟨⟨a, Or.inl (tr_rot.refl _ _ _).next⟩, fun ⟨w, k⟩ => z1 w k⟩)
      · exact Or.inl ⟨a, Or.inl (Or.inl (tr_rot.refl _ _ _).next)⟩
      · exact Or.inl ⟨c, Or.inl (Or.inr (tr_rot.refl _ _ _))⟩
      · exact Or.inl ⟨a, Or.inr (Or.inr (tr_rot.refl _ _ _).next.next)⟩
      · exact Or.inr (Or.inl ⟨⟨a, Or.inr (tr_rot.refl _ _ _).next.next⟩, fun ⟨w, k⟩ => z4 w k⟩)
      · exact Or.inl ⟨c, Or.inl (Or.inl (tr_rot.refl _ _ _))⟩
      · exact Or.inr (Or.inl ⟨⟨b, Or.inr (tr_rot.refl _ _ _).next⟩, fun ⟨w, k⟩ => z3 w k⟩)
      · exact Or.inl ⟨b, Or.inr (Or.inl (tr_rot.refl _ _ _).next)⟩
  · intro S ⟨s0, hs0, hS⟩ hE
    have g1 : L' a n = some c := (hL _ _ _).mpr (Or.inl (Or.inl (Or.inl (tr_rot.refl _ _ _))))
    have g2 : L' n b = some c := (hL _ _ _).mpr (Or.inl (Or.inl (Or.inr (tr_rot.refl _ _ _))))
    have g3 : L' b c = some n := (hL _ _ _).mpr (Or.inl (Or.inl (Or.inr (tr_rot.refl _ _ _).next)))
    have g4 : L' c a = some n := (hL _ _ _).mpr (Or.inl (Or.inl (Or.inl (tr_rot.refl _ _ _).next.next)))
    have g5 : L' a d = some n := (hL _ _ _).mpr (Or.inl (Or.inr (Or.inr (tr_rot.refl _ _ _).next)))
    have g6 : L' d b = some n := (hL _ _ _).mpr (Or.inl (Or.inr (Or.inl (tr_rot.refl _ _ _).next.next)))
    have sy : ∀ x y z, L' x y = some z → (S x ↔ S y) := fun x y z hz => ⟨hE x y (Or.inl ⟨_, hz⟩), hE y x (Or.inr ⟨_, hz⟩)⟩
    have key : ∀ x y z, L x y = some z → (S x ↔ S y) := by
      intro x y z hz
      by_cases o : tr_rot a b c x y z ∨ tr_rot b a d x y z
      · have sab : S a ↔ S b := (sy _ _ _ g1).trans (sy _ _ _ g2)
        rcases o with (⟨rfl, rfl, rfl⟩ | ⟨rfl, rfl, rfl⟩ | ⟨rfl, rfl, rfl⟩) | (⟨rfl, rfl, rfl⟩ | ⟨rfl, rfl, rfl⟩ | ⟨rfl, rfl, rfl⟩)
        · exact sab
        · exact sy _ _ _ g3
        · exact sy _ _ _ g4
        · exact sab.symm
        · exact sy _ _ _ g5
        · exact sy _ _ _ g6
      · exact sy _ _ _ ((hL _ _ _).mpr (Or.inr ⟨hz, o⟩))
    have old : ∀ i, i < n → S i := by
      refine h.conn S ?_ ?_
      · rcases Nat.lt_or_ge s0 n with z | z
        · exact ⟨s0, z, hS⟩
        · have : s0 = n := by omega
          subst this
          exact ⟨a, ha, (sy _ _ _ g1).mpr hS⟩
      · rintro x y (⟨z, hz⟩ | ⟨z, hz⟩) hx
        · exact (key x y z hz).mp hx
        · exact (key y x z hz).mpr hx
    intro i hi
    rcases Nat.lt_or_ge i n with z | z
    · exact old i z
    · have : i = n := by omega
      subst this
      exact (sy _ _ _ g1).mp (old a ha)
/-- a new cairn on an edge at the border -/
theorem tr_Ok.cut1 {n : Nat} {P : Nat → g_P} {L L' : Nat → Nat → Option Nat} {a b c : Nat} (h : tr_Ok n P L) (hP : tr_Pos (n + 1) P) (e : L a b = some c) (f : L b a = none) (h1 : gO (P a) (P b) (P n) = 0) (h2 : 0 < gO (P b) (P c) (P n)) (h3 : 0 < gO (P c) (P a) (P n))
    (hL : ∀ x y z, L' x y = some z ↔ (tr_rot a n c x y z ∨ tr_rot n b c x y z) ∨ (L x y = some z ∧ ¬ tr_rot a b c x y z)) : tr_Ok (n + 1) P L' := by
  obtain ⟨ha, hb, hc, hp, e1⟩ := h.tri a b c e
  obtain ⟨n1, n2, n3⟩ := tr_ne hp
  obtain ⟨sd1, sd2⟩ := g_side hp h1 h2 h3 (h.bd _ _ _ e f)
  have hO : ∀ x y z, tr_rot a b c x y z → L x y = some z := fun x y z r => r.face h.tri e
  refine ⟨hP, ?_, ?_, ?_, ?_, ?_⟩
  · refine tr_Tri_re (N := fun x y z => tr_rot a n c x y z ∨ tr_rot n b c x y z) (O := tr_rot a b c) (by omega) h.tri hL (fun x y z r => r.next) ?_ ?_
    · have r1 := gO_rot (P a) (P n) (P c)
      have r2 := gO_rot (P n) (P c) (P a)
      have r3 := gO_rot (P n) (P b) (P c)
      have r4 := gO_rot (P b) (P c) (P n)
      rintro x y z ((⟨rfl, rfl, rfl⟩ | ⟨rfl, rfl, rfl⟩ | ⟨rfl, rfl, rfl⟩) | (⟨rfl, rfl, rfl⟩ | ⟨rfl, rfl, rfl⟩ | ⟨rfl, rfl, rfl⟩)) <;> exact ⟨by omega, by omega, by omega, by omega⟩
    · rintro x y z (r | r)
      · exact Or.inl r.next
      · exact Or.inr r.next
  · refine tr_Un_re (N := fun x y z => tr_rot a n c x y z ∨ tr_rot n b c x y z) (O := tr_rot a b c) (by omega) h.tri h.un hL hO (fun x y z r => r.next) ?_ ?_
    · rintro Q hQ x y z (r | r) hin
      · exact ⟨a, b, c, tr_rot.refl _ _ _, g_half1 (g_Sp hp) (g_Sz h1) (g_Sp h2) (g_Sp h3) (r.symm.in hin)⟩
      · exact ⟨a, b, c, tr_rot.refl _ _ _, g_half2 (g_Sp hp) (g_Sz h1) (g_Sp h2) (g_Sp h3) (r.symm.in hin)⟩
    · intro Q hQ x y z x' y' z' k hin k' hin'
      have sc := gO_swap (g_S (P n)) (g_S (P c)) Q
      rcases k with r | r <;> rcases k' with r' | r' <;> first
          | exact r.symm.trans r'
          | (have i1 := r.symm.in hin
             have i2 := r'.symm.in hin'
             have := i1.1; have := i1.2.1; have := i1.2.2; have := i2.1; have := i2.2.1; have := i2.2.2
             omega)
  · refine tr_Cov_re h.cov hL ?_
    intro q x y z r hin
    rcases g_cutW hp h1 h2 h3 (r.symm.inW hin) with g | g
    · exact ⟨a, n, c, Or.inl (tr_rot.refl _ _ _), g⟩
    · exact ⟨n, b, c, Or.inr (tr_rot.refl _ _ _), g⟩
  · have no : ∀ x y z, tr_rot a b c x y z → x = a ∧ y = b ∨ x = b ∧ y = c ∨ x = c ∧ y = a := fun x y z k => by unfold tr_rot at k; omega
    intro x y z k1 k2
    have nk : ∀ w, ¬ ((tr_rot a n c y x w ∨ tr_rot n b c y x w) ∨ (L y x = some w ∧ ¬ tr_rot a b c y x w)) := fun w k => by
      rw [(hL _ _ _).mpr k] at k2; cases k2
    have far : ∀ u v w, L u v = some w → (u = b ∧ v = c ∨ u = c ∧ v = a) → L' v u = none → tr_Side (P u) (P v) := by
      intro u v w j1 j2 j3
      cases j : L v u with
      | none => exact h.bd _ _ _ j1 j
      | some w' =>
        have : L' v u = some w' := (hL _ _ _).mpr (Or.inr ⟨j, fun r => by have := no _ _ _ r; omega⟩)
        rw [this] at j3; cases j3
    rcases (hL _ _ _).mp k1 with ((⟨rfl, rfl, rfl⟩ | ⟨rfl, rfl, rfl⟩ | ⟨rfl, rfl, rfl⟩) | (⟨rfl, rfl, rfl⟩ | ⟨rfl, rfl, rfl⟩ | ⟨rfl, rfl, rfl⟩)) | ⟨k, k'⟩
    · exact sd1
    · exact absurd (Or.inl (Or.inr (tr_rot.refl _ _ _).next.next)) (nk b)
    · exact far _ _ _ (h.tri.rot2 e) (Or.inr ⟨rfl, rfl⟩) k2
    · exact sd2
    · exact far _ _ _ e1 (Or.inl ⟨rfl, rfl⟩) k2
    · exact absurd (Or.inl (Or.inl (tr_rot.refl _ _ _).next)) (nk a)
    · cases j : L y x with
      | none => exact h.bd _ _ _ k j
      | some w' =>
        by_cases o : tr_rot a b c y x w'
        · exfalso
          rcases o with ⟨rfl, rfl, rfl⟩ | ⟨rfl, rfl, rfl⟩ | ⟨rfl, rfl, rfl⟩
          · rw [f] at k; cases k
          · exact nk n (Or.inl (Or.inr (tr_rot.refl _ _ _).next))
          · exact nk n (Or.inl (Or.inl (tr_rot.refl _ _ _).next.next))
        · exact absurd (Or.inr ⟨j, o⟩) (nk w')
  · intro S ⟨s0, hs0, hS⟩ hE
    have g1 : L' a n = some c := (hL _ _ _).mpr (Or.inl (Or.inl (tr_rot.refl _ _ _)))
    have g2 : L' n b = some c := (hL _ _ _).mpr (Or.inl (Or.inr (tr_rot.refl _ _ _)))
    have g3 : L' b c = some n := (hL _ _ _).mpr (Or.inl (Or.inr (tr_rot.refl _ _ _).next))
    have g4 : L' c a = some n := (hL _ _ _).mpr (Or.inl (Or.inl (tr_rot.refl _ _ _).next.next))
    have sy : ∀ x y z, L' x y = some z → (S x ↔ S y) := fun x y z hz => ⟨hE x y (Or.inl ⟨_, hz⟩), hE y x (Or.inr ⟨_, hz⟩)⟩
    have key : ∀ x y z, L x y = some z → (S x ↔ S y) := by
      intro x y z hz
      by_cases o : tr_rot a b c x y z
      · rcases o with ⟨rfl, rfl, rfl⟩ | ⟨rfl, rfl, rfl⟩ | ⟨rfl, rfl, rfl⟩
        · exact (sy _ _ _ g1).trans (sy _ _ _ g2)
        · exact sy _ _ _ g3
        · exact sy _ _ _ g4
      · exact sy _ _ _ ((hL _ _ _).mpr (Or.inr ⟨hz, o⟩))
    have old : ∀ i, i < n → S i := by
      refine h.conn S ?_ ?_
      · rcases Nat.lt_or_ge s0 n with z | z
        · exact ⟨s0, z, hS⟩
        · have : s0 = n := by omega
          subst this
          exact ⟨a, ha, (sy _ _ _ g1).mpr hS⟩
      · rintro x y (⟨z, hz⟩ | ⟨z, hz⟩) hx
        · exact (key x y z hz).mp hx
        · exact (key y x z hz).mpr hx
    intro i hi
    rcases Nat.lt_or_ge i n with z | z
    · exact old i z
    · have : i = n := by omega
      subst this
      exact (sy _ _ _ g1).mp (old a ha)
