/-! a flip keeps all -/
theorem g_Sp {a b c : g_P} (h : 0 < gO a b c) : 0 < gO (g_S a) (g_S b) (g_S c) := by
  rw [gO_S]; exact Int.mul_pos gK_pos (Int.mul_pos gK_pos h)
theorem g_Sn {a b c : g_P} (h : gO a b c < 0) : gO (g_S a) (g_S b) (g_S c) < 0 := by
  rw [gO_S]; exact Int.mul_neg_of_pos_of_neg gK_pos (Int.mul_neg_of_pos_of_neg gK_pos h)
theorem g_Sz {a b c : g_P} (h : gO a b c = 0) : gO (g_S a) (g_S b) (g_S c) = 0 := by
  rw [gO_S, h]; simp
theorem tr_rot.trans {a b c x y z u v w : Nat} (h : tr_rot a b c x y z) (h2 : tr_rot x y z u v w) : tr_rot a b c u v w := by
  rcases h with ⟨rfl, rfl, rfl⟩ | ⟨rfl, rfl, rfl⟩ | ⟨rfl, rfl, rfl⟩
  · exact h2
  · exact h2.symm.next.next.symm
  · exact h2.symm.next.symm
theorem tr_Ok.flip {n : Nat} {P : Nat → g_P} {L : Nat → Nat → Option Nat} {a b c d : Nat} (h : tr_Ok n P L) (q : tr_Quad n P L a b c d) : tr_Ok n P (tr_flip L a b c d) := by
  obtain ⟨z1, z2⟩ := tr_noedge h.pos h.tri h.un q
  have hL := tr_flip_iff h.tri q z1 z2
  have hT := tr_flip_tri h.tri q z1 z2
  obtain ⟨qab, qba, q1, q2⟩ := q
  obtain ⟨ha, hb, hc, hp, e1⟩ := h.tri a b c qab
  obtain ⟨-, -, hd, hp2, e2⟩ := h.tri b a d qba
  have e3 := h.tri.rot2 qab
  have e4 := h.tri.rot2 qba
  obtain ⟨n1, n2, n3⟩ := tr_ne hp
  obtain ⟨n4, n5, n6⟩ := tr_ne hp2
  obtain ⟨n7, -, -⟩ := tr_ne q2
  have s1 := gO_swap (P c) (P d) (P a)
  have s2 := gO_swap (P c) (P d) (P b)
  have s3 := gO_swap (P a) (P b) (P c)
  have s4 := gO_swap (P a) (P b) (P d)
  have hO : ∀ x y z, (tr_rot a b c x y z ∨ tr_rot b a d x y z) → L x y = some z := by
    rintro x y z (r | r)
    · exact r.face h.tri qab
    · exact r.face h.tri qba
  refine ⟨h.pos, hT, ?_, ?_, ?_, ?_⟩
  · refine tr_Un_re (N := fun x y z => tr_rot d c a x y z ∨ tr_rot c d b x y z) (O := fun x y z => tr_rot a b c x y z ∨ tr_rot b a d x y z) (Nat.le_refl n) h.tri h.un hL hO ?_ ?_ ?_
    · rintro x y z (r | r)
      · exact Or.inl r.next
      · exact Or.inr r.next
    · rintro Q hQ x y z (r | r) hin
      · have g := g_flip (a := g_S (P d)) (b := g_S (P c)) (c := g_S (P a)) (d := g_S (P b)) (g_Sp (by omega)) (g_Sp q2) (g_Sn (by omega)) (g_Sp hp) (r.symm.in hin) (hQ a b ha hb n1)
        rcases g with g | g
        · exact ⟨b, a, d, Or.inr (tr_rot.refl _ _ _), g⟩
        · exact ⟨a, b, c, Or.inl (tr_rot.refl _ _ _), g⟩
      · have g := g_flip (a := g_S (P c)) (b := g_S (P d)) (c := g_S (P b)) (d := g_S (P a)) (g_Sp q2) (g_Sp (by omega)) (g_Sn (by omega)) (g_Sp hp2) (r.symm.in hin) (hQ b a hb ha n4)
        rcases g with g | g
        · exact ⟨a, b, c, Or.inl (tr_rot.refl _ _ _), g⟩
        · exact ⟨b, a, d, Or.inr (tr_rot.refl _ _ _), g⟩
    · have cross : ∀ Q, gIn (g_S (P d)) (g_S (P c)) (g_S (P a)) Q → gIn (g_S (P c)) (g_S (P d)) (g_S (P b)) Q → False := by
        intro Q k1 k2
        have := gO_swap (g_S (P c)) (g_S (P d)) Q
        have := k1.1
        have := k2.1
        omega
      rintro Q hQ x y z x' y' z' (r | r) hin (r' | r') hin'
      · exact r.symm.trans r'
      · exact absurd (cross Q (r.symm.in hin) (r'.symm.in hin')) id
      · exact absurd (cross Q (r'.symm.in hin') (r.symm.in hin)) id
      · exact r.symm.trans r'
  · refine tr_Cov_re h.cov hL ?_
    rintro Q x y z (r | r) hin
    · rcases g_flipW hp hp2 q1 q2 (r.symm.inW hin) with g | g
      · exact ⟨d, c, a, Or.inl (tr_rot.refl _ _ _), g⟩
      · exact ⟨c, d, b, Or.inr (tr_rot.refl _ _ _), g⟩
    · rcases g_flipW (c := P d) (d := P c) hp2 hp (by omega) (by omega) (r.symm.inW hin) with g | g
      · exact ⟨c, d, b, Or.inr (tr_rot.refl _ _ _), g⟩
      · exact ⟨d, c, a, Or.inl (tr_rot.refl _ _ _), g⟩
  · refine tr_Bd_re h.tri h.bd hL ?_ ?_ hO
    · rintro x y z ((⟨rfl, rfl, rfl⟩ | ⟨rfl, rfl, rfl⟩ | ⟨rfl, rfl, rfl⟩) | (⟨rfl, rfl, rfl⟩ | ⟨rfl, rfl, rfl⟩ | ⟨rfl, rfl, rfl⟩))
      · exact Or.inr ⟨d, Or.inr (tr_rot.refl _ _ _)⟩
      · exact Or.inl ⟨d, Or.inr (Or.inr (Or.inr ⟨rfl, rfl, rfl⟩))⟩
      · exact Or.inl ⟨d, Or.inl (Or.inr (Or.inl ⟨rfl, rfl, rfl⟩))⟩
      · exact Or.inr ⟨c, Or.inl (tr_rot.refl _ _ _)⟩
      · exact Or.inl ⟨c, Or.inl (Or.inr (Or.inr ⟨rfl, rfl, rfl⟩))⟩
      · exact Or.inl ⟨c, Or.inr (Or.inr (Or.inl ⟨rfl, rfl, rfl⟩))⟩
    · rintro x y z ((⟨rfl, rfl, rfl⟩ | ⟨rfl, rfl, rfl⟩ | ⟨rfl, rfl, rfl⟩) | (⟨rfl, rfl, rfl⟩ | ⟨rfl, rfl, rfl⟩ | ⟨rfl, rfl, rfl⟩))
      · exact Or.inl ⟨b, Or.inr (tr_rot.refl _ _ _)⟩
      · exact Or.inr (Or.inl ⟨⟨b, Or.inl (Or.inr (Or.inr ⟨rfl, rfl, rfl⟩))⟩, by rintro ⟨w, k⟩; unfold tr_rot at k; omega⟩)
      · exact Or.inr (Or.inl ⟨⟨b, Or.inr (Or.inr (Or.inl ⟨rfl, rfl, rfl⟩))⟩, by rintro ⟨w, k⟩; unfold tr_rot at k; omega⟩)
      · exact Or.inl ⟨a, Or.inl (tr_rot.refl _ _ _)⟩
      · exact Or.inr (Or.inl ⟨⟨a, Or.inr (Or.inr (Or.inr ⟨rfl, rfl, rfl⟩))⟩, by rintro ⟨w, k⟩; unfold tr_rot at k; omega⟩)
      · exact Or.inr (Or.inl ⟨⟨a, Or.inl (Or.inr (Or.inl ⟨rfl, rfl, rfl⟩))⟩, by rintro ⟨w, k⟩; unfold tr_rot at k; omega⟩)
  · intro S hS hE
    refine h.conn S hS ?_
    have f1 : tr_flip L a b c d c a = some d := (hL _ _ _).mpr (Or.inl (Or.inl (Or.inr (Or.inl ⟨rfl, rfl, rfl⟩))))
    have f2 : tr_flip L a b c d a d = some c := (hL _ _ _).mpr (Or.inl (Or.inl (Or.inr (Or.inr ⟨rfl, rfl, rfl⟩))))
    have f3 : tr_flip L a b c d d b = some c := (hL _ _ _).mpr (Or.inl (Or.inr (Or.inr (Or.inl ⟨rfl, rfl, rfl⟩))))
    have f4 : tr_flip L a b c d b c = some d := (hL _ _ _).mpr (Or.inl (Or.inr (Or.inr (Or.inr ⟨rfl, rfl, rfl⟩))))
    have key : ∀ x y z, L x y = some z → (S x ↔ S y) := by
      intro x y z hz
      by_cases o : tr_rot a b c x y z ∨ tr_rot b a d x y z
      · have g1 : S c ↔ S a := ⟨hE c a (Or.inl ⟨_, f1⟩), hE a c (Or.inr ⟨_, f1⟩)⟩
        have g2 : S a ↔ S d := ⟨hE a d (Or.inl ⟨_, f2⟩), hE d a (Or.inr ⟨_, f2⟩)⟩
        have g3 : S d ↔ S b := ⟨hE d b (Or.inl ⟨_, f3⟩), hE b d (Or.inr ⟨_, f3⟩)⟩
        rcases o with (⟨rfl, rfl, rfl⟩ | ⟨rfl, rfl, rfl⟩ | ⟨rfl, rfl, rfl⟩) | (⟨rfl, rfl, rfl⟩ | ⟨rfl, rfl, rfl⟩ | ⟨rfl, rfl, rfl⟩)
        · exact g2.trans g3
        · exact g3.symm.trans (g2.symm.trans g1.symm)
        · exact g1
        · exact g3.symm.trans g2.symm
        · exact g2
        · exact g3
      · have e : tr_flip L a b c d x y = some z := (hL _ _ _).mpr (Or.inr ⟨hz, o⟩)
        exact ⟨hE x y (Or.inl ⟨_, e⟩), hE y x (Or.inr ⟨_, e⟩)⟩
    rintro x y (⟨z, hz⟩ | ⟨z, hz⟩) hx
    · exact (key x y z hz).mp hx
    · exact (key y x z hz).mpr hx
