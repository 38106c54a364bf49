/-! a flip, in the class and in the reference -/
theorem tr_S_edge {n : Nat} {P : Nat → g_P} {L : Nat → Nat → Option Nat} (h : tr_Tri n P L) (hn : n ≤ 17) {a b c : Nat} (ha : a < n) (hb : b < n) (hc : c < n) (hs : tr_S L (sc a b c)) : L a b = some c ∨ L b a = some c := by
  obtain ⟨x, y, z, e, s⟩ := hs
  obtain ⟨k1, k2, k3, -, -⟩ := h x y z e
  have e1 := h.rot e
  have e2 := h.rot2 e
  rcases sc_inj (by omega) (by omega) (by omega) (by omega) (by omega) (by omega) s with ⟨rfl, rfl, rfl⟩ | ⟨rfl, rfl, rfl⟩ | ⟨rfl, rfl, rfl⟩ | ⟨rfl, rfl, rfl⟩ | ⟨rfl, rfl, rfl⟩ | ⟨rfl, rfl, rfl⟩
  · exact Or.inl e
  · exact Or.inl e2
  · exact Or.inl e1
  · exact Or.inr e
  · exact Or.inr e2
  · exact Or.inr e1
section F
variable {n t : Nat} {P : Nat → g_P} {L : Nat → Nat → Option Nat} {St : Nat → Nat → Bool} {f : Nat → Nat} {xs ys lf sy co : Nat → Int32} {xr yr tb : Nat → Int32} {sg : Nat → Nat → Int32}
theorem tr_S_lt (h : tr_Tri n P L) (hn : n ≤ 17) {z : Nat} (hz : tr_S L z) : z < 32768 := by
  obtain ⟨a, b, c, e, s⟩ := hz
  obtain ⟨k1, k2, k3, -, -⟩ := h a b c e
  rw [s]; exact sc_lt (by omega) (by omega) (by omega)
theorem tr_S_flip (h : tr_Ok n P L) (hn : n ≤ 17) {a b c d : Nat} (q : tr_Quad n P L a b c d) (z : Nat) : tr_S (tr_flip L a b c d) z ↔ ((((tr_S L z ∧ z ≠ sc a b c) ∧ z ≠ sc a b d) ∨ z = sc c d a) ∨ z = sc c d b) := by
  obtain ⟨z1, z2⟩ := tr_noedge h.pos h.tri h.un q
  have hL := tr_flip_iff h.tri q z1 z2
  constructor
  · rintro ⟨x, y, w, e, s⟩
    rcases (hL x y w).mp e with (r | r) | ⟨k, k'⟩
    · refine Or.inl (Or.inr ?_)
      rw [s]
      rcases r with ⟨rfl, rfl, rfl⟩ | ⟨rfl, rfl, rfl⟩ | ⟨rfl, rfl, rfl⟩
      · exact sc_swap _ _ _
      · exact sc_swap2 _ _ _
      · rw [← sc_rot, sc_swap]
    · refine Or.inr ?_
      rw [s]
      rcases r with ⟨rfl, rfl, rfl⟩ | ⟨rfl, rfl, rfl⟩ | ⟨rfl, rfl, rfl⟩
      · rfl
      · exact sc_rot _ _ _
      · exact (sc_rot _ _ _).symm
    · refine Or.inl (Or.inl ⟨⟨⟨x, y, w, k, s⟩, fun e2 => ?_⟩, fun e2 => ?_⟩)
      · exact k' (Or.inl (tr_S_face h.tri hn q.1 k (by rw [← e2, s])))
      · exact k' (Or.inr (tr_S_face h.tri hn q.2.1 k (by rw [sc_swap, ← e2, s])))
  · rintro ((⟨⟨⟨x, y, w, k, s⟩, k1⟩, k2⟩ | s) | s)
    · refine ⟨x, y, w, (hL x y w).mpr (Or.inr ⟨k, ?_⟩), s⟩
      rintro ((⟨rfl, rfl, rfl⟩ | ⟨rfl, rfl, rfl⟩ | ⟨rfl, rfl, rfl⟩) | (⟨rfl, rfl, rfl⟩ | ⟨rfl, rfl, rfl⟩ | ⟨rfl, rfl, rfl⟩))
      · exact k1 s
      · exact k1 (s.trans (sc_rot _ _ _))
      · exact k1 (s.trans (sc_rot _ _ _).symm)
      · exact k2 (s.trans (sc_swap _ _ _))
      · exact k2 (s.trans (sc_swap2 _ _ _))
      · exact k2 (s.trans ((sc_rot _ _ _).symm.trans (sc_swap _ _ _)))
    · exact ⟨d, c, a, (hL _ _ _).mpr (Or.inl (Or.inl (tr_rot.refl _ _ _))), s.trans (sc_swap _ _ _)⟩
    · exact ⟨c, d, b, (hL _ _ _).mpr (Or.inl (Or.inr (tr_rot.refl _ _ _))), s⟩
theorem list4 {S : Nat → Prop} {u : Nat} (h : en_ S (u + 1 + 1) f) (hb : ∀ z, S z → z < 32768) (hT : ti_T (u + 1 + 1) f tb) {z1 z2 z3 z4 : Nat} (h1 : S z1) (h2 : S z2) (h12 : z2 ≠ z1) (h3 : ¬ S z3) (b3 : z3 < 32768) (h4 : ¬ S z4) (b4 : z4 < 32768) (h34 : z4 ≠ z3) : (∃ j, j < u + 1 + 1 ∧ tb j = nI z1) ∧ (∃ j, j < u + 1 ∧ r_take (u + 1) (r_pos (u + 1 + 1) tb (nI z1)) tb j = nI z2) ∧ ∃ f', en_ (fun x => (((S x ∧ x ≠ z1) ∧ x ≠ z2) ∨ x = z3) ∨ x = z4) (u + 1 + 1) f' ∧ ti_T (u + 1 + 1) f' (r_ins (r_ins (r_take u (r_pos (u + 1) (r_take (u + 1) (r_pos (u + 1 + 1) tb (nI z1)) tb) (nI z2)) (r_take (u + 1) (r_pos (u + 1 + 1) tb (nI z1)) tb)) (nI z3) u) (nI z4) (u + 1)) := by
  obtain ⟨x1, f1, e1, t1⟩ := list_take h hb hT h1
  obtain ⟨x2, f2, e2, t2⟩ := list_take e1 (fun z q => hb z q.1) t1 (z := z2) ⟨h2, h12⟩
  obtain ⟨f3, e3, t3⟩ := list_put e2 (fun z q => hb z q.1.1) t2 b3 (fun q => h3 q.1.1)
  obtain ⟨f4, e4, t4⟩ := list_put e3 (fun z q => by
    rcases q with q | q
    · exact hb z q.1.1
    · rw [q]; exact b3) t3 b4 (fun q => by
    rcases q with q | q
    · exact h4 q.1.1
    · exact h34 q)
  exact ⟨x1, x2, f4, e4, t4⟩
theorem flip_E (h : tr_Ok n P L) {a b c d : Nat} (q : tr_Quad n P L a b c d) {x y : Nat} (hE : tr_E L x y) (hne : ¬ ((x = a ∧ y = b) ∨ (x = b ∧ y = a))) : tr_E (tr_flip L a b c d) x y := by
  obtain ⟨z1, z2⟩ := tr_noedge h.pos h.tri h.un q
  have hL := tr_flip_iff h.tri q z1 z2
  have f1 : tr_flip L a b c d c a = some d := (hL _ _ _).mpr (Or.inl (Or.inl (Or.inr (Or.inl ⟨rfl, rfl, rfl⟩))))
  have f2 : tr_flip L a b c d a d = some c := (hL _ _ _).mpr (Or.inl (Or.inl (Or.inr (Or.inr ⟨rfl, rfl, rfl⟩))))
  have f3 : tr_flip L a b c d d b = some c := (hL _ _ _).mpr (Or.inl (Or.inr (Or.inr (Or.inl ⟨rfl, rfl, rfl⟩))))
  have f4 : tr_flip L a b c d b c = some d := (hL _ _ _).mpr (Or.inl (Or.inr (Or.inr (Or.inr ⟨rfl, rfl, rfl⟩))))
  have key : ∀ x y z, L x y = some z → ¬ ((x = a ∧ y = b) ∨ (x = b ∧ y = a)) → ∃ w, tr_flip L a b c d x y = some w := by
    intro x y z hz hne
    by_cases o : tr_rot a b c x y z ∨ tr_rot b a d x y z
    · rcases o with (⟨rfl, rfl, rfl⟩ | ⟨rfl, rfl, rfl⟩ | ⟨rfl, rfl, rfl⟩) | (⟨rfl, rfl, rfl⟩ | ⟨rfl, rfl, rfl⟩ | ⟨rfl, rfl, rfl⟩)
      · exact absurd (Or.inl ⟨rfl, rfl⟩) hne
      · exact ⟨_, f4⟩
      · exact ⟨_, f1⟩
      · exact absurd (Or.inr ⟨rfl, rfl⟩) hne
      · exact ⟨_, f2⟩
      · exact ⟨_, f3⟩
    · exact ⟨z, (hL _ _ _).mpr (Or.inr ⟨hz, o⟩)⟩
  rcases hE with ⟨z, hz⟩ | ⟨z, hz⟩
  · exact Or.inl (key x y z hz hne)
  · exact Or.inr (key y x z hz (fun q => hne (by omega)))
theorem flip_tie {u : Nat} (h : ti_A n (u + 1 + 1) P L St f) (hT : ti_T (u + 1 + 1) f tb) (hG : ti_G St sg) {a b c d : Nat} (q : tr_Quad n P L a b c d) (hs : St a b = false) {kc kd : Int32} (hk : (kc = nI c ∧ kd = nI d) ∨ (kc = nI d ∧ kd = nI c)) : r_okFl u tb (nI a) (nI b) kc kd ∧ ti_G St (r_let sg kc kd 0) ∧ ∃ f', ti_A n (u + 1 + 1) P (tr_flip L a b c d) St f' ∧ ti_T (u + 1 + 1) f' (r_flTb u tb (nI a) (nI b) kc kd) := by
  have hn := h.n17
  obtain ⟨z1, z2⟩ := tr_noedge h.ok.pos h.ok.tri h.ok.un q
  have q0 := q
  obtain ⟨qab, qba, q1, q2⟩ := q
  obtain ⟨ha, hb, hc, hp, e1⟩ := h.ok.tri a b c qab
  obtain ⟨-, -, hd, hp2, e2⟩ := h.ok.tri b a d qba
  obtain ⟨n1, n2, n3⟩ := tr_ne hp
  obtain ⟨n4, n5, n6⟩ := tr_ne hp2
  obtain ⟨n7, -, -⟩ := tr_ne q2
  have sz := fun z hz => tr_S_lt h.ok.tri hn (z := z) hz
  have s1 : tr_S L (sc a b c) := ⟨a, b, c, qab, rfl⟩
  have s2 : tr_S L (sc a b d) := ⟨b, a, d, qba, (sc_swap _ _ _).symm⟩
  have s12 : sc a b d ≠ sc a b c := fun e => by
    have := sc_inj (by omega) (by omega) (by omega) (by omega) (by omega) (by omega) e
    omega
  have no3 : ∀ w, w < n → ¬ tr_S L (sc c d w) := fun w hw k => by
    have := tr_S_edge h.ok.tri hn hc hd hw k
    rw [z1, z2] at this
    simp at this
  have s34 : sc c d b ≠ sc c d a := fun e => by
    have := sc_inj (by omega) (by omega) (by omega) (by omega) (by omega) (by omega) e
    omega
  have l3 := sc_lt (a := c) (b := d) (c := a) (by omega) (by omega) (by omega)
  have l4 := sc_lt (a := c) (b := d) (c := b) (by omega) (by omega) (by omega)
  have hcd : St c d = false := by
    cases e : St c d with
    | false => rfl
    | true =>
      rcases h.ed c d e with ⟨w, k⟩ | ⟨w, k⟩
      · rw [z1] at k; cases k
      · rw [z2] at k; cases k
  have fin : ∀ f', en_ (fun x => (((tr_S L x ∧ x ≠ sc a b c) ∧ x ≠ sc a b d) ∨ x = sc c d a) ∨ x = sc c d b) (u + 1 + 1) f' → ti_A n (u + 1 + 1) P (tr_flip L a b c d) St f' := by
    intro f' e
    refine ⟨h.ok.flip q0, h.n4, hn, h.t2, e.congr (fun z => tr_S_flip h.ok hn q0 z) (fun _ _ => rfl), fun x y k => ?_, h.sym⟩
    refine flip_E h.ok q0 (h.ed x y k) ?_
    rintro (⟨rfl, rfl⟩ | ⟨rfl, rfl⟩)
    · rw [hs] at k; cases k
    · rw [h.sym, hs] at k; cases k
  rcases hk with ⟨rfl, rfl⟩ | ⟨rfl, rfl⟩
  · obtain ⟨x1, x2, f', e, k⟩ := list4 h.en sz hT s1 s2 s12 (no3 a ha) l3 (no3 b hb) l4 s34
    have g := let_eq hG (a := c) (b := d) (by omega) (by omega) false
    refine ⟨?_, g.congr (fun i j hi hj => ?_), f', fin f' e, ?_⟩
    · unfold r_okFl r_tk1 r_p1
      rw [r_code_nI (by omega) (by omega) (by omega), r_code_nI (by omega) (by omega) (by omega)]
      exact ⟨vp_in_nI (by omega) (by decide), vp_in_nI (by omega) (by decide), x1, x2⟩
    · unfold st_set
      split
      · rename_i w
        rcases w with ⟨rfl, rfl⟩ | ⟨rfl, rfl⟩
        · exact hcd.symm
        · rw [h.sym]; exact hcd.symm
      · rfl
    · unfold r_flTb r_put r_p2 r_tk1 r_p1
      rw [r_code_nI (by omega) (by omega) (by omega), r_code_nI (by omega) (by omega) (by omega), r_code_nI (by omega) (by omega) (by omega), r_code_nI (by omega) (by omega) (by omega)]
      exact k
  · obtain ⟨x1, x2, f', e, k⟩ := list4 h.en sz hT s2 s1 s12.symm (no3 a ha) l3 (no3 b hb) l4 s34
    have g := let_eq hG (a := d) (b := c) (by omega) (by omega) false
    refine ⟨?_, g.congr (fun i j hi hj => ?_), f', fin f' (e.congr (fun z => ?_) (fun _ _ => rfl)), ?_⟩
    · unfold r_okFl r_tk1 r_p1
      rw [r_code_nI (by omega) (by omega) (by omega), r_code_nI (by omega) (by omega) (by omega)]
      exact ⟨vp_in_nI (by omega) (by decide), vp_in_nI (by omega) (by decide), x1, x2⟩
    · unfold st_set
      split
      · rename_i w
        rcases w with ⟨rfl, rfl⟩ | ⟨rfl, rfl⟩
        · rw [h.sym]; exact hcd.symm
        · exact hcd.symm
      · rfl
    · constructor
      · rintro ((⟨⟨k1, k2⟩, k3⟩ | k) | k)
        · exact Or.inl (Or.inl ⟨⟨k1, k3⟩, k2⟩)
        · exact Or.inl (Or.inr k)
        · exact Or.inr k
      · rintro ((⟨⟨k1, k2⟩, k3⟩ | k) | k)
        · exact Or.inl (Or.inl ⟨⟨k1, k3⟩, k2⟩)
        · exact Or.inl (Or.inr k)
        · exact Or.inr k
    · unfold r_flTb r_put r_p2 r_tk1 r_p1
      rw [r_code_nI (by omega) (by omega) (by omega), r_code_nI (by omega) (by omega) (by omega), r_code_nI (by omega) (by omega) (by omega), r_code_nI (by omega) (by omega) (by omega), sc_swap c d a, sc_swap c d b]
      exact k
/-- two triangles at least -/
theorem ti_two (h : ti_A n t P L St f) {a b c d : Nat} (e1 : L a b = some c) (e2 : L b a = some d) : ∃ u, t = u + 1 + 1 := by
  have hn := h.n17
  obtain ⟨ha, hb, hc, hp, -⟩ := h.ok.tri a b c e1
  obtain ⟨-, -, hd, hp2, -⟩ := h.ok.tri b a d e2
  obtain ⟨k1, h1, s1⟩ := h.en.2.2 _ ⟨a, b, c, e1, rfl⟩
  obtain ⟨k2, h2, s2⟩ := h.en.2.2 _ ⟨b, a, d, e2, rfl⟩
  have : k1 ≠ k2 := fun e => by
    rw [e, s2] at s1
    have r := tr_S_face h.ok.tri hn e2 e1 s1
    obtain ⟨n1, n2, n3⟩ := tr_ne hp
    unfold tr_rot at r
    omega
  exact ⟨t - 2, by omega⟩
/-- the class's side of a flip -/
theorem flip_m {f' : Nat → Nat} (h : ti_A n t P L St f) (hm : ti_m n t P L St f xs ys lf sy co) {a b c d : Nat} (q : tr_Quad n P L a b c d) (h' : ti_A n t P (tr_flip L a b c d) St f') : (m_list n (m_tE n xs ys lf (nI a) (nI b)) co).1 = t ∧ ti_m n t P (tr_flip L a b c d) St f' xs ys (m_tE n xs ys lf (nI a) (nI b)) sy (m_list n (m_tE n xs ys lf (nI a) (nI b)) co).2 := by
  obtain ⟨hX, hL, hS, hC⟩ := hm
  have k := tE_eq h.ok h.n17 hX hL q
  obtain ⟨e1, e2⟩ := list_eq h'.ok.tri h.n17 k h'.en (ti_t28 h') co
  exact ⟨e1, hX, k, hS, e2⟩
end F

