/-! the law's lists: rows in order, and pairs without an order -/
def sv_E (S : Nat → Prop) (t : Nat) (T : Nat → Nat → Int32) : Prop := (∀ z, S z → z < 32768) ∧ ∃ f, en_ S t f ∧ ∀ k, k < t → sr_z (f k) (T k)
section SE
variable {S S' : Nat → Prop} {t u : Nat} {T : Nat → Nat → Int32}
theorem sv_E.congr (h : sv_E S t T) (e : ∀ z, S' z ↔ S z) : sv_E S' t T := by
  obtain ⟨hb, f, h1, h2⟩ := h
  exact ⟨fun z q => hb z ((e z).mp q), f, h1.congr e (fun _ _ => rfl), h2⟩
theorem sv_E.rows (h : sv_E S t T) {f : Nat → Nat} (hf : en_ S t f) : sv_T t T (fun k => nI (f k)) ∧ ∀ k, k < t → sr_z (f k) (T k) := by
  obtain ⟨hb, f0, h1, h2⟩ := h
  have e := (h1.uniq hf).2
  have h3 : ∀ k, k < t → sr_z (f k) (T k) := fun k hk => by rw [← e k hk]; exact h2 k hk
  exact ⟨fun k hk => ⟨f k, hb _ (hf.2.1 k hk), rfl, h3 k hk⟩, h3⟩
theorem sv_T.toE {tb : Nat → Int32} (h : sv_T t T tb) (hb : ∀ z, S z → z < 32768) {f : Nat → Nat} (hf : en_ S t f) (hT : ti_T t f tb) : sv_E S t T := by
  refine ⟨hb, f, hf, fun k hk => ?_⟩
  obtain ⟨z, hz, e, r⟩ := h k hk
  have h1 := hb _ (hf.2.1 k hk)
  rw [hT k hk] at e
  rw [(nI_eq (by omega) (by omega)).mp e]; exact r
theorem sv_E.take (h : sv_E S (u + 1) T) {z : Nat} (hz : S z) {r : Nat → Int32} (hr : sr_z z r) : (s_to (u + 1) T r).1 = u ∧ sv_E (fun x => S x ∧ x ≠ z) u (s_to (u + 1) T r).2 := by
  obtain ⟨hb, f, h1, h2⟩ := h
  obtain ⟨hT, -⟩ := sv_E.rows ⟨hb, f, h1, h2⟩ h1
  have tT : ti_T (u + 1) f (fun k => nI (f k)) := fun k _ => rfl
  obtain ⟨e1, f', e2, e3⟩ := list_take h1 hb tT hz
  obtain ⟨e4, e5⟩ := sv_to hT (hb z hz) hr e1
  exact ⟨e4, sv_T.toE e5 (fun x q => hb x q.1) e2 e3⟩
theorem sv_E.put (h : sv_E S t T) {a b c : Nat} (ha : a < 32) (hb : b < 32) (hc : c < 32) (hn : ¬ S (sc a b c)) : sv_E (fun x => S x ∨ x = sc a b c) (t + 1) (s_put t T (s_three (nI a) (nI b) (nI c))) := by
  obtain ⟨hbd, f, h1, h2⟩ := h
  obtain ⟨hT, -⟩ := sv_E.rows ⟨hbd, f, h1, h2⟩ h1
  have tT : ti_T t f (fun k => nI (f k)) := fun k _ => rfl
  obtain ⟨f', e2, e3⟩ := list_put h1 hbd tT (sc_lt ha hb hc) hn
  have e5 := sv_put hT ha hb hc
  have e6 : r_put t (fun k => nI (f k)) (nI a) (nI b) (nI c) = r_ins (fun k => nI (f k)) (nI (sc a b c)) t := by unfold r_put; rw [r_code_nI ha hb hc]
  rw [e6] at e5
  exact sv_T.toE e5 (fun x q => q.elim (hbd x) (fun q => by rw [q]; exact sc_lt ha hb hc)) e2 e3
end SE
/-- a flip of the law's moor -/
theorem sv_flip {n u : Nat} {P : Nat → g_P} {L : Nat → Nat → Option Nat} {T : Nat → Nat → Int32} (h : tr_Ok n P L) (hn : n ≤ 17) (hE : sv_E (tr_S L) (u + 1 + 1) T) {a b c d : Nat} (q : tr_Quad n P L a b c d) (hf : ((s_fa T (nI a) (nI b) (u + 1 + 1)).2.1 = nI c ∧ (s_fa T (nI a) (nI b) (u + 1 + 1)).2.2 = nI d) ∨ ((s_fa T (nI a) (nI b) (u + 1 + 1)).2.1 = nI d ∧ (s_fa T (nI a) (nI b) (u + 1 + 1)).2.2 = nI c)) : (s_flip (u + 1 + 1) T (nI a) (nI b)).1 = u + 1 + 1 ∧ sv_E (tr_S (tr_flip L a b c d)) (u + 1 + 1) (s_flip (u + 1 + 1) T (nI a) (nI b)).2 := by
  obtain ⟨e1, e2, g1, g2⟩ := id q
  obtain ⟨ha, hb, hc, p1, -⟩ := h.tri _ _ _ e1
  obtain ⟨-, -, hd, p2, -⟩ := h.tri _ _ _ e2
  obtain ⟨n1, n2, n3⟩ := tr_ne p1
  obtain ⟨n4, n5, n6⟩ := tr_ne p2
  have ncd : c ≠ d := (tr_ne g2).1
  have S1 : tr_S L (sc a b c) := ⟨a, b, c, e1, rfl⟩
  have S2 : tr_S L (sc a b d) := ⟨b, a, d, e2, (sc_swap _ _ _).symm⟩
  have d12 : sc a b c ≠ sc a b d := fun w => by
    rcases sc_inj (by omega) (by omega) (by omega) (by omega) (by omega) (by omega) w with w | w | w | w | w | w <;> omega
  have d34 : sc c d a ≠ sc c d b := fun w => by
    rcases sc_inj (by omega) (by omega) (by omega) (by omega) (by omega) (by omega) w with w | w | w | w | w | w <;> omega
  have set := tr_S_flip h hn q
  -- neither of the new ones was there
  obtain ⟨z1, z2⟩ := tr_noedge h.pos h.tri h.un q
  have no : ∀ x, x = a ∨ x = b → ¬ tr_S L (sc c d x) := by
    intro x hx w
    have := tr_S_edge h.tri hn hc hd (show x < n by omega) w
    rw [z1, z2] at this
    simp at this
  have run : ∀ x y : Nat, (x = c ∧ y = d) ∨ (x = d ∧ y = c) → (s_fa T (nI a) (nI b) (u + 1 + 1)).2.1 = nI x → (s_fa T (nI a) (nI b) (u + 1 + 1)).2.2 = nI y → (s_flip (u + 1 + 1) T (nI a) (nI b)).1 = u + 1 + 1 ∧ sv_E (tr_S (tr_flip L a b c d)) (u + 1 + 1) (s_flip (u + 1 + 1) T (nI a) (nI b)).2 := by
    intro x y hxy f1 f2
    have hx : x < 32 := by omega
    have hy : y < 32 := by omega
    have T1 : tr_S L (sc a b x) := by rcases hxy with ⟨rfl, -⟩ | ⟨rfl, -⟩; exact S1; exact S2
    have T2 : tr_S L (sc a b y) := by rcases hxy with ⟨-, rfl⟩ | ⟨-, rfl⟩; exact S2; exact S1
    have dxy : sc a b y ≠ sc a b x := by rcases hxy with ⟨rfl, rfl⟩ | ⟨rfl, rfl⟩; exact d12.symm; exact d12
    have sx : ∀ z, sc x y z = sc c d z := fun z => by rcases hxy with ⟨rfl, rfl⟩ | ⟨rfl, rfl⟩; rfl; exact sc_swap _ _ _
    obtain ⟨t1, E1⟩ := hE.take T1 (sr_three (a := a) (b := b) (c := x) (by omega) (by omega) hx)
    obtain ⟨t2, E2⟩ := E1.take (u := u) ⟨T2, dxy⟩ (sr_three (a := a) (b := b) (c := y) (by omega) (by omega) hy)
    have E3 := E2.put (a := x) (b := y) (c := a) hx hy (by omega) (fun w => no a (Or.inl rfl) (by rw [← sx]; exact w.1.1))
    have E4 := E3.put (a := x) (b := y) (c := b) hx hy (by omega) (fun w => w.elim (fun w => no b (Or.inr rfl) (by rw [← sx]; exact w.1.1)) (fun w => d34 (by rw [← sx, ← sx]; exact w.symm)))
    have i1 : s_f1 (u + 1 + 1) T (nI a) (nI b) = s_to (u + 1 + 1) T (s_three (nI a) (nI b) (nI x)) := by unfold s_f1; rw [f1]
    have i2 : s_f2 (u + 1 + 1) T (nI a) (nI b) = s_to (u + 1) (s_to (u + 1 + 1) T (s_three (nI a) (nI b) (nI x))).2 (s_three (nI a) (nI b) (nI y)) := by unfold s_f2; rw [i1, f2, t1]
    unfold s_flip s_f3
    rw [i2, f1, f2, t2]
    refine ⟨rfl, E4.congr fun z => ?_⟩
    rw [set z, sx, sx]
    rcases hxy with ⟨rfl, rfl⟩ | ⟨rfl, rfl⟩
    · exact Iff.rfl
    · constructor
      · rintro (((⟨⟨w1, w2⟩, w3⟩) | w) | w)
        · exact Or.inl (Or.inl ⟨⟨w1, w3⟩, w2⟩)
        · exact Or.inl (Or.inr w)
        · exact Or.inr w
      · rintro (((⟨⟨w1, w2⟩, w3⟩) | w) | w)
        · exact Or.inl (Or.inl ⟨⟨w1, w3⟩, w2⟩)
        · exact Or.inl (Or.inr w)
        · exact Or.inr w
  rcases hf with ⟨f1, f2⟩ | ⟨f1, f2⟩
  · exact run c d (Or.inl ⟨rfl, rfl⟩) f1 f2
  · exact run d c (Or.inr ⟨rfl, rfl⟩) f1 f2
