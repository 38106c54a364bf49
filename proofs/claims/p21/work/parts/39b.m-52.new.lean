/-! a new cairn: the triangulation behind it -/
theorem tr_Ok.congr {n : Nat} {P P' : Nat → g_P} {L : Nat → Nat → Option Nat} (h : tr_Ok n P L) (e : ∀ i, i < n → P' i = P i) : tr_Ok n P' L := by
  have hT : tr_Tri n P' L := by
    intro a b c k
    obtain ⟨h1, h2, h3, h4, h5⟩ := h.tri a b c k
    exact ⟨h1, h2, h3, by rw [e a h1, e b h2, e c h3]; exact h4, h5⟩
  refine ⟨⟨fun i hi => by rw [e i hi]; exact h.pos.1 i hi, fun i j hi hj q => h.pos.2 i j hi hj (by rw [← e i hi, ← e j hj]; exact q)⟩, hT, ?_, ?_, ?_, h.conn⟩
  · intro Q hQ a b c a' b' c' k1 k2
    have tin : ∀ x y z, tr_In P' L x y z Q → tr_In P L x y z Q := by
      intro x y z k
      obtain ⟨h1, h2, h3, -, -⟩ := h.tri x y z k.1
      refine ⟨k.1, ?_⟩
      have := k.2
      rwa [e x h1, e y h2, e z h3] at this
    refine h.un Q (fun i j hi hj hij => ?_) a b c a' b' c' (tin _ _ _ k1) (tin _ _ _ k2)
    have := hQ i j hi hj hij
    rwa [e i hi, e j hj] at this
  · intro q hq
    obtain ⟨a, b, c, k, w⟩ := h.cov q hq
    obtain ⟨h1, h2, h3, -, -⟩ := h.tri a b c k
    exact ⟨a, b, c, k, by rw [e a h1, e b h2, e c h3]; exact w⟩
  · intro a b c k k2
    obtain ⟨h1, h2, h3, -, -⟩ := h.tri a b c k
    rw [e a h1, e b h2]; exact h.bd a b c k k2
section I
variable {n : Nat} {P : Nat → g_P} {L : Nat → Nat → Option Nat}
/-- nothing is known of the new cairn -/
theorem tr_new (h : tr_Tri n P L) (x : Nat) : L x n = none ∧ L n x = none := by
  constructor
  · cases e : L x n with
    | none => rfl
    | some z => have := (h _ _ _ e).2.1; omega
  · cases e : L n x with
    | none => rfl
    | some z => have := (h _ _ _ e).1; omega
def in_3 (L : Nat → Nat → Option Nat) (n a b c : Nat) : Nat → Nat → Option Nat := tr_put (tr_put (tr_put (tr_del L a b c) a b n) b c n) c a n
def in_1 (L : Nat → Nat → Option Nat) (n a b c : Nat) : Nat → Nat → Option Nat := tr_put (tr_put (tr_del L a b c) n c a) n b c
def in_2 (L : Nat → Nat → Option Nat) (n a b d : Nat) : Nat → Nat → Option Nat := tr_put (tr_put (tr_del L a d b) n a d) n d b
theorem in_3_iff (h : tr_Tri n P L) {a b c : Nat} (e : L a b = some c) (x y z : Nat) : in_3 L n a b c x y = some z ↔ (tr_rot a b n x y z ∨ tr_rot b c n x y z ∨ tr_rot c a n x y z) ∨ (L x y = some z ∧ ¬ tr_rot a b c x y z) := by
  obtain ⟨ha, hb, hc, hp, e1⟩ := h a b c e
  obtain ⟨n1, n2, n3⟩ := tr_ne hp
  have e2 := h.rot2 e
  have a1 : a ≠ n := by omega
  have a2 : b ≠ n := by omega
  have a3 : c ≠ n := by omega
  have k1 := (tr_new h a).1
  have k2 := (tr_new h a).2
  have k3 := (tr_new h b).1
  have k4 := (tr_new h b).2
  have k5 := (tr_new h c).1
  have k6 := (tr_new h c).2
  clear h hp ha hb hc
  unfold in_3 tr_put tr_del tr_set3 tr_rot
  grind (splits := 80)
theorem in_1_iff (h : tr_Tri n P L) {a b c : Nat} (e : L a b = some c) (x y z : Nat) : in_1 L n a b c x y = some z ↔ (tr_rot a n c x y z ∨ tr_rot n b c x y z) ∨ (L x y = some z ∧ ¬ tr_rot a b c x y z) := by
  obtain ⟨ha, hb, hc, hp, e1⟩ := h a b c e
  obtain ⟨n1, n2, n3⟩ := tr_ne hp
  have e2 := h.rot2 e
  have a1 : a ≠ n := by omega
  have a2 : b ≠ n := by omega
  have a3 : c ≠ n := by omega
  have k1 := (tr_new h a).1
  have k2 := (tr_new h a).2
  have k3 := (tr_new h b).1
  have k4 := (tr_new h b).2
  have k5 := (tr_new h c).1
  have k6 := (tr_new h c).2
  clear h hp ha hb hc
  unfold in_1 tr_put tr_del tr_set3 tr_rot
  grind (splits := 80)
theorem in_2_iff (h : tr_Tri n P L) {a b d : Nat} (e : L b a = some d) (x y z : Nat) : in_2 L n a b d x y = some z ↔ (tr_rot b n d x y z ∨ tr_rot n a d x y z) ∨ (L x y = some z ∧ ¬ tr_rot b a d x y z) := by
  obtain ⟨ha, hb, hc, hp, e1⟩ := h b a d e
  obtain ⟨n1, n2, n3⟩ := tr_ne hp
  have e2 := h.rot2 e
  have a1 : a ≠ n := by omega
  have a2 : b ≠ n := by omega
  have a3 : d ≠ n := by omega
  have k1 := (tr_new h a).1
  have k2 := (tr_new h a).2
  have k3 := (tr_new h b).1
  have k4 := (tr_new h b).2
  have k5 := (tr_new h d).1
  have k6 := (tr_new h d).2
  clear h hp ha hb hc
  unfold in_2 tr_put tr_del tr_set3 tr_rot
  grind (splits := 80)
theorem in_12_iff (h : tr_Tri n P L) {a b c d : Nat} (e : L a b = some c) (f : L b a = some d) (x y z : Nat) : in_2 (in_1 L n a b c) n a b d x y = some z ↔ ((tr_rot a n c x y z ∨ tr_rot n b c x y z) ∨ tr_rot b n d x y z ∨ tr_rot n a d x y z) ∨ (L x y = some z ∧ ¬ (tr_rot a b c x y z ∨ tr_rot b a d x y z)) := by
  obtain ⟨ha, hb, hc, hp, e1⟩ := h a b c e
  obtain ⟨n1, n2, n3⟩ := tr_ne hp
  obtain ⟨-, -, hd, hp2, f1⟩ := h b a d f
  obtain ⟨n4, n5, n6⟩ := tr_ne hp2
  have e2 := h.rot2 e
  have f2 := h.rot2 f
  have ncd : c ≠ d := by
    rintro rfl
    have := gO_swap (P a) (P b) (P c)
    omega
  have a1 : a ≠ n := by omega
  have a2 : b ≠ n := by omega
  have a3 : c ≠ n := by omega
  have a4 : d ≠ n := by omega
  have k1 := (tr_new h a).1
  have k2 := (tr_new h a).2
  have k3 := (tr_new h b).1
  have k4 := (tr_new h b).2
  have k5 := (tr_new h c).1
  have k6 := (tr_new h c).2
  have k7 := (tr_new h d).1
  have k8 := (tr_new h d).2
  clear h hp hp2 ha hb hc hd
  unfold in_2 in_1 tr_put tr_del tr_set3 tr_rot
  grind (splits := 120)
end I
/-! a new cairn: its codes, its edges -/
theorem rot_sc {a b c x y z : Nat} (r : tr_rot a b c x y z) : sc x y z = sc a b c := by
  rcases r with ⟨rfl, rfl, rfl⟩ | ⟨rfl, rfl, rfl⟩ | ⟨rfl, rfl, rfl⟩
  · rfl
  · exact sc_rot _ _ _
  · exact (sc_rot _ _ _).symm
theorem tr_S_re {L L' : Nat → Nat → Option Nat} {N O : Nat → Nat → Nat → Prop} {Nz Oz : Nat → Prop} (hL : ∀ x y z, L' x y = some z ↔ N x y z ∨ (L x y = some z ∧ ¬ O x y z)) (hN : ∀ z, (∃ x y w, N x y w ∧ z = sc x y w) ↔ Nz z) (hO : ∀ x y w, L x y = some w → (O x y w ↔ Oz (sc x y w))) (z : Nat) : tr_S L' z ↔ (tr_S L z ∧ ¬ Oz z) ∨ Nz z := by
  constructor
  · rintro ⟨x, y, w, e, s⟩
    rcases (hL _ _ _).mp e with k | ⟨k, k'⟩
    · exact Or.inr ((hN z).mp ⟨x, y, w, k, s⟩)
    · exact Or.inl ⟨⟨x, y, w, k, s⟩, fun q => k' ((hO x y w k).mpr (by rw [← s]; exact q))⟩
  · rintro (⟨⟨x, y, w, k, s⟩, k'⟩ | k)
    · exact ⟨x, y, w, (hL _ _ _).mpr (Or.inr ⟨k, fun q => k' (by rw [s]; exact (hO x y w k).mp q)⟩), s⟩
    · obtain ⟨x, y, w, k, s⟩ := (hN z).mpr k
      exact ⟨x, y, w, (hL _ _ _).mpr (Or.inl k), s⟩
def cutSt (St : Nat → Nat → Bool) (n a b : Nat) : Nat → Nat → Bool := if St a b = true then st_set (st_set (st_set St a b false) a n true) b n true else St
section I
variable {n : Nat} {P : Nat → g_P} {L L' : Nat → Nat → Option Nat} {St : Nat → Nat → Bool}
theorem tr_S_in3 (h : tr_Tri n P L) (hn : n ≤ 17) {a b c : Nat} (e : L a b = some c) (hL : ∀ x y z, L' x y = some z ↔ (tr_rot a b n x y z ∨ tr_rot b c n x y z ∨ tr_rot c a n x y z) ∨ (L x y = some z ∧ ¬ tr_rot a b c x y z)) (z : Nat) : tr_S L' z ↔ ((((tr_S L z ∧ z ≠ sc a b c) ∨ z = sc a b n) ∨ z = sc b c n) ∨ z = sc c a n) := by
  rw [tr_S_re (Nz := fun z => z = sc a b n ∨ z = sc b c n ∨ z = sc c a n) (Oz := fun z => z = sc a b c) hL (fun z => ⟨?_, ?_⟩) (fun x y w k => ⟨fun r => rot_sc r, fun q => tr_S_face h hn e k q.symm⟩) z]
  · constructor
    · rintro (q | q | q | q)
      · exact Or.inl (Or.inl (Or.inl q))
      · exact Or.inl (Or.inl (Or.inr q))
      · exact Or.inl (Or.inr q)
      · exact Or.inr q
    · rintro (((q | q) | q) | q)
      · exact Or.inl q
      · exact Or.inr (Or.inl q)
      · exact Or.inr (Or.inr (Or.inl q))
      · exact Or.inr (Or.inr (Or.inr q))
  · rintro ⟨x, y, w, r | r | r, s⟩
    · exact Or.inl (s.trans (rot_sc r))
    · exact Or.inr (Or.inl (s.trans (rot_sc r)))
    · exact Or.inr (Or.inr (s.trans (rot_sc r)))
  · rintro (q | q | q)
    · exact ⟨_, _, _, Or.inl (tr_rot.refl _ _ _), q⟩
    · exact ⟨_, _, _, Or.inr (Or.inl (tr_rot.refl _ _ _)), q⟩
    · exact ⟨_, _, _, Or.inr (Or.inr (tr_rot.refl _ _ _)), q⟩
theorem tr_S_in1 (h : tr_Tri n P L) (hn : n ≤ 17) {a b c : Nat} (e : L a b = some c) (hL : ∀ x y z, L' x y = some z ↔ (tr_rot a n c x y z ∨ tr_rot n b c x y z) ∨ (L x y = some z ∧ ¬ tr_rot a b c x y z)) (z : Nat) : tr_S L' z ↔ (((tr_S L z ∧ z ≠ sc a b c) ∨ z = sc a c n) ∨ z = sc b c n) := by
  have s1 : sc a n c = sc a c n := sc_swap2 _ _ _
  have s2 : sc n b c = sc b c n := (sc_rot _ _ _).symm
  rw [tr_S_re (Nz := fun z => z = sc a c n ∨ z = sc b c n) (Oz := fun z => z = sc a b c) hL (fun z => ⟨?_, ?_⟩) (fun x y w k => ⟨fun r => rot_sc r, fun q => tr_S_face h hn e k q.symm⟩) z]
  · constructor
    · rintro (q | q | q)
      · exact Or.inl (Or.inl q)
      · exact Or.inl (Or.inr q)
      · exact Or.inr q
    · rintro ((q | q) | q)
      · exact Or.inl q
      · exact Or.inr (Or.inl q)
      · exact Or.inr (Or.inr q)
  · rintro ⟨x, y, w, r | r, s⟩
    · exact Or.inl (s.trans ((rot_sc r).trans s1))
    · exact Or.inr (s.trans ((rot_sc r).trans s2))
  · rintro (q | q)
    · exact ⟨_, _, _, Or.inl (tr_rot.refl _ _ _), q.trans s1.symm⟩
    · exact ⟨_, _, _, Or.inr (tr_rot.refl _ _ _), q.trans s2.symm⟩
theorem tr_S_in12 (h : tr_Tri n P L) (hn : n ≤ 17) {a b c d : Nat} (e : L a b = some c) (f : L b a = some d) (hL : ∀ x y z, L' x y = some z ↔ ((tr_rot a n c x y z ∨ tr_rot n b c x y z) ∨ tr_rot b n d x y z ∨ tr_rot n a d x y z) ∨ (L x y = some z ∧ ¬ (tr_rot a b c x y z ∨ tr_rot b a d x y z))) (z : Nat) : tr_S L' z ↔ ((((((tr_S L z ∧ z ≠ sc a b c) ∧ z ≠ sc a b d) ∨ z = sc a c n) ∨ z = sc b c n) ∨ z = sc a d n) ∨ z = sc b d n) := by
  have s1 : sc a n c = sc a c n := sc_swap2 _ _ _
  have s2 : sc n b c = sc b c n := (sc_rot _ _ _).symm
  have s3 : sc b n d = sc b d n := sc_swap2 _ _ _
  have s4 : sc n a d = sc a d n := (sc_rot _ _ _).symm
  rw [tr_S_re (Nz := fun z => (z = sc a c n ∨ z = sc b c n) ∨ z = sc b d n ∨ z = sc a d n) (Oz := fun z => z = sc a b c ∨ z = sc a b d) hL (fun z => ⟨?_, ?_⟩) (fun x y w k => ⟨?_, ?_⟩) z]
  · constructor
    · rintro (⟨q, q'⟩ | (q | q) | q | q)
      · exact Or.inl (Or.inl (Or.inl (Or.inl ⟨⟨q, fun w => q' (Or.inl w)⟩, fun w => q' (Or.inr w)⟩)))
      · exact Or.inl (Or.inl (Or.inl (Or.inr q)))
      · exact Or.inl (Or.inl (Or.inr q))
      · exact Or.inr q
      · exact Or.inl (Or.inr q)
    · rintro ((((⟨⟨q, q1⟩, q2⟩ | q) | q) | q) | q)
      · exact Or.inl ⟨q, fun w => w.elim q1 q2⟩
      · exact Or.inr (Or.inl (Or.inl q))
      · exact Or.inr (Or.inl (Or.inr q))
      · exact Or.inr (Or.inr (Or.inr q))
      · exact Or.inr (Or.inr (Or.inl q))
  · rintro ⟨x, y, w, (r | r) | r | r, s⟩
    · exact Or.inl (Or.inl (s.trans ((rot_sc r).trans s1)))
    · exact Or.inl (Or.inr (s.trans ((rot_sc r).trans s2)))
    · exact Or.inr (Or.inl (s.trans ((rot_sc r).trans s3)))
    · exact Or.inr (Or.inr (s.trans ((rot_sc r).trans s4)))
  · rintro ((q | q) | q | q)
    · exact ⟨_, _, _, Or.inl (Or.inl (tr_rot.refl _ _ _)), q.trans s1.symm⟩
    · exact ⟨_, _, _, Or.inl (Or.inr (tr_rot.refl _ _ _)), q.trans s2.symm⟩
    · exact ⟨_, _, _, Or.inr (Or.inl (tr_rot.refl _ _ _)), q.trans s3.symm⟩
    · exact ⟨_, _, _, Or.inr (Or.inr (tr_rot.refl _ _ _)), q.trans s4.symm⟩
  · rintro (r | r)
    · exact Or.inl (rot_sc r)
    · exact Or.inr ((rot_sc r).trans (sc_swap _ _ _))
  · rintro (q | q)
    · exact Or.inl (tr_S_face h hn e k q.symm)
    · exact Or.inr (tr_S_face h hn f k ((sc_swap _ _ _).trans q.symm))
/-- edges stay edges, but the one that is cut -/
theorem E_of {N O : Nat → Nat → Nat → Prop} (hL : ∀ x y z, L' x y = some z ↔ N x y z ∨ (L x y = some z ∧ ¬ O x y z)) {X : Nat → Nat → Prop} (hO : ∀ x y z, O x y z → ¬ X x y → (∃ w, N x y w) ∨ ∃ w, N y x w) (hs : ∀ x y, X x y → X y x) {x y : Nat} (hE : tr_E L x y) (hX : ¬ X x y) : tr_E L' x y := by
  have key : ∀ x y z, L x y = some z → ¬ X x y → tr_E L' x y := by
    intro x y z k hX
    by_cases o : O x y z
    · rcases hO x y z o hX with ⟨w, q⟩ | ⟨w, q⟩
      · exact Or.inl ⟨w, (hL _ _ _).mpr (Or.inl q)⟩
      · exact Or.inr ⟨w, (hL _ _ _).mpr (Or.inl q)⟩
    · exact Or.inl ⟨z, (hL _ _ _).mpr (Or.inr ⟨k, o⟩)⟩
  rcases hE with ⟨z, k⟩ | ⟨z, k⟩
  · exact key x y z k hX
  · exact (key y x z k (fun q => hX (hs _ _ q))).symm
theorem E_in3 {a b c : Nat} (hL : ∀ x y z, L' x y = some z ↔ (tr_rot a b n x y z ∨ tr_rot b c n x y z ∨ tr_rot c a n x y z) ∨ (L x y = some z ∧ ¬ tr_rot a b c x y z)) {x y : Nat} (hE : tr_E L x y) : tr_E L' x y := by
  refine E_of (X := fun _ _ => False) hL ?_ (fun _ _ => id) hE id
  rintro x y z (⟨rfl, rfl, rfl⟩ | ⟨rfl, rfl, rfl⟩ | ⟨rfl, rfl, rfl⟩) -
  · exact Or.inl ⟨n, Or.inl (tr_rot.refl _ _ _)⟩
  · exact Or.inl ⟨n, Or.inr (Or.inl (tr_rot.refl _ _ _))⟩
  · exact Or.inl ⟨n, Or.inr (Or.inr (tr_rot.refl _ _ _))⟩
abbrev isP (a b x y : Nat) : Prop := (x = a ∧ y = b) ∨ (x = b ∧ y = a)
theorem E_in1 {a b c : Nat} (hL : ∀ x y z, L' x y = some z ↔ (tr_rot a n c x y z ∨ tr_rot n b c x y z) ∨ (L x y = some z ∧ ¬ tr_rot a b c x y z)) : (∀ {x y : Nat}, tr_E L x y → ¬ isP a b x y → tr_E L' x y) ∧ tr_E L' a n ∧ tr_E L' b n := by
  refine ⟨fun hE hX => E_of (X := isP a b) hL ?_ (fun x y q => by unfold isP at *; omega) hE hX, Or.inl ⟨c, (hL _ _ _).mpr (Or.inl (Or.inl (tr_rot.refl _ _ _)))⟩, Or.inr ⟨c, (hL _ _ _).mpr (Or.inl (Or.inr (tr_rot.refl _ _ _)))⟩⟩
  rintro x y z (⟨rfl, rfl, rfl⟩ | ⟨rfl, rfl, rfl⟩ | ⟨rfl, rfl, rfl⟩) hx
  · exact absurd (Or.inl ⟨rfl, rfl⟩) hx
  · exact Or.inl ⟨n, Or.inr (tr_rot.refl _ _ _).next⟩
  · exact Or.inl ⟨n, Or.inl (tr_rot.refl _ _ _).next.next⟩
theorem E_in12 {a b c d : Nat} (hL : ∀ x y z, L' x y = some z ↔ ((tr_rot a n c x y z ∨ tr_rot n b c x y z) ∨ tr_rot b n d x y z ∨ tr_rot n a d x y z) ∨ (L x y = some z ∧ ¬ (tr_rot a b c x y z ∨ tr_rot b a d x y z))) : (∀ {x y : Nat}, tr_E L x y → ¬ isP a b x y → tr_E L' x y) ∧ tr_E L' a n ∧ tr_E L' b n := by
  refine ⟨fun hE hX => E_of (X := isP a b) hL ?_ (fun x y q => by unfold isP at *; omega) hE hX, Or.inl ⟨c, (hL _ _ _).mpr (Or.inl (Or.inl (Or.inl (tr_rot.refl _ _ _))))⟩, Or.inr ⟨c, (hL _ _ _).mpr (Or.inl (Or.inl (Or.inr (tr_rot.refl _ _ _))))⟩⟩
  rintro x y z ((⟨rfl, rfl, rfl⟩ | ⟨rfl, rfl, rfl⟩ | ⟨rfl, rfl, rfl⟩) | (⟨rfl, rfl, rfl⟩ | ⟨rfl, rfl, rfl⟩ | ⟨rfl, rfl, rfl⟩)) hx
  · exact absurd (Or.inl ⟨rfl, rfl⟩) hx
  · exact Or.inl ⟨n, Or.inl (Or.inr (tr_rot.refl _ _ _).next)⟩
  · exact Or.inl ⟨n, Or.inl (Or.inl (tr_rot.refl _ _ _).next.next)⟩
  · exact absurd (Or.inr ⟨rfl, rfl⟩) hx
  · exact Or.inl ⟨n, Or.inr (Or.inr (tr_rot.refl _ _ _).next)⟩
  · exact Or.inl ⟨n, Or.inr (Or.inl (tr_rot.refl _ _ _).next.next)⟩
/-- what stays behind the cut is an edge -/
theorem cutSt_ed {a b : Nat} (hed : ∀ i j, St i j = true → tr_E L i j) (hsym : ∀ i j, St i j = St j i) (hE : (∀ {x y : Nat}, tr_E L x y → ¬ isP a b x y → tr_E L' x y) ∧ tr_E L' a n ∧ tr_E L' b n) : (∀ i j, cutSt St n a b i j = true → tr_E L' i j) ∧ ∀ i j, cutSt St n a b i j = cutSt St n a b j i := by
  obtain ⟨e1, e2, e3⟩ := hE
  unfold cutSt
  by_cases hab : St a b = true
  · rw [if_pos hab]
    constructor
    · intro i j k
      unfold st_set at k
      split at k
      · rename_i w
        rcases w with ⟨rfl, rfl⟩ | ⟨rfl, rfl⟩
        · exact e3
        · exact e3.symm
      · split at k
        · rename_i w
          rcases w with ⟨rfl, rfl⟩ | ⟨rfl, rfl⟩
          · exact e2
          · exact e2.symm
        · split at k
          · cases k
          · rename_i w
            exact e1 (hed i j k) w
    · intro i j
      unfold st_set
      have s := hsym i j
      by_cases w1 : (i = b ∧ j = n) ∨ (i = n ∧ j = b)
      · rw [if_pos w1, if_pos (by omega)]
      · rw [if_neg w1, if_neg (show ¬ ((j = b ∧ i = n) ∨ (j = n ∧ i = b)) by omega)]
        by_cases w2 : (i = a ∧ j = n) ∨ (i = n ∧ j = a)
        · rw [if_pos w2, if_pos (by omega)]
        · rw [if_neg w2, if_neg (show ¬ ((j = a ∧ i = n) ∨ (j = n ∧ i = a)) by omega)]
          by_cases w3 : (i = a ∧ j = b) ∨ (i = b ∧ j = a)
          · rw [if_pos w3, if_pos (by omega)]
          · rw [if_neg w3, if_neg (show ¬ ((j = a ∧ i = b) ∨ (j = b ∧ i = a)) by omega)]; exact s
  · rw [if_neg hab]
    refine ⟨fun i j k => e1 (hed i j k) ?_, hsym⟩
    rintro (⟨rfl, rfl⟩ | ⟨rfl, rfl⟩)
    · exact hab k
    · rw [hsym] at k; exact hab k
end I

