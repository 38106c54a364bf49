/-! pairs that are counted once -/
def cnt (p : Nat → Nat → Bool) (n : Nat) : Nat := rg_sum (fun a => rg_ct (fun b => if b ≤ a then false else p a b) n) n
theorem rg_sum_one {f g : Nat → Nat} {a : Nat} : ∀ {n : Nat}, (∀ i, i < n → i ≠ a → f i = g i) → a < n → f a = g a + 1 → rg_sum f n = rg_sum g n + 1
  | 0, _, h, _ => absurd h (Nat.not_lt_zero _)
  | n + 1, h, ha, e => by
    show rg_sum f n + f n = rg_sum g n + g n + 1
    by_cases w : a = n
    · subst w
      rw [rg_sum_congr (p := f) (q := g) (k := a) (fun i hi => h i (by omega) (by omega)), e]; omega
    · have := rg_sum_one (f := f) (g := g) (a := a) (n := n) (fun i hi => h i (by omega)) (by omega) e
      rw [this, h n (by omega) (by omega)]; omega
theorem rg_sum_add {f g : Nat → Nat} : ∀ n : Nat, rg_sum (fun i => f i + g i) n = rg_sum f n + rg_sum g n
  | 0 => rfl
  | n + 1 => by
    show rg_sum (fun i => f i + g i) n + (f n + g n) = rg_sum f n + f n + (rg_sum g n + g n)
    rw [rg_sum_add n]; omega
theorem rg_sum_ct {p : Nat → Bool} : ∀ n : Nat, rg_sum (fun i => if p i = true then 1 else 0) n = rg_ct p n
  | 0 => rfl
  | n + 1 => by
    show rg_sum (fun i => if p i = true then 1 else 0) n + (if p n = true then 1 else 0) = rg_ct p n + (if p n = true then 1 else 0)
    rw [rg_sum_ct n]
section CNT
variable {p q : Nat → Nat → Bool} {n a b : Nat}
theorem cnt_congr (h : ∀ x y, x < y → y < n → p x y = q x y) : cnt p n = cnt q n := by
  unfold cnt
  refine rg_sum_congr fun x hx => rg_ct_congr fun y hy => ?_
  by_cases w : y ≤ x
  · rw [if_pos w, if_pos w]
  · rw [if_neg w, if_neg w]; exact h x y (by omega) hy
theorem cnt_set (hab : a < b) (hb : b < n) (hp : p a b = true) (hq : q a b = false) (h : ∀ x y, x < y → y < n → ¬ (x = a ∧ y = b) → p x y = q x y) : cnt p n = cnt q n + 1 := by
  unfold cnt
  refine rg_sum_one (a := a) (fun x hx hne => ?_) (by omega) ?_
  · refine rg_ct_congr fun y hy => ?_
    by_cases w : y ≤ x
    · rw [if_pos w, if_pos w]
    · rw [if_neg w, if_neg w]; exact h x y (by omega) hy (by omega)
  · rw [rg_ct_del (q := fun y => if y ≤ a then false else p a y) (k := b) (by show (if b ≤ a then false else p a b) = true; rw [if_neg (by omega)]; exact hp) n hb]
    congr 1
    refine rg_ct_congr fun y hy => ?_
    by_cases w : y = b
    · subst w; rw [if_pos rfl, if_neg (by omega)]; exact hq.symm
    · rw [if_neg w]
      by_cases w2 : y ≤ a
      · rw [if_pos w2, if_pos w2]
      · rw [if_neg w2, if_neg w2]; exact h a y (by omega) hy (by omega)
theorem cnt_set2 (hne : a ≠ b) (ha : a < n) (hb : b < n) (hp : p a b = true) (hp2 : p b a = true) (hq : q a b = false) (hq2 : q b a = false) (h : ∀ x y, x < n → y < n → ¬ ((x = a ∧ y = b) ∨ (x = b ∧ y = a)) → p x y = q x y) : cnt p n = cnt q n + 1 := by
  rcases Nat.lt_or_ge a b with w | w
  · exact cnt_set w hb hp hq (fun x y h1 h2 h3 => h x y (by omega) h2 (by omega))
  · exact cnt_set (a := b) (b := a) (by omega) ha hp2 hq2 (fun x y h1 h2 h3 => h x y (by omega) h2 (by omega))
theorem cnt_succ : cnt p (n + 1) = cnt p n + rg_ct (fun x => p x n) n := by
  unfold cnt
  show rg_sum (fun a => rg_ct (fun b => if b ≤ a then false else p a b) (n + 1)) n + rg_ct (fun b => if b ≤ n then false else p n b) (n + 1) = _
  have e1 : rg_ct (fun b => if b ≤ n then false else p n b) (n + 1) = 0 := by
    rw [rg_ct_congr (q := fun _ => false) (fun j hj => if_pos (by omega))]
    have z : ∀ k, rg_ct (fun _ : Nat => false) k = 0 := fun k => by
      induction k with
      | zero => rfl
      | succ k ih => show rg_ct (fun _ : Nat => false) k + 0 = 0; rw [ih]
    exact z _
  rw [e1, Nat.add_zero, ← rg_sum_ct (p := fun x => p x n), ← rg_sum_add]
  refine rg_sum_congr fun x hx => ?_
  show rg_ct (fun b => if b ≤ x then false else p x b) n + (if (if n ≤ x then false else p x n) = true then 1 else 0) = _
  rw [if_neg (show ¬ n ≤ x by omega)]
end CNT
/-- edges, border edges -/
def ecn (L : Nat → Nat → Option Nat) (n : Nat) : Nat := cnt (eB L) n
def bB (L : Nat → Nat → Option Nat) (a b : Nat) : Bool := eB L a b && !iB L a b
def bcn (L : Nat → Nat → Option Nat) (n : Nat) : Nat := cnt (bB L) n
abbrev eu_ (n t : Nat) (L : Nat → Nat → Option Nat) : Prop := ecn L n + 1 = n + t ∧ 2 * ecn L n = 3 * t + bcn L n
theorem eB_swap (L : Nat → Nat → Option Nat) (a b : Nat) : eB L a b = eB L b a := Bool.or_comm _ _
theorem iB_swap (L : Nat → Nat → Option Nat) (a b : Nat) : iB L a b = iB L b a := Bool.and_comm _ _
theorem bB_swap (L : Nat → Nat → Option Nat) (a b : Nat) : bB L a b = bB L b a := by unfold bB; rw [eB_swap, iB_swap]
theorem flip_some {L : Nat → Nat → Option Nat} {n : Nat} {P : Nat → g_P} (h : tr_Ok n P L) {a b c d : Nat} (q : tr_Quad n P L a b c d) (x y : Nat) : (tr_flip L a b c d x y).isSome = if (x = a ∧ y = b) ∨ (x = b ∧ y = a) then false else if (x = c ∧ y = d) ∨ (x = d ∧ y = c) then true else (L x y).isSome := by
  obtain ⟨e1, e2, g1, g2⟩ := id q
  obtain ⟨ha, hb, hc, p1, k1⟩ := h.tri _ _ _ e1
  obtain ⟨-, -, hd, p2, k2⟩ := h.tri _ _ _ e2
  obtain ⟨n1, n2, n3⟩ := tr_ne p1
  obtain ⟨n4, n5, n6⟩ := tr_ne p2
  have ncd : c ≠ d := (tr_ne g2).1
  have r1 := h.tri.rot2 e1
  have r2 := h.tri.rot2 e2
  unfold tr_flip
  grind (splits := 40)
theorem eu_.flip {n t : Nat} {L : Nat → Nat → Option Nat} {P : Nat → g_P} (hu : eu_ n t L) (h : tr_Ok n P L) {a b c d : Nat} (q : tr_Quad n P L a b c d) : eu_ n t (tr_flip L a b c d) := by
  obtain ⟨z1, z2⟩ := tr_noedge h.pos h.tri h.un q
  obtain ⟨e1, e2, g1, g2⟩ := id q
  obtain ⟨ha, hb, hc, p1, k1⟩ := h.tri _ _ _ e1
  obtain ⟨-, -, hd, p2, k2⟩ := h.tri _ _ _ e2
  obtain ⟨n1, n2, n3⟩ := tr_ne p1
  obtain ⟨n4, n5, n6⟩ := tr_ne p2
  have ncd : c ≠ d := (tr_ne g2).1
  have fs := flip_some h q
  have eE : ∀ x y, eB (tr_flip L a b c d) x y = if (x = a ∧ y = b) ∨ (x = b ∧ y = a) then false else if (x = c ∧ y = d) ∨ (x = d ∧ y = c) then true else eB L x y := fun x y => by
    unfold eB; rw [fs, fs]
    by_cases w : (x = a ∧ y = b) ∨ (x = b ∧ y = a)
    · rw [if_pos w, if_pos w, if_pos (by omega)]; rfl
    · rw [if_neg w, if_neg w, if_neg (show ¬ ((y = a ∧ x = b) ∨ (y = b ∧ x = a)) by omega)]
      by_cases w2 : (x = c ∧ y = d) ∨ (x = d ∧ y = c)
      · rw [if_pos w2, if_pos w2]; rfl
      · rw [if_neg w2, if_neg w2, if_neg (show ¬ ((y = c ∧ x = d) ∨ (y = d ∧ x = c)) by omega)]
  have eI : ∀ x y, iB (tr_flip L a b c d) x y = if (x = a ∧ y = b) ∨ (x = b ∧ y = a) then false else if (x = c ∧ y = d) ∨ (x = d ∧ y = c) then true else iB L x y := fun x y => by
    unfold iB; rw [fs, fs]
    by_cases w : (x = a ∧ y = b) ∨ (x = b ∧ y = a)
    · rw [if_pos w, if_pos w]; rfl
    · rw [if_neg w, if_neg w, if_neg (show ¬ ((y = a ∧ x = b) ∨ (y = b ∧ x = a)) by omega)]
      by_cases w2 : (x = c ∧ y = d) ∨ (x = d ∧ y = c)
      · rw [if_pos w2, if_pos w2, if_pos (by omega)]; rfl
      · rw [if_neg w2, if_neg w2, if_neg (by omega)]
  have E0 : ∀ x y, (x = a ∧ y = b) ∨ (x = b ∧ y = a) → eB L x y = true ∧ iB L x y = true := fun x y w => by
    unfold eB iB
    rcases w with ⟨rfl, rfl⟩ | ⟨rfl, rfl⟩ <;> rw [e1, e2] <;> exact ⟨rfl, rfl⟩
  have E1 : ∀ x y, (x = c ∧ y = d) ∨ (x = d ∧ y = c) → eB L x y = false ∧ iB L x y = false := fun x y w => by
    unfold eB iB
    rcases w with ⟨rfl, rfl⟩ | ⟨rfl, rfl⟩ <;> rw [z1, z2] <;> exact ⟨rfl, rfl⟩
  have ec : ecn (tr_flip L a b c d) n = ecn L n := by
    unfold ecn
    rw [cnt_set2 (p := eB L) (q := fun x y => if (x = a ∧ y = b) ∨ (x = b ∧ y = a) then false else eB L x y) (a := a) (b := b) n1 ha hb (E0 a b (Or.inl ⟨rfl, rfl⟩)).1 (E0 b a (Or.inr ⟨rfl, rfl⟩)).1 (if_pos (Or.inl ⟨rfl, rfl⟩)) (if_pos (Or.inr ⟨rfl, rfl⟩)) (fun x y _ _ w => (if_neg w).symm)]
    refine cnt_set2 (a := c) (b := d) ncd hc hd ?_ ?_ ?_ ?_ (fun x y _ _ w => ?_)
    · rw [eE, if_neg (by omega), if_pos (Or.inl ⟨rfl, rfl⟩)]
    · rw [eE, if_neg (by omega), if_pos (Or.inr ⟨rfl, rfl⟩)]
    · show (if _ then false else eB L c d) = false
      rw [if_neg (by omega)]; exact (E1 c d (Or.inl ⟨rfl, rfl⟩)).1
    · show (if _ then false else eB L d c) = false
      rw [if_neg (by omega)]; exact (E1 d c (Or.inr ⟨rfl, rfl⟩)).1
    · rw [eE]
      by_cases w2 : (x = a ∧ y = b) ∨ (x = b ∧ y = a)
      · rw [if_pos w2, if_pos w2]
      · rw [if_neg w2, if_neg w2, if_neg w]
  have bc : bcn (tr_flip L a b c d) n = bcn L n := by
    unfold bcn
    refine cnt_congr fun x y _ _ => ?_
    unfold bB
    rw [eE, eI]
    by_cases w : (x = a ∧ y = b) ∨ (x = b ∧ y = a)
    · rw [if_pos w, if_pos w, (E0 x y w).1, (E0 x y w).2]; rfl
    · rw [if_neg w, if_neg w]
      by_cases w2 : (x = c ∧ y = d) ∨ (x = d ∧ y = c)
      · rw [if_pos w2, if_pos w2, (E1 x y w2).1]; rfl
      · rw [if_neg w2, if_neg w2]
  exact ⟨by rw [ec]; exact hu.1, by rw [ec, bc]; exact hu.2⟩
