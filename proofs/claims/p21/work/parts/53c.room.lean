/-! how much is asked in one look at all pairs -/
theorem rg_ct_le2 {p q : Nat → Bool} : ∀ {k : Nat}, (∀ j, j < k → p j = true → q j = true) → rg_ct p k ≤ rg_ct q k
  | 0, _ => Nat.le_refl _
  | k + 1, h => by
    have h1 := rg_ct_le2 (p := p) (q := q) (k := k) (fun j hj => h j (by omega))
    show rg_ct p k + (if p k = true then 1 else 0) ≤ rg_ct q k + (if q k = true then 1 else 0)
    cases e : p k with
    | false => rw [if_neg (by decide)]; omega
    | true => rw [h k (by omega) e, if_pos rfl]; omega
theorem rg_sum_le9 {f g : Nat → Nat} : ∀ {k : Nat}, (∀ j, j < k → f j ≤ g j) → rg_sum f k ≤ rg_sum g k
  | 0, _ => Nat.le_refl _
  | k + 1, h => by
    have h1 := rg_sum_le9 (f := f) (g := g) (k := k) (fun j hj => h j (by omega))
    have h2 := h k (by omega)
    show rg_sum f k + f k ≤ rg_sum g k + g k
    omega
theorem rg_sum_0 : ∀ k : Nat, rg_sum (fun _ => 0) k = 0
  | 0 => rfl
  | k + 1 => by show rg_sum (fun _ => 0) k + 0 = 0; rw [rg_sum_0 k]
theorem rg_sum_swap {g : Nat → Nat → Nat} {m : Nat} : ∀ n : Nat, rg_sum (fun a => rg_sum (fun b => g a b) m) n = rg_sum (fun b => rg_sum (fun a => g a b) n) m
  | 0 => (rg_sum_0 m).symm
  | n + 1 => by
    show rg_sum (fun a => rg_sum (fun b => g a b) m) n + rg_sum (fun b => g n b) m = rg_sum (fun b => rg_sum (fun a => g a b) n + g n b) m
    rw [rg_sum_swap n, ← rg_sum_add]
theorem rg_sum_2 {f : Nat → Nat} : ∀ k : Nat, rg_sum (fun i => 2 * f i) k = 2 * rg_sum f k
  | 0 => rfl
  | k + 1 => by show rg_sum (fun i => 2 * f i) k + 2 * f k = 2 * (rg_sum f k + f k); rw [rg_sum_2 k]; omega
theorem cnt_mono {p q : Nat → Nat → Bool} {n : Nat} (h : ∀ x y, x < y → y < n → p x y = true → q x y = true) : cnt p n ≤ cnt q n := by
  unfold cnt
  refine rg_sum_le9 fun x hx => rg_ct_le2 fun y hy w => ?_
  by_cases w2 : y ≤ x
  · rw [if_pos w2] at w; cases w
  · rw [if_neg w2] at w ⊢; exact h x y (by omega) hy w
theorem cnt_up {p : Nat → Nat → Bool} {n : Nat} : ∀ m : Nat, n ≤ m → cnt p n ≤ cnt p m
  | 0, h => by rw [Nat.le_zero.mp h]; exact Nat.le_refl _
  | m + 1, h => by
    rcases Nat.lt_or_ge n (m + 1) with w | w
    · have := cnt_up (p := p) (n := n) m (by omega)
      rw [cnt_succ]; omega
    · have : n = m + 1 := by omega
      rw [this]; exact Nat.le_refl _
theorem cnt_no {n : Nat} : cnt (fun _ _ => false) n = 0 := by
  unfold cnt
  rw [rg_sum_congr (q := fun _ => 0) (fun x hx => ?_), rg_sum_0]
  have : ∀ k, rg_ct (fun y => if y ≤ x then false else false) k = 0 := fun k => by
    induction k with
    | zero => rfl
    | succ k ih =>
      show rg_ct (fun y => if y ≤ x then false else false) k + (if (if k ≤ x then false else false) = true then 1 else 0) = 0
      rw [ih]; simp
  exact this n
theorem cnt13 : cnt (fun _ _ => true) 13 = 78 := by decide +kernel
theorem cnt15 : cnt (fun _ _ => true) 15 = 105 := by decide +kernel
theorem cnt_three {n x y z : Nat} (h1 : x < y) (h2 : y < z) (h3 : z < n) : cnt (fun a b => decide ((a = x ∧ b = y) ∨ (a = x ∧ b = z) ∨ (a = y ∧ b = z))) n = 3 := by
  rw [cnt_set (a := x) (b := y) (q := fun a b => decide ((a = x ∧ b = z) ∨ (a = y ∧ b = z))) h1 (by omega) (decide_eq_true (Or.inl ⟨rfl, rfl⟩)) (decide_eq_false (by omega)) (fun a b _ _ w => by rw [decide_eq_decide]; omega)]
  rw [cnt_set (a := x) (b := z) (q := fun a b => decide (a = y ∧ b = z)) (by omega) h3 (decide_eq_true (Or.inl ⟨rfl, rfl⟩)) (decide_eq_false (by omega)) (fun a b _ _ w => by rw [decide_eq_decide]; omega)]
  rw [cnt_set (a := y) (b := z) (q := fun a b => false) h2 h3 (decide_eq_true ⟨rfl, rfl⟩) rfl (fun a b _ _ w => decide_eq_false w), cnt_no]
section RM
variable {n t : Nat} {P : Nat → g_P} {L : Nat → Nat → Option Nat} {St : Nat → Nat → Bool} {f : Nat → Nat} {T : Nat → Nat → Int32}
theorem cnt_mt (h : ti_A n t P L St f) (hV : sv_T t T (fun k => nI (f k))) {k : Nat} (hk : k < t) : cnt (fun a b => s_mt (T k) (nI a) (nI b)) n ≤ 3 := by
  obtain ⟨k1, k2, k3, k4, -⟩ := ti_k h hk
  have hn := h.n17
  rw [← cnt_three (n := n) k1 k2 k3]
  refine cnt_mono fun a b hab hb w => ?_
  obtain ⟨a', b', c, ha', hb', hc, ea, eb, -, -, e⟩ := sv_mtA h (tb := fun k => nI (f k)) (fun _ _ => rfl) hV hk w
  have ea' := (nI_eq (a := a) (b := a') (by omega) (by omega)).mp ea
  have eb' := (nI_eq (a := b) (b := b') (by omega) (by omega)).mp eb
  subst ea' eb'
  obtain ⟨d0, d1, d2⟩ := sc_d (a := a) (b := b) (c := c) (by omega) (by omega) (by omega)
  rw [← e] at d0 d1 d2
  exact decide_eq_true (by omega)
theorem s_dO_bd (h : ti_A n t P L St f) (hE : sv_E (tr_S L) t T) : s_dO n t T n ≤ cnt (fun _ _ => true) n + 6 * t := by
  have hV := (hE.rows h.en).1
  have e1 : ∀ a, s_dI t T a n = rg_ct (fun b => if b ≤ a then false else true) n + 2 * rg_sum (fun k => rg_ct (fun b => if b ≤ a then false else s_mt (T k) (nI a) (nI b)) n) t := fun a => by
    have s1 : rg_sum (fun k => rg_ct (fun b => if b ≤ a then false else s_mt (T k) (nI a) (nI b)) n) t = rg_sum (fun b => rg_sum (fun k => if (if b ≤ a then false else s_mt (T k) (nI a) (nI b)) = true then 1 else 0) t) n := by
      rw [← rg_sum_swap (g := fun k b => if (if b ≤ a then false else s_mt (T k) (nI a) (nI b)) = true then 1 else 0) t]
      exact rg_sum_congr fun k _ => (rg_sum_ct (p := fun b => if b ≤ a then false else s_mt (T k) (nI a) (nI b)) n).symm
    rw [s1, ← rg_sum_2, ← rg_sum_ct (p := fun b => if b ≤ a then false else true) n, ← rg_sum_add]
    refine rg_sum_congr fun b hb => ?_
    by_cases w : b ≤ a
    · rw [if_pos w]
      show 0 = (if (if b ≤ a then false else true) = true then 1 else 0) + 2 * rg_sum (fun k => if (if b ≤ a then false else s_mt (T k) (nI a) (nI b)) = true then 1 else 0) t
      rw [if_pos w, rg_sum_congr (q := fun _ => 0) (fun k _ => by rw [if_pos w]; rfl), rg_sum_0]; rfl
    · rw [if_neg w]
      show 1 + 2 * s_ct T (nI a) (nI b) t = (if (if b ≤ a then false else true) = true then 1 else 0) + 2 * rg_sum (fun k => if (if b ≤ a then false else s_mt (T k) (nI a) (nI b)) = true then 1 else 0) t
      rw [if_neg w, if_pos rfl, rg_sum_congr (q := fun k => if s_mt (T k) (nI a) (nI b) = true then 1 else 0) (fun k _ => by rw [if_neg w]), rg_sum_ct (p := fun k => s_mt (T k) (nI a) (nI b)) t]; rfl
  have e2 : s_dO n t T n = cnt (fun _ _ => true) n + 2 * rg_sum (fun k => cnt (fun a b => s_mt (T k) (nI a) (nI b)) n) t := by
    have s2 : rg_sum (fun k => cnt (fun a b => s_mt (T k) (nI a) (nI b)) n) t = rg_sum (fun a => rg_sum (fun k => rg_ct (fun b => if b ≤ a then false else s_mt (T k) (nI a) (nI b)) n) t) n := (rg_sum_swap (g := fun k a => rg_ct (fun b => if b ≤ a then false else s_mt (T k) (nI a) (nI b)) n) t)
    rw [s2, ← rg_sum_2]
    show rg_sum (fun a => s_dI t T a n) n = rg_sum (fun a => rg_ct (fun b => if b ≤ a then false else true) n) n + _
    rw [← rg_sum_add]
    exact rg_sum_congr fun a _ => e1 a
  have e3 : rg_sum (fun k => cnt (fun a b => s_mt (T k) (nI a) (nI b)) n) t ≤ rg_sum (fun _ => 3) t := rg_sum_le9 fun k hk => cnt_mt h hV hk
  have e4 : ∀ m, rg_sum (fun _ => 3) m = 3 * m := fun m => by
    induction m with
    | zero => rfl
    | succ m ih => show rg_sum (fun _ => 3) m + 3 = 3 * (m + 1); omega
  rw [e4] at e3
  omega
theorem s_cO_bd {nC nT : Nat} {T : Nat → Nat → Int32} (hn : nC ≤ 16) (hT : nT ≤ 30) : s_cO nT T nC ≤ 15616 := by
  have e4 : ∀ c m, rg_sum (fun _ => c) m = c * m := fun c m => by
    induction m with
    | zero => rfl
    | succ m ih => show rg_sum (fun _ => c) m + c = c * (m + 1); rw [ih, Nat.mul_succ]
  have e1 : ∀ i, i ≤ 16 → s_cI nT T i i ≤ 976 := fun i hi => by
    have : s_cI nT T i i ≤ rg_sum (fun _ => 61) i := rg_sum_le9 fun b _ => by
      have := s_ct_le (nT := nT) (T := T) (a := nI i) (b := nI b)
      show 1 + 2 * s_ct T (nI i) (nI b) nT ≤ 61
      omega
    rw [e4] at this; omega
  have e2 : s_cO nT T nC ≤ rg_sum (fun _ => 976) nC := rg_sum_le9 fun i hi => e1 i (by omega)
  rw [e4] at e2; omega
end RM
