/-! how many flips settling takes at the most -/
theorem rg_ct_dis {p q : Nat → Bool} : ∀ {k : Nat}, (∀ j, j < k → p j = true → q j = false) → rg_ct p k + rg_ct q k ≤ k
  | 0, _ => Nat.le_refl _
  | k + 1, h => by
    have i := rg_ct_dis (p := p) (q := q) (k := k) (fun j hj => h j (by omega))
    have hk := h k (by omega)
    cases e : p k with
    | false =>
      rw [rg_ct_f e]
      cases e2 : q k with
      | false => rw [rg_ct_f e2]; omega
      | true => rw [rg_ct_t e2]; omega
    | true => rw [rg_ct_t e, rg_ct_f (hk e)]; omega
theorem rg_ct_or {p q r : Nat → Bool} : ∀ {k : Nat}, (∀ j, j < k → p j = true → q j = true ∨ r j = true) → rg_ct p k ≤ rg_ct q k + rg_ct r k
  | 0, _ => Nat.zero_le _
  | k + 1, h => by
    have i := rg_ct_or (p := p) (q := q) (r := r) (k := k) (fun j hj => h j (by omega))
    have hk := h k (by omega)
    have m1 := rg_ct_mono (p := q) (a := k) (b := k + 1) (by omega)
    have m2 := rg_ct_mono (p := r) (a := k) (b := k + 1) (by omega)
    cases e : p k with
    | false => rw [rg_ct_f e]; omega
    | true =>
      rw [rg_ct_t e]
      rcases hk e with w | w
      · rw [rg_ct_t w]; omega
      · rw [rg_ct_t w]; omega
theorem cnt_dis {p q : Nat → Nat → Bool} : ∀ n : Nat, (∀ a b, a < b → b < n → p a b = true → q a b = false) → cnt p n + cnt q n ≤ cnt (fun _ _ => true) n
  | 0, _ => Nat.le_refl _
  | n + 1, h => by
    have i := cnt_dis (p := p) (q := q) n (fun a b h1 h2 => h a b h1 (by omega))
    have j := rg_ct_dis (p := fun x => p x n) (q := fun x => q x n) (k := n) (fun x hx => h x n hx (by omega))
    have e : rg_ct (fun _ => true) n = n := rg_ct_true n
    rw [cnt_succ, cnt_succ, cnt_succ, e]
    omega
theorem cnt_or {p q r : Nat → Nat → Bool} : ∀ n : Nat, (∀ a b, a < b → b < n → p a b = true → q a b = true ∨ r a b = true) → cnt p n ≤ cnt q n + cnt r n
  | 0, _ => Nat.zero_le _
  | n + 1, h => by
    have i := cnt_or (p := p) (q := q) (r := r) n (fun a b h1 h2 => h a b h1 (by omega))
    have j := rg_ct_or (p := fun x => p x n) (q := fun x => q x n) (r := fun x => r x n) (k := n) (fun x hx => h x n hx (by omega))
    rw [cnt_succ, cnt_succ, cnt_succ]
    omega
theorem cnt_all : ∀ n : Nat, 2 * cnt (fun _ _ => true) n + n = n * n
  | 0 => rfl
  | n + 1 => by
    have i := cnt_all n
    have e : rg_ct (fun _ => true) n = n := rg_ct_true n
    have e2 : (n + 1) * (n + 1) = n * n + n + (n + 1) := by rw [Nat.succ_mul, Nat.mul_succ]
    rw [cnt_succ, e, e2]
    omega
theorem cnt_pr (n : Nat) : cnt (fun _ _ => true) n = n * (n - 1) / 2 := by
  have i := cnt_all n
  have e : n * (n - 1) = n * n - n := by rw [Nat.mul_sub, Nat.mul_one]
  omega
noncomputable def loB (P : Nat → g_P) (L : Nat → Nat → Option Nat) (a b : Nat) : Bool := @decide (tr_Lo P L a b) (Classical.propDecidable _)
theorem loB_iff {P : Nat → g_P} {L : Nat → Nat → Option Nat} {a b : Nat} : loB P L a b = true ↔ tr_Lo P L a b := by
  unfold loB
  simp only [decide_eq_true_eq]
theorem low_cnt (P : Nat → g_P) (L : Nat → Nat → Option Nat) {m : Nat} (hm : m ≤ 17) : tr_low2 P L m = cnt (loB P L) m := by
  unfold tr_low2
  rw [show (289 : Nat) = 17 * 17 from rfl, rg_ct_mulw 17]
  rw [rg_sum_cut (n := m) 17 hm (fun a h1 h2 => rg_ct_0 (fun b hb => by
    simp only [decide_eq_false_iff_not]
    intro w
    have w1 := w.1
    have w2 := w.2.1
    omega))]
  unfold cnt
  refine rg_sum_congr fun a ha => ?_
  rw [rg_ct_seg (s := m) 17 hm (fun b h1 h2 => by
    simp only [decide_eq_false_iff_not]
    intro w
    have w2 := w.2.1
    omega)]
  refine rg_ct_congr fun b hb => ?_
  have e1 : (a * 17 + b) / 17 = a := by omega
  have e2 : (a * 17 + b) % 17 = b := by omega
  by_cases w : b ≤ a
  · rw [if_pos w]
    simp only [decide_eq_false_iff_not]
    intro h
    have h1 := h.1
    omega
  · rw [if_neg w, Bool.eq_iff_iff, loB_iff]
    simp only [decide_eq_true_eq]
    rw [e1, e2]
    exact ⟨fun h => h.2.2, fun h => ⟨by omega, hb, h⟩⟩
section LB
variable {n t : Nat} {P : Nat → g_P} {L : Nat → Nat → Option Nat} {St : Nat → Nat → Bool} {f : Nat → Nat}
theorem low_bd (h : ti_A n t P L St f) (hu : eu_ n t L) : tr_low2 P L n + 2 * t + 1 ≤ n + n * (n - 1) / 2 := by
  rw [low_cnt P L h.n17, ← cnt_pr]
  have d := cnt_dis (p := loB P L) (q := iB L) n (fun a b _ _ w => by
    cases e : iB L a b with
    | false => rfl
    | true =>
      obtain ⟨c, d, e1, e2⟩ := iB_some e
      exact absurd (loB_iff.mp w) (tr_Lo.not h.ok e1 e2))
  have o := cnt_or (p := eB L) (q := bB L) (r := iB L) n (fun a b _ _ w => by
    unfold bB
    rw [w]
    cases iB L a b
    · exact Or.inl rfl
    · exact Or.inr rfl)
  have u1 : cnt (eB L) n + 1 = n + t := hu.1
  have u2 : 2 * cnt (eB L) n = 3 * t + cnt (bB L) n := hu.2
  omega
end LB
theorem fin13 : ∀ n : Nat, n < 14 → ∀ t : Nat, t < 21 → (n + n * (n - 1) / 2 - 2 * t) * (n * (n - 1) / 2 + 7 * t + 10) ≤ 11800 ∧ (n + n * (n - 1) / 2 - 2 * t) * (2 * (n * (n - 1) / 2) + 18 * t + 20) ≤ 27500 := by decide +kernel
theorem fin15 : ∀ n : Nat, n < 16 → ∀ t : Nat, t < 25 → (n + n * (n - 1) / 2 - 2 * t) * (n * (n - 1) / 2 + 7 * t + 10) ≤ 20444 ∧ (n + n * (n - 1) / 2 - 2 * t) * (2 * (n * (n - 1) / 2) + 18 * t + 20) ≤ 47664 := by decide +kernel
