/-! sums over pairs; how many edges stay -/
theorem rg_ct_add {q : Nat → Bool} {s : Nat} : ∀ j, rg_ct q (s + j) = rg_ct q s + rg_ct (fun b => q (s + b)) j
  | 0 => rfl
  | j + 1 => by
    show rg_ct q (s + j) + (if q (s + j) = true then 1 else 0) = rg_ct q s + (rg_ct (fun b => q (s + b)) j + (if q (s + j) = true then 1 else 0))
    rw [rg_ct_add j]; omega
theorem rg_ct_mulw {q : Nat → Bool} {w : Nat} : ∀ k, rg_ct q (k * w) = rg_sum (fun a => rg_ct (fun b => q (a * w + b)) w) k
  | 0 => by rw [Nat.zero_mul]; rfl
  | k + 1 => by rw [Nat.succ_mul, rg_ct_add, rg_ct_mulw k]; rfl
theorem rg_sum_cut {f : Nat → Nat} {n : Nat} : ∀ m, n ≤ m → (∀ a, n ≤ a → a < m → f a = 0) → rg_sum f m = rg_sum f n
  | 0, h, _ => by rw [Nat.le_zero.mp h]
  | m + 1, h, hf => by
    rcases Nat.lt_or_ge n (m + 1) with w | w
    · show rg_sum f m + f m = rg_sum f n
      rw [hf m (by omega) (by omega), rg_sum_cut m (by omega) (fun a h1 h2 => hf a h1 (by omega))]; rfl
    · rw [show n = m + 1 by omega]
theorem cnt_code {p : Nat → Nat → Bool} {n : Nat} (hn : n ≤ 32) : cnt p n = rg_ct (fun e => decide (e / 32 < e % 32 ∧ e % 32 < n) && p (e / 32) (e % 32)) (32 * 32) := by
  rw [rg_ct_mulw 32]
  rw [rg_sum_cut (n := n) 32 hn (fun a h1 h2 => rg_ct_0 (fun b hb => by
    have e1 : (a * 32 + b) / 32 = a := by omega
    have e2 : (a * 32 + b) % 32 = b := by omega
    rw [e1, e2, decide_eq_false (by omega), Bool.false_and]))]
  unfold cnt
  refine rg_sum_congr fun a ha => ?_
  rw [rg_ct_seg (p := fun b => decide ((a * 32 + b) / 32 < (a * 32 + b) % 32 ∧ (a * 32 + b) % 32 < n) && p ((a * 32 + b) / 32) ((a * 32 + b) % 32)) (s := n) 32 hn (fun b h1 h2 => by
    have e2 : (a * 32 + b) % 32 = b := by omega
    rw [e2, decide_eq_false (by omega), Bool.false_and])]
  refine rg_ct_congr fun b hb => ?_
  have e1 : (a * 32 + b) / 32 = a := by omega
  have e2 : (a * 32 + b) % 32 = b := by omega
  rw [e1, e2]
  by_cases w : b ≤ a
  · rw [if_pos w, decide_eq_false (by omega), Bool.false_and]
  · rw [if_neg w, decide_eq_true (by omega), Bool.true_and]
theorem rg_ct_true : ∀ m : Nat, rg_ct (fun _ => true) m = m
  | 0 => rfl
  | m + 1 => by show rg_ct (fun _ => true) m + 1 = m + 1; rw [rg_ct_true m]
section SC
variable {n t : Nat} {P : Nat → g_P} {L : Nat → Nat → Option Nat} {St : Nat → Nat → Bool} {f : Nat → Nat} {nS : Nat} {S T : Nat → Nat → Int32}
theorem ti_A.irr (h : ti_A n t P L St f) (a : Nat) : L a a = none := by
  cases e : L a a with
  | none => rfl
  | some c => exact absurd rfl (tr_ne (h.ok.tri _ _ _ e).2.2.2.1).1
theorem ti_A.stlt (h : ti_A n t P L St f) {a b : Nat} (e : St a b = true) : a < n ∧ b < n ∧ a ≠ b ∧ eB L a b = true := by
  have ed := h.ed a b e
  refine ⟨?_, ?_, ?_, eB_E.mpr ed⟩
  · rcases ed with ⟨c, q⟩ | ⟨c, q⟩
    · exact (h.lt q).1
    · exact (h.lt q).2.1
  · rcases ed with ⟨c, q⟩ | ⟨c, q⟩
    · exact (h.lt q).2.1
    · exact (h.lt q).1
  · rintro rfl
    have := h.irr a
    rcases ed with ⟨c, q⟩ | ⟨c, q⟩ <;> rw [this] at q <;> cases q
theorem sv_L_cnt (h : ti_A n t P L St f) (hL : sv_L (qS St) nS S) : nS = cnt St n := by
  have hn := h.n17
  obtain ⟨g, ⟨g1, g2, g3⟩, -⟩ := hL
  rw [cnt_code (p := St) (n := n) (by omega)]
  have cd : ∀ z, qS St z → z < 32 * 32 ∧ (decide (z / 32 < z % 32 ∧ z % 32 < n) && St (z / 32) (z % 32)) = true := fun z q => by
    obtain ⟨a, b, ha, hb, e, s⟩ := q
    obtain ⟨h1, h2, h3, -⟩ := h.stlt s
    unfold pc at e
    have e1 : z / 32 = min a b := by omega
    have e2 : z % 32 = max a b := by omega
    refine ⟨by omega, ?_⟩
    rw [e1, e2, decide_eq_true (by omega), Bool.true_and]
    rcases Nat.le_total a b with w | w
    · rw [show min a b = a by omega, show max a b = b by omega]; exact s
    · rw [show min a b = b by omega, show max a b = a by omega, h.sym]; exact s
  apply Nat.le_antisymm
  · have := rg_ct_inj (R := fun j k => j < nS ∧ g j = k) (fun j j' k q q' => g1 j j' q.1 q'.1 (q.2.trans q'.2.symm)) nS (p := fun _ => true) (q := fun e => decide (e / 32 < e % 32 ∧ e % 32 < n) && St (e / 32) (e % 32)) (t := 32 * 32) (fun j hj _ => ⟨g j, (cd _ (g2 j hj)).1, (cd _ (g2 j hj)).2, hj, rfl⟩)
    rw [rg_ct_true] at this
    exact this
  · have := rg_ct_inj (R := fun k j => g j = k) (fun k k' j q q' => q.symm.trans q') (32 * 32) (p := fun e => decide (e / 32 < e % 32 ∧ e % 32 < n) && St (e / 32) (e % 32)) (q := fun _ => true) (t := nS) (fun e he q => by
      rw [Bool.and_eq_true] at q
      have q1 := of_decide_eq_true q.1
      obtain ⟨i, hi, e2⟩ := g3 e ⟨e / 32, e % 32, by omega, by omega, by unfold pc; omega, q.2⟩
      exact ⟨i, hi, rfl, e2⟩)
    rw [rg_ct_true] at this
    exact this
theorem sv_L_le (h : ti_A n t P L St f) (hL : sv_L (qS St) nS S) (hu : eu_ n t L) : nS + 1 ≤ n + t := by
  rw [sv_L_cnt h hL, ← hu.1]
  exact Nat.succ_le_succ (cnt_mono (fun x y _ _ e => (h.stlt e).2.2.2))
theorem stay_eq (h : ti_A n t P L St f) (hL : sv_L (qS St) nS S) : ∀ a b, a < n → b < n → s_stay nS S (nI a) (nI b) = St a b := fun a b ha hb => by
  have hn := h.n17
  rw [Bool.eq_iff_iff, hL.stay (by omega) (by omega), qS_iff h.sym (by omega) (by omega)]
/-- over all pairs both ways -/
theorem cnt_full {p : Nat → Nat → Bool} (hs : ∀ a b, p a b = p b a) (h0 : ∀ a, p a a = false) : ∀ n : Nat, rg_sum (fun a => rg_ct (p a) n) n = 2 * cnt p n
  | 0 => rfl
  | n + 1 => by
    have i := cnt_full hs h0 n
    have e1 : rg_sum (fun a => rg_ct (p a) (n + 1)) n = rg_sum (fun a => rg_ct (p a) n) n + rg_ct (fun x => p x n) n := by
      rw [← rg_sum_ct (p := fun x => p x n), ← rg_sum_add]; rfl
    show rg_sum (fun a => rg_ct (p a) (n + 1)) n + (rg_ct (p n) n + (if p n n = true then 1 else 0)) = _
    rw [e1, i, h0 n, cnt_succ, rg_ct_congr (p := p n) (q := fun x => p x n) (fun j _ => hs n j), if_neg (by decide)]
    omega
theorem cnt_low {p : Nat → Nat → Bool} (hs : ∀ a b, p a b = p b a) : ∀ n : Nat, rg_sum (fun i => rg_ct (p i) i) n = cnt p n
  | 0 => rfl
  | n + 1 => by
    show rg_sum (fun i => rg_ct (p i) i) n + rg_ct (p n) n = _
    rw [cnt_low hs n, cnt_succ, rg_ct_congr (p := p n) (q := fun x => p x n) (fun j _ => hs n j)]
theorem s_acc_ct {p : Nat → Bool} {d : Nat} : ∀ k : Nat, s_acc (fun b => bI (p b)) (nI d) k = nI (d + rg_ct p k)
  | 0 => rfl
  | k + 1 => by
    show s_acc (fun b => bI (p b)) (nI d) k + bI (p k) = nI (d + (rg_ct p k + (if p k = true then 1 else 0)))
    rw [s_acc_ct k]
    cases p k with
    | false => show nI (d + rg_ct p k) + nI 0 = _; rw [nI_add]; rfl
    | true => show nI (d + rg_ct p k) + nI 1 = _; rw [nI_add]; rfl
theorem s_acc_nI {g : Nat → Nat} : ∀ k : Nat, s_acc (fun b => nI (g b)) 0 k = nI (rg_sum g k)
  | 0 => rfl
  | k + 1 => by
    show s_acc (fun b => nI (g b)) 0 k + nI (g k) = nI (rg_sum g k + g k)
    rw [s_acc_nI k, nI_add]
theorem s_acc_congr {f g : Nat → Int32} {d : Int32} : ∀ {k : Nat}, (∀ j, j < k → f j = g j) → s_acc f d k = s_acc g d k
  | 0, _ => rfl
  | k + 1, h => by
    show s_acc f d k + f k = s_acc g d k + g k
    rw [s_acc_congr (k := k) (fun j hj => h j (by omega)), h k (by omega)]
end SC
