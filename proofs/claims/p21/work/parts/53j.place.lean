/-! a place on the border of the moor; heights -/
theorem gO_bary1 (a b c p : g_P) : gO b c p * a.1 + gO c a p * b.1 + gO a b p * c.1 = gO a b c * p.1 := by unfold gO; grind
theorem gO_bary2 (a b c p : g_P) : gO b c p * a.2 + gO c a p * b.2 + gO a b p * c.2 = gO a b c * p.2 := by unfold gO; grind
theorem gO_bary3 (a b c p : g_P) : gO b c p * (30 - a.1) + gO c a p * (30 - b.1) + gO a b p * (30 - c.1) = gO a b c * (30 - p.1) := by unfold gO; grind
theorem gO_bary4 (a b c p : g_P) : gO b c p * (30 - a.2) + gO c a p * (30 - b.2) + gO a b p * (30 - c.2) = gO a b c * (30 - p.2) := by unfold gO; grind
theorem pos_mul0 {x y : Int} (hx : 0 < x) (h : x * y = 0) : y = 0 := by
  rcases Int.mul_eq_zero.mp h with z | z
  · omega
  · exact z
theorem bd_no {h : g_P → Int} (hb : ∀ a b c p, gO b c p * h a + gO c a p * h b + gO a b p * h c = gO a b c * h p) (h1 : 0 < h (1, 1)) (hn : ∀ q, tr_sq q → 0 ≤ h q) {a b c p : g_P} (sa : tr_sq a) (sb : tr_sq b) (sc : tr_sq c) (O : 0 < gO a b c) (z2 : 0 < gO b c p) (z3 : 0 < gO c a p) (hp : h p = 0) : (0 < gO a b p → False) ∧ (gO a b p = 0 → ∀ d, tr_sq d → 0 < gO b a d → False) := by
  have e := hb a b c p
  rw [hp, Int.mul_zero] at e
  have m1 := Int.mul_nonneg (Int.le_of_lt z2) (hn a sa)
  have m2 := Int.mul_nonneg (Int.le_of_lt z3) (hn b sb)
  have e9 := hb a b c (1, 1)
  constructor
  · intro z1
    have m3 := Int.mul_nonneg (Int.le_of_lt z1) (hn c sc)
    have a0 := pos_mul0 z2 (show gO b c p * h a = 0 by omega)
    have b0 := pos_mul0 z3 (show gO c a p * h b = 0 by omega)
    have c0 := pos_mul0 z1 (show gO a b p * h c = 0 by omega)
    rw [a0, b0, c0, Int.mul_zero, Int.mul_zero, Int.mul_zero] at e9
    have := pos_mul0 O e9.symm
    omega
  · intro z1 d sd hd
    rw [z1, Int.zero_mul] at e
    have a0 := pos_mul0 z2 (show gO b c p * h a = 0 by omega)
    have b0 := pos_mul0 z3 (show gO c a p * h b = 0 by omega)
    have ed := hb a b c d
    rw [a0, b0, Int.mul_zero, Int.mul_zero] at ed e9
    have s := gO_swap a b d
    have m4 := Int.mul_nonneg (Int.le_of_lt hd) (hn c sc)
    have m5 := Int.mul_nonneg (Int.le_of_lt O) (hn d sd)
    have m6 : gO a b d * h c = - (gO b a d * h c) := by rw [s, Int.neg_mul, Int.neg_neg]
    have c0 := pos_mul0 hd (show gO b a d * h c = 0 by omega)
    rw [c0, Int.mul_zero] at e9
    have := pos_mul0 O (show gO a b c * h (1, 1) = 0 by omega)
    omega
abbrev bdP (p : g_P) : Prop := p.1 = 0 ∨ p.1 = 30 ∨ p.2 = 0 ∨ p.2 = 30
theorem bd_in {a b c p : g_P} (sa : tr_sq a) (sb : tr_sq b) (sc : tr_sq c) (O : 0 < gO a b c) (z2 : 0 < gO b c p) (z3 : 0 < gO c a p) (hp : bdP p) : (0 < gO a b p → False) ∧ (gO a b p = 0 → ∀ d, tr_sq d → 0 < gO b a d → False) := by
  rcases hp with q | q | q | q
  · exact bd_no (h := fun q => q.1) (fun a b c p => gO_bary1 a b c p) (by decide) (fun q s => s.1) sa sb sc O z2 z3 q
  · exact bd_no (h := fun q => 30 - q.1) (fun a b c p => gO_bary3 a b c p) (by decide) (fun q s => by have := s.2.1; show 0 ≤ 30 - q.1; omega) sa sb sc O z2 z3 (by show 30 - p.1 = 0; omega)
  · exact bd_no (h := fun q => q.2) (fun a b c p => gO_bary2 a b c p) (by decide) (fun q s => s.2.2.1) sa sb sc O z2 z3 q
  · exact bd_no (h := fun q => 30 - q.2) (fun a b c p => gO_bary4 a b c p) (by decide) (fun q s => by have := s.2.2.2; show 0 ≤ 30 - q.2; omega) sa sb sc O z2 z3 (by show 30 - p.2 = 0; omega)
theorem bd_out {a b c p : g_P} (sp : tr_sq p) (O : 0 < gO a b c) (z1 : gO a b p = 0) (hs : tr_Side a b) : bdP p := by
  apply Classical.byContradiction
  intro w
  obtain ⟨s1, s2, s3, s4⟩ := sp
  have e1 : gO a b (p.1 + 1, p.2) = gO a b p - (b.2 - a.2) := by unfold gO; grind
  have e2 : gO a b (p.1 - 1, p.2) = gO a b p + (b.2 - a.2) := by unfold gO; grind
  have e3 : gO a b (p.1, p.2 + 1) = gO a b p + (b.1 - a.1) := by unfold gO; grind
  have e4 : gO a b (p.1, p.2 - 1) = gO a b p - (b.1 - a.1) := by unfold gO; grind
  have g1 := hs (p.1 + 1, p.2) ⟨by show 0 ≤ p.1 + 1; omega, by show p.1 + 1 ≤ 30; omega, s3, s4⟩
  have g2 := hs (p.1 - 1, p.2) ⟨by show 0 ≤ p.1 - 1; omega, by show p.1 - 1 ≤ 30; omega, s3, s4⟩
  have g3 := hs (p.1, p.2 + 1) ⟨s1, s2, by show 0 ≤ p.2 + 1; omega, by show p.2 + 1 ≤ 30; omega⟩
  have g4 := hs (p.1, p.2 - 1) ⟨s1, s2, by show 0 ≤ p.2 - 1; omega, by show p.2 - 1 ≤ 30; omega⟩
  have d1 : b.1 - a.1 = 0 := by omega
  have d2 : b.2 - a.2 = 0 := by omega
  unfold gO at O
  rw [d1, d2, Int.zero_mul, Int.zero_mul] at O
  omega
section PL
variable {n t : Nat} {P : Nat → g_P} {L L' : Nat → Nat → Option Nat} {St St' : Nat → Nat → Bool} {f : Nat → Nat} {xs ys lf sy co hs : Nat → Int32} {t' : Nat} {p : g_P}
theorem bd_how (h : ti_A n t P L St f) (hP : tr_Pos (n + 1) P) (how : ti_how n t P L L' St St' t') : (t' = t + 2 ∧ ¬ bdP (P n)) ∨ (t' = t + 1 ∧ bdP (P n)) := by
  have hp : tr_sq (P n) := hP.1 n (by omega)
  rcases how with ⟨a, b, c, e, z1, z2, z3, rfl, -⟩ | ⟨a, b, c, d, e1, e2, z1, z2, z3, rfl, -⟩ | ⟨a, b, c, e1, e2, z1, z2, z3, rfl, -⟩
  · obtain ⟨ha, hb, hc, g, -⟩ := h.ok.tri _ _ _ e
    exact Or.inl ⟨rfl, fun w => (bd_in (h.sq a ha) (h.sq b hb) (h.sq c hc) g z2 z3 w).1 z1⟩
  · obtain ⟨ha, hb, hc, g1, -⟩ := h.ok.tri _ _ _ e1
    obtain ⟨-, -, hd, g2, -⟩ := h.ok.tri _ _ _ e2
    exact Or.inl ⟨rfl, fun w => (bd_in (h.sq a ha) (h.sq b hb) (h.sq c hc) g1 z2 z3 w).2 z1 _ (h.sq d hd) g2⟩
  · obtain ⟨ha, hb, hc, g1, -⟩ := h.ok.tri _ _ _ e1
    exact Or.inr ⟨rfl, bd_out hp g1 z1 (h.ok.bd _ _ _ e1 e2)⟩
/-- a face behind a new cairn that has its place has the cairn -/
theorem new_face (h : ti_A n t P L St f) (hP : tr_Pos (n + 1) P) (how : ti_how n t P L L' St St' t') {x y z : Nat} (e : L' x y = some z) (q : gInW (P x) (P y) (P z) (P n)) : x = n ∨ y = n ∨ z = n := by
  have hp : tr_sq (P n) := hP.1 n (by omega)
  rcases how with ⟨a, b, c, e1, z1, z2, z3, rfl, -, hiff⟩ | ⟨a, b, c, d, e1, e2, z1, z2, z3, rfl, -, hiff⟩ | ⟨a, b, c, e1, e2, z1, z2, z3, rfl, -, hiff⟩
  · rcases (hiff _ _ _).mp e with r | ⟨e, r⟩
    · unfold tr_rot at r; omega
    · exact absurd (tr_one h.ok hp e1 ⟨z1, z2, z3⟩ e q) r
  · rcases (hiff _ _ _).mp e with r | ⟨e, r⟩
    · unfold tr_rot at r; omega
    · rcases tr_two h.ok hp e1 z1 z2 z3 e q with w | ⟨d', w, w2⟩
      · exact absurd (Or.inl w) r
      · rw [e2] at w; cases w
        exact absurd (Or.inr w2) r
  · rcases (hiff _ _ _).mp e with r | ⟨e, r⟩
    · unfold tr_rot at r; omega
    · rcases tr_two h.ok hp e1 z1 z2 z3 e q with w | ⟨d', w, w2⟩
      · exact absurd w r
      · rw [e2] at w; cases w
/-- the same in the shape of whole's lemmas: a picture of the reference for any state of the class -/
abbrev rfP (f : Nat → Nat) : Nat → Int32 := fun k => nI (f k)
abbrev rfG (St : Nat → Nat → Bool) : Nat → Nat → Int32 := fun a b => bI (St a b)
theorem ref_of (hm : ti_m n t P L St f xs ys lf sy co) : ti_r n t P St f xs ys (rfP f) (rfG St) := ⟨hm.1, fun _ _ => rfl, fun _ _ _ _ => rfl⟩
theorem find_m (h : ti_A n t P L St f) (hm : ti_m n t P L St f xs ys lf sy co) (hp : tr_sq p) : ∃ k, k < t ∧ m_find t xs ys co (iN p.1) (iN p.2) = nI k ∧ cB (P (f k / 32 / 32)) (P (f k / 32 % 32)) (P (f k % 32)) p = true := by
  obtain ⟨k, h1, h2, -, h4⟩ := find_eq h hm (ref_of hm) hp
  exact ⟨k, h1, h2, h4⟩
theorem height_val (h : ti_A n t P L St f) (hm : ti_m n t P L St f xs ys lf sy co) (hn : n ≤ 16) (hp : tr_sq p) {z : Nat → Nat} (hz : ∀ i, i < n → hs i = nI (z i) ∧ z i < 100) {k : Nat} (hk : k < t) (fe : m_find t xs ys co (iN p.1) (iN p.2) = nI k) : x_height t xs ys co hs (iN p.1) (iN p.2) = nI ((z (f k / 32 / 32) * (gO (P (f k / 32 % 32)) (P (f k % 32)) p).natAbs + z (f k / 32 % 32) * (gO (P (f k % 32)) (P (f k / 32 / 32)) p).natAbs + z (f k % 32) * (gO (P (f k / 32 / 32)) (P (f k / 32 % 32)) p).natAbs) / (gO (P (f k / 32 / 32)) (P (f k / 32 % 32)) (P (f k % 32))).natAbs) := by
  obtain ⟨hX, hL, hS, hC⟩ := hm
  obtain ⟨k1, k2, k3, -, k5⟩ := ti_k h hk
  obtain ⟨c0, c1, c2⟩ := m_corner_eq hC (ti_t28 h) hk
  have hA := m_areaOf_eq h hX hC hk
  unfold x_height x_sum
  rw [fe, hA, c0, c1, c2]
  generalize f k / 32 / 32 = a at *
  generalize f k / 32 % 32 = b at *
  generalize f k % 32 = c at *
  have b0 := gO_bd (h.sq a (by omega)) (h.sq b (by omega)) (h.sq c k3)
  have b1 := gO_bd (h.sq b (by omega)) (h.sq c k3) hp
  have b2 := gO_bd (h.sq c k3) (h.sq a (by omega)) hp
  have b3 := gO_bd (h.sq a (by omega)) (h.sq b (by omega)) hp
  have ne : 0 < (gO (P a) (P b) (P c)).natAbs := by
    rcases k5 with e | e
    · have := (h.ok.tri _ _ _ e).2.2.2.1; omega
    · have := (h.ok.tri _ _ _ e).2.2.2.1
      have := gO_swap2 (P a) (P b) (P c)
      omega
  obtain ⟨ha, za⟩ := hz a (by omega)
  obtain ⟨hb, zb⟩ := hz b (by omega)
  obtain ⟨hc, zc⟩ := hz c k3
  rw [x_hOf_nI (by omega), x_hOf_nI (by omega), x_hOf_nI (by omega), ha, hb, hc, m_turn_eq hX h.n17 (by omega) k3, m_turn_eq hX h.n17 k3 (by omega), m_turn_eq hX h.n17 (by omega) (by omega), iN_abs (by omega), iN_abs (by omega), iN_abs (by omega)]
  simp only [← iN_nI]
  generalize (gO (P a) (P b) (P c)).natAbs = A at *
  generalize (gO (P b) (P c) p).natAbs = A1 at *
  generalize (gO (P c) (P a) p).natAbs = A2 at *
  generalize (gO (P a) (P b) p).natAbs = A3 at *
  have q1 : z a * A1 ≤ 99 * 1800 := Nat.mul_le_mul (by omega) b1
  have q2 : z b * A2 ≤ 99 * 1800 := Nat.mul_le_mul (by omega) b2
  have q3 : z c * A3 ≤ 99 * 1800 := Nat.mul_le_mul (by omega) b3
  rw [if_neg (fun w => by have := (nI_leI (a := A) (b := 0) (by omega) (by decide)).mp w; omega)]
  simp only [pk_mul, nI_add]
  rw [pk_div (by omega) (by omega) (by omega)]
theorem height_bd (h : ti_A n t P L St f) (hm : ti_m n t P L St f xs ys lf sy co) (hn : n ≤ 16) (hp : tr_sq p) {z : Nat → Nat} (hz : ∀ i, i < n → hs i = nI (z i) ∧ z i < 100) : ∃ v, v < 100 ∧ x_height t xs ys co hs (iN p.1) (iN p.2) = nI v := by
  obtain ⟨k, hk, fe, hc⟩ := find_m h hm hp
  refine ⟨_, ?_, height_val h hm hn hp hz hk fe⟩
  obtain ⟨k1, k2, k3, -, k5⟩ := ti_k h hk
  unfold cB at hc
  have hc2 := of_decide_eq_true hc
  have sm := gO_sum (P (f k / 32 / 32)) (P (f k / 32 % 32)) (P (f k % 32)) p
  have q1 := Nat.mul_le_mul_right (gO (P (f k / 32 % 32)) (P (f k % 32)) p).natAbs (show z (f k / 32 / 32) ≤ 99 by have := (hz (f k / 32 / 32) (by omega)).2; omega)
  have q2 := Nat.mul_le_mul_right (gO (P (f k % 32)) (P (f k / 32 / 32)) p).natAbs (show z (f k / 32 % 32) ≤ 99 by have := (hz (f k / 32 % 32) (by omega)).2; omega)
  have q3 := Nat.mul_le_mul_right (gO (P (f k / 32 / 32)) (P (f k / 32 % 32)) p).natAbs (show z (f k % 32) ≤ 99 by have := (hz (f k % 32) k3).2; omega)
  have ne : 0 < (gO (P (f k / 32 / 32)) (P (f k / 32 % 32)) (P (f k % 32))).natAbs := by
    rcases k5 with e | e
    · have := (h.ok.tri _ _ _ e).2.2.2.1; omega
    · have := (h.ok.tri _ _ _ e).2.2.2.1
      have := gO_swap2 (P (f k / 32 / 32)) (P (f k / 32 % 32)) (P (f k % 32))
      omega
  rw [Nat.div_lt_iff_lt_mul ne]
  omega
/-- at the new cairn's place the height is its own -/
theorem height_new {f' : Nat → Nat} {xs' ys' lf' sy' co' : Nat → Int32} (h : ti_A n t P L St f) (hP : tr_Pos (n + 1) P) (how : ti_how n t P L L' St St' t') (h' : ti_A (n + 1) t' P L' St' f') (hm : ti_m (n + 1) t' P L' St' f' xs' ys' lf' sy' co') (hn : n ≤ 15) {z : Nat → Nat} (hz : ∀ i, i < n + 1 → hs i = nI (z i) ∧ z i < 100) : x_height t' xs' ys' co' hs (iN (P n).1) (iN (P n).2) = nI (z n) := by
  have hp : tr_sq (P n) := hP.1 n (by omega)
  obtain ⟨k, hk, fe, hc⟩ := find_m h' hm hp
  rw [height_val h' hm (by omega) hp hz hk fe]
  congr 1
  obtain ⟨k1, k2, k3, -, k5⟩ := ti_k h' hk
  obtain ⟨x, y, w, e, s, q⟩ := (cB_face h' hk).mp hc
  have nf := new_face h hP how e q
  obtain ⟨hx, hy, hw, g, -⟩ := h'.ok.tri _ _ _ e
  have hc2 := of_decide_eq_true hc
  have ne : 0 < (gO (P (f' k / 32 / 32)) (P (f' k / 32 % 32)) (P (f' k % 32))).natAbs := by
    rcases k5 with e | e
    · have := (h'.ok.tri _ _ _ e).2.2.2.1; omega
    · have := (h'.ok.tri _ _ _ e).2.2.2.1
      have := gO_swap2 (P (f' k / 32 / 32)) (P (f' k / 32 % 32)) (P (f' k % 32))
      omega
  have hd : f' k / 32 / 32 = n ∨ f' k / 32 % 32 = n ∨ f' k % 32 = n := by
    rcases sc_perm (a := x) (b := y) (c := w) (by omega) (by omega) (by omega) with ⟨q0, q1, q2⟩ | ⟨q0, q1, q2⟩ | ⟨q0, q1, q2⟩ | ⟨q0, q1, q2⟩ | ⟨q0, q1, q2⟩ | ⟨q0, q1, q2⟩ <;> rw [s, q0, q1, q2] <;> omega
  have z0 : ∀ i j, i = n ∨ j = n → gO (P i) (P j) (P n) = 0 := fun i j w => by
    rcases w with rfl | rfl
    · unfold gO; grind
    · unfold gO; grind
  generalize f' k / 32 / 32 = a at *
  generalize f' k / 32 % 32 = b at *
  generalize f' k % 32 = c at *
  rcases hd with rfl | rfl | rfl
  · have a1 := z0 c a (Or.inr rfl)
    have a2 := z0 a b (Or.inl rfl)
    rw [a1, a2] at hc2 ⊢
    have : (gO (P b) (P c) (P a)).natAbs = (gO (P a) (P b) (P c)).natAbs := by omega
    rw [this]
    show (z a * _ + z b * 0 + z c * 0) / _ = z a
    simp only [Nat.mul_zero, Nat.add_zero, Nat.zero_add]
    rw [Nat.mul_div_cancel _ ne]
  · have a1 := z0 b c (Or.inl rfl)
    have a2 := z0 a b (Or.inr rfl)
    rw [a1, a2] at hc2 ⊢
    have : (gO (P c) (P a) (P b)).natAbs = (gO (P a) (P b) (P c)).natAbs := by omega
    rw [this]
    show (z a * 0 + z b * _ + z c * 0) / _ = z b
    simp only [Nat.mul_zero, Nat.add_zero, Nat.zero_add]
    rw [Nat.mul_div_cancel _ ne]
  · have a1 := z0 b c (Or.inr rfl)
    have a2 := z0 c a (Or.inl rfl)
    rw [a1, a2] at hc2 ⊢
    have : (gO (P a) (P b) (P c)).natAbs = (gO (P a) (P b) (P c)).natAbs := rfl
    show (z a * 0 + z b * 0 + z c * _) / _ = z c
    simp only [Nat.mul_zero, Nat.add_zero, Nat.zero_add]
    rw [Nat.mul_div_cancel _ ne]
end PL
