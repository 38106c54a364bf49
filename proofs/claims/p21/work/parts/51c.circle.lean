/-! circles, in numbers of 64 bits; unfair edges and edges that can be flipped -/
abbrev jN (z : Int) : Int64 := Int64.ofInt z
theorem jN_toInt {z : Int} (h : z.natAbs < 2 ^ 63) : (jN z).toInt = z := Int64.toInt_ofInt_of_le (by omega) (by omega)
theorem jN_add (a b : Int) : jN a + jN b = jN (a + b) := (Int64.ofInt_add a b).symm
theorem jN_mul (a b : Int) : jN a * jN b = jN (a * b) := (Int64.ofInt_mul a b).symm
theorem jN_sub (a b : Int) : jN a - jN b = jN (a - b) := by
  rw [Int64.sub_eq_add_neg, Int.sub_eq_add_neg, ← jN_add]
  congr 1
  exact (Int64.ofInt_neg b).symm
theorem jN_lt {a b : Int} (ha : a.natAbs < 2 ^ 63) (hb : b.natAbs < 2 ^ 63) : jN a < jN b ↔ a < b := by
  rw [Int64.lt_iff_toInt_lt, jN_toInt ha, jN_toInt hb]
theorem iN_64 {z : Int} (h : z.natAbs < 2 ^ 31) : (iN z).toInt64 = jN z := by
  rw [← Int64.toInt_inj, Int32.toInt_toInt64, iN_toInt h, jN_toInt (by omega)]
theorem in_alg (B ux uy px py : Int) : (ux - 2 * B * px) * (ux - 2 * B * px) + (uy - 2 * B * py) * (uy - 2 * B * py) - (ux * ux + uy * uy) = - (4 * (B * (ux * px + uy * py - B * (px * px + py * py)))) := by grind
theorem gD_rel (a b c p : g_P) : gD a b c p = ((c.2 - a.2) * ((b.1 - a.1) * (b.1 - a.1) + (b.2 - a.2) * (b.2 - a.2)) - (b.2 - a.2) * ((c.1 - a.1) * (c.1 - a.1) + (c.2 - a.2) * (c.2 - a.2))) * (p.1 - a.1) + ((b.1 - a.1) * ((c.1 - a.1) * (c.1 - a.1) + (c.2 - a.2) * (c.2 - a.2)) - (c.1 - a.1) * ((b.1 - a.1) * (b.1 - a.1) + (b.2 - a.2) * (b.2 - a.2))) * (p.2 - a.2) - gO a b c * ((p.1 - a.1) * (p.1 - a.1) + (p.2 - a.2) * (p.2 - a.2)) := by
  unfold gD gQ gO; grind
theorem s_in_eq {C : Nat → Nat → Int32} {t : Nat → Int32} {p0 p1 p2 p : g_P} (e0 : C (t 0).toNatClampNeg 0 = iN p0.1 ∧ C (t 0).toNatClampNeg 1 = iN p0.2) (e1 : C (t 1).toNatClampNeg 0 = iN p1.1 ∧ C (t 1).toNatClampNeg 1 = iN p1.2) (e2 : C (t 2).toNatClampNeg 0 = iN p2.1 ∧ C (t 2).toNatClampNeg 1 = iN p2.2) (h0 : tr_sq p0) (h1 : tr_sq p1) (h2 : tr_sq p2) (hp : tr_sq p) : s_in C t (iN p.1) (iN p.2) = decide (0 < gO p0 p1 p2 * gD p0 p1 p2 p) := by
  have r := gD_rel p0 p1 p2 p
  have o : gO p0 p1 p2 = (p1.1 - p0.1) * (p2.2 - p0.2) - (p1.2 - p0.2) * (p2.1 - p0.1) := rfl
  unfold tr_sq at h0 h1 h2 hp
  unfold s_in
  simp only [e0.1, e0.2, e1.1, e1.2, e2.1, e2.2, iN_sub]
  generalize gO p0 p1 p2 = B at r o ⊢
  generalize gD p0 p1 p2 p = G at r ⊢
  have b1 : (p1.1 - p0.1).natAbs ≤ 30 := by omega
  have b2 : (p1.2 - p0.2).natAbs ≤ 30 := by omega
  have b3 : (p2.1 - p0.1).natAbs ≤ 30 := by omega
  have b4 : (p2.2 - p0.2).natAbs ≤ 30 := by omega
  have b5 : (p.1 - p0.1).natAbs ≤ 30 := by omega
  have b6 : (p.2 - p0.2).natAbs ≤ 30 := by omega
  generalize p1.1 - p0.1 = bx at *
  generalize p1.2 - p0.2 = by' at *
  generalize p2.1 - p0.1 = cx at *
  generalize p2.2 - p0.2 = cy at *
  generalize p.1 - p0.1 = px at *
  generalize p.2 - p0.2 = py at *
  rw [iN_64 (z := bx) (by omega), iN_64 (z := by') (by omega), iN_64 (z := cx) (by omega), iN_64 (z := cy) (by omega), iN_64 (z := px) (by omega), iN_64 (z := py) (by omega), show (2 : Int64) = jN 2 from rfl]
  simp only [jN_mul, jN_add, jN_sub]
  have m1 := g_bd b1 b4
  have m2 := g_bd b2 b3
  have m3 := g_bd b1 b1
  have m4 := g_bd b2 b2
  have m5 := g_bd b3 b3
  have m6 := g_bd b4 b4
  have n1 := g_bd b4 (show (bx * bx + by' * by').natAbs ≤ 1800 by omega)
  have n2 := g_bd b2 (show (cx * cx + cy * cy).natAbs ≤ 1800 by omega)
  have n3 := g_bd b1 (show (cx * cx + cy * cy).natAbs ≤ 1800 by omega)
  have n4 := g_bd b3 (show (bx * bx + by' * by').natAbs ≤ 1800 by omega)
  have hB : B.natAbs ≤ 1800 := by omega
  rw [← o]
  have hux : (cy * (bx * bx + by' * by') - by' * (cx * cx + cy * cy)).natAbs ≤ 108000 := by omega
  have huy : (bx * (cx * cx + cy * cy) - cx * (bx * bx + by' * by')).natAbs ≤ 108000 := by omega
  generalize cy * (bx * bx + by' * by') - by' * (cx * cx + cy * cy) = ux at hux r ⊢
  generalize bx * (cx * cx + cy * cy) - cx * (bx * bx + by' * by') = uy at huy r ⊢
  have k1 := g_bd (show (2 * B).natAbs ≤ 3600 by omega) b5
  have k2 := g_bd (show (2 * B).natAbs ≤ 3600 by omega) b6
  have al := in_alg B ux uy px py
  rw [← r] at al
  have d1 : (ux - 2 * B * px).natAbs ≤ 216000 := by omega
  have d2 : (uy - 2 * B * py).natAbs ≤ 216000 := by omega
  generalize ux - 2 * B * px = dx at d1 al ⊢
  generalize uy - 2 * B * py = dy at d2 al ⊢
  have s1 := g_bd d1 d1
  have s2 := g_bd d2 d2
  have s3 := g_bd hux hux
  have s4 := g_bd huy huy
  rw [decide_eq_decide, jN_lt (by omega) (by omega)]
  generalize B * G = Z at al ⊢
  omega
theorem gD_sw12 (a b c d : g_P) : gD b a c d = - gD a b c d := by unfold gD gO; grind
theorem gD_sw23 (a b c d : g_P) : gD a c b d = - gD a b c d := by unfold gD gO; grind
theorem gOD_12 (a b c d : g_P) : gO b a c * gD b a c d = gO a b c * gD a b c d := by rw [gO_swap, gD_sw12, Int.neg_mul_neg]
theorem gOD_23 (a b c d : g_P) : gO a c b * gD a c b d = gO a b c * gD a b c d := by rw [gO_swap2, gD_sw23, Int.neg_mul_neg]
section CI
variable {n t : Nat} {P : Nat → g_P} {L : Nat → Nat → Option Nat} {St : Nat → Nat → Bool} {f : Nat → Nat} {T C : Nat → Nat → Int32} {tb : Nat → Int32}
abbrev sv_C (n : Nat) (P : Nat → g_P) (C : Nat → Nat → Int32) : Prop := ∀ i, i < n → C i 0 = iN (P i).1 ∧ C i 1 = iN (P i).2
theorem s_in_three (hC : sv_C n P C) (hn : n ≤ 17) (hsq : ∀ i, i < n → tr_sq (P i)) {a b c : Nat} (ha : a < n) (hb : b < n) (hc : c < n) {p : g_P} (hp : tr_sq p) : s_in C (s_three (nI a) (nI b) (nI c)) (iN p.1) (iN p.2) = decide (0 < gO (P a) (P b) (P c) * gD (P a) (P b) (P c) p) := by
  obtain ⟨r0, r1, r2⟩ := sr_three (a := a) (b := b) (c := c) (by omega) (by omega) (by omega)
  obtain ⟨d1, d2, d3⟩ := sc_d (a := a) (b := b) (c := c) (by omega) (by omega) (by omega)
  rw [d1] at r0
  rw [d2] at r1
  rw [d3] at r2
  have key : ∀ x y z : Nat, x = min a (min b c) → y = a + b + c - min a (min b c) - max a (max b c) → z = max a (max b c) → x < n → y < n → z < n → gO (P x) (P y) (P z) * gD (P x) (P y) (P z) p = gO (P a) (P b) (P c) * gD (P a) (P b) (P c) p → s_in C (s_three (nI a) (nI b) (nI c)) (iN p.1) (iN p.2) = decide (0 < gO (P a) (P b) (P c) * gD (P a) (P b) (P c) p) := fun x y z h1 h2 h3 hx hy hz e => by
    rw [← h1] at r0
    rw [← h2] at r1
    rw [← h3] at r2
    rw [← e]
    have q : ∀ i, i < n → C (nI i).toNatClampNeg 0 = iN (P i).1 ∧ C (nI i).toNatClampNeg 1 = iN (P i).2 := fun i hi => by rw [nI_clamp (by omega)]; exact hC i hi
    exact s_in_eq (by rw [r0]; exact q x hx) (by rw [r1]; exact q y hy) (by rw [r2]; exact q z hz) (hsq x hx) (hsq y hy) (hsq z hz) hp
  rcases Nat.le_total a b with u | u <;> rcases Nat.le_total b c with v | v <;> rcases Nat.le_total a c with w | w
  · exact key a b c (by omega) (by omega) (by omega) ha hb hc rfl
  · exact key a b c (by omega) (by omega) (by omega) ha hb hc rfl
  · exact key a c b (by omega) (by omega) (by omega) ha hc hb (gOD_23 _ _ _ _)
  · exact key c a b (by omega) (by omega) (by omega) hc ha hb (by rw [gOD_12, gOD_23])
  · exact key b a c (by omega) (by omega) (by omega) hb ha hc (gOD_12 _ _ _ _)
  · exact key b c a (by omega) (by omega) (by omega) hb hc ha (by rw [gOD_23, gOD_12])
  · exact key c b a (by omega) (by omega) (by omega) hc hb ha (by rw [gOD_12, gOD_23, gOD_12])
  · exact key c b a (by omega) (by omega) (by omega) hc hb ha (by rw [gOD_12, gOD_23, gOD_12])
theorem sv_unf (h : ti_A n t P L St f) (hT : ti_T t f tb) (hV : sv_T t T tb) (hC : sv_C n P C) {a b : Nat} (ha : a < n) (hb : b < n) : s_unf C t T (nI a) (nI b) = uB P L a b := by
  have hn := h.n17
  have i1 := (sv_fa h hT hV (nI a) (nI b) t (Nat.le_refl t)).1
  have hc2 := sv_ct2 h hT hV ha hb
  have no : ¬ (s_fa T (nI a) (nI b) t).1 = 2 → s_unf C t T (nI a) (nI b) = false := fun w => by
    unfold s_unf; rw [if_neg (fun q => w (s_fa_is2 q))]
  cases e1 : L a b with
  | none =>
    have u : uB P L a b = false := by unfold uB; rw [e1]
    rw [u]; refine no ?_
    rw [e1] at hc2
    cases e2 : L b a <;> rw [e2] at hc2 <;> simp at hc2 <;> omega
  | some c =>
    cases e2 : L b a with
    | none =>
      have u : uB P L a b = false := by unfold uB; rw [e1, e2]
      rw [u]; refine no ?_
      rw [e1, e2] at hc2; simp at hc2; omega
    | some d =>
      have u : uB P L a b = decide (0 < gD (P a) (P b) (P c) (P d)) := by unfold uB; rw [e1, e2]
      rw [u]
      have lc := (h.lt e1).2.2
      have ld := (h.lt e2).2.2
      have p1 := (h.ok.tri _ _ _ e1).2.2.2.1
      have p2 := (h.ok.tri _ _ _ e2).2.2.2.1
      obtain ⟨q0, q⟩ := sv_two h hT hV ha hb e1 e2
      unfold s_unf
      rw [if_pos (by rw [q0]; rfl)]
      have pos : ∀ {x y : Int}, 0 < x → (0 < x * y ↔ 0 < y) := fun {x y} hx => ⟨fun z => by
        rcases Int.lt_or_le 0 y with w | w
        · exact w
        · have := Int.mul_nonpos_of_nonneg_of_nonpos (Int.le_of_lt hx) w
          omega, fun z => Int.mul_pos hx z⟩
      rcases q with ⟨q1, q2⟩ | ⟨q1, q2⟩
      · rw [q1, q2, nI_clamp (by omega), (hC d ld).1, (hC d ld).2, s_in_three hC hn h.sq ha hb lc (h.sq d ld), decide_eq_decide]
        exact pos p1
      · rw [q1, q2, nI_clamp (by omega), (hC c lc).1, (hC c lc).2, s_in_three hC hn h.sq ha hb ld (h.sq c lc), decide_eq_decide, ← gOD_12, gD_opp]
        exact pos p2
theorem s_cross_eq (hC : sv_C n P C) {a b c : Nat} (ha : a < n) (hb : b < n) (hc : c < n) : s_cross (C a) (C b) (C c) = iN (gO (P a) (P b) (P c)) := by
  unfold s_cross gO
  rw [(hC a ha).1, (hC a ha).2, (hC b hb).1, (hC b hb).2, (hC c hc).1, (hC c hc).2]
  simp only [iN_sub, iN_mul]
theorem g_ng9 {p q : Int} (h : p < q) : p * q < 0 ↔ (p < 0 ∧ 0 < q) := by
  constructor
  · intro z
    rcases Int.lt_or_le p 0 with w | w
    · rcases Int.lt_or_le 0 q with y | y
      · exact ⟨w, y⟩
      · have := Int.mul_nonneg_of_nonpos_of_nonpos (Int.le_of_lt w) y
        omega
    · have := Int.mul_nonneg w (show 0 ≤ q by omega)
      omega
  · rintro ⟨z, w⟩
    exact Int.mul_neg_of_neg_of_pos z w
theorem sv_flp {nS : Nat} {S : Nat → Nat → Int32} (h : ti_A n t P L St f) (hT : ti_T t f tb) (hV : sv_T t T tb) (hC : sv_C n P C) {a b : Nat} (hS : s_stay nS S (nI a) (nI b) = St a b) (ha : a < n) (hb : b < n) : s_flp C t T nS S (nI a) (nI b) = tB P L St a b := by
  have hn := h.n17
  have i1 := (sv_fa h hT hV (nI a) (nI b) t (Nat.le_refl t)).1
  have hc2 := sv_ct2 h hT hV ha hb
  have no : (s_fa T (nI a) (nI b) t).1 < 2 → s_flp C t T nS S (nI a) (nI b) = false := fun w => by
    unfold s_flp; exact if_pos ((nI_ltI (a := (s_fa T (nI a) (nI b) t).1) (b := 2) (by omega) (by decide)).mpr w)
  cases e1 : L a b with
  | none =>
    have u : tB P L St a b = false := by unfold tB; rw [e1]
    rw [u]; refine no ?_
    rw [e1] at hc2
    cases e2 : L b a <;> rw [e2] at hc2 <;> simp at hc2 <;> omega
  | some c =>
    cases e2 : L b a with
    | none =>
      have u : tB P L St a b = false := by unfold tB; rw [e1, e2]
      rw [u]; refine no ?_
      rw [e1, e2] at hc2; simp at hc2; omega
    | some d =>
      have u : tB P L St a b = (!St a b && decide (gO (P c) (P d) (P a) < 0) && decide (0 < gO (P c) (P d) (P b))) := by unfold tB; rw [e1, e2]
      rw [u]
      have lc := (h.lt e1).2.2
      have ld := (h.lt e2).2.2
      have p1 := (h.ok.tri _ _ _ e1).2.2.2.1
      have p2 := (h.ok.tri _ _ _ e2).2.2.2.1
      obtain ⟨q0, q⟩ := sv_two h hT hV ha hb e1 e2
      unfold s_flp
      rw [if_neg (by rw [q0]; decide), hS]
      cases es : St a b with
      | true => rfl
      | false =>
        rw [if_neg (by decide)]
        have b1 := gO_bd (h.sq c lc) (h.sq d ld) (h.sq a ha)
        have b2 := gO_bd (h.sq c lc) (h.sq d ld) (h.sq b hb)
        have s1 := gO_swap (P c) (P d) (P a)
        have s2 := gO_swap (P c) (P d) (P b)
        have df : gO (P c) (P d) (P b) - gO (P c) (P d) (P a) = gO (P a) (P b) (P c) + gO (P b) (P a) (P d) := by unfold gO; grind
        have b3 := g_bd b1 b2
        have gn := g_ng9 (p := gO (P c) (P d) (P a)) (q := gO (P c) (P d) (P b)) (by omega)
        have e9 : s_cross (C (s_fa T (nI a) (nI b) t).2.1.toNatClampNeg) (C (s_fa T (nI a) (nI b) t).2.2.toNatClampNeg) (C (nI a).toNatClampNeg) * s_cross (C (s_fa T (nI a) (nI b) t).2.1.toNatClampNeg) (C (s_fa T (nI a) (nI b) t).2.2.toNatClampNeg) (C (nI b).toNatClampNeg) = iN (gO (P c) (P d) (P a) * gO (P c) (P d) (P b)) := by
          rcases q with ⟨q1, q2⟩ | ⟨q1, q2⟩
          · rw [q1, q2, nI_clamp (by omega), nI_clamp (by omega), nI_clamp (by omega), nI_clamp (by omega), s_cross_eq hC lc ld ha, s_cross_eq hC lc ld hb, iN_mul]
          · rw [q1, q2, nI_clamp (by omega), nI_clamp (by omega), nI_clamp (by omega), nI_clamp (by omega), s_cross_eq hC ld lc ha, s_cross_eq hC ld lc hb, iN_mul, s1, s2, Int.neg_mul_neg]
        rw [e9]
        by_cases w : gO (P c) (P d) (P a) * gO (P c) (P d) (P b) < 0
        · obtain ⟨w1, w2⟩ := gn.mp w
          rw [if_neg (fun z => by rw [iN_0, iN_le (by decide) (by omega)] at z; omega), decide_eq_true w1, decide_eq_true w2]; rfl
        · rw [if_pos (by rw [iN_0, iN_le (by decide) (by omega)]; omega)]
          by_cases w1 : gO (P c) (P d) (P a) < 0
          · rw [decide_eq_false (p := 0 < gO (P c) (P d) (P b)) (fun w2 => w (gn.mpr ⟨w1, w2⟩)), Bool.and_false]
          · rw [decide_eq_false w1]; rfl
end CI
