/-! on which side of a face a place is -/
section SD
variable {n t : Nat} {P : Nat → g_P} {C : Nat → Nat → Int32} {r : Nat → Int32} {p : g_P} {z : Nat}
theorem s_sI_eq (hC : sv_C n P C) {x y : Nat} (hx : x < n) (hy : y < n) (p : g_P) : s_cross (C x) (C y) (s2 (iN p.1) (iN p.2)) = iN (gO (P x) (P y) p) := by
  unfold s_cross gO
  rw [(hC x hx).1, (hC x hx).2, (hC y hy).1, (hC y hy).2, show s2 (iN p.1) (iN p.2) 0 = iN p.1 from rfl, show s2 (iN p.1) (iN p.2) 1 = iN p.2 from rfl]
  simp only [iN_sub, iN_mul]
theorem iN_pos0 {a : Int} (ha : a.natAbs < 2 ^ 31) : (iN a ≤ 0 ↔ a ≤ 0) ∧ (0 ≤ iN a ↔ 0 ≤ a) ∧ (iN a = 0 ↔ a = 0) := by
  rw [show (0 : Int32) = iN 0 from rfl]
  exact ⟨iN_le ha (by decide), iN_le (by decide) ha, iN_eq ha (by decide)⟩
/-- the three sides of a row, and which way it turns -/
theorem s_row3 (hC : sv_C n P C) (hn : n ≤ 17) (hz : sr_z z r) (h0 : z / 32 / 32 < n) (h1 : z / 32 % 32 < n) (h2 : z % 32 < n) (p : g_P) : s_sI C r (iN p.1) (iN p.2) 0 = iN (gO (P (z / 32 / 32)) (P (z / 32 % 32)) p) ∧ s_sI C r (iN p.1) (iN p.2) 1 = iN (gO (P (z / 32 % 32)) (P (z % 32)) p) ∧ s_sI C r (iN p.1) (iN p.2) 2 = iN (gO (P (z % 32)) (P (z / 32 / 32)) p) ∧ s_cross (C (r 0).toNatClampNeg) (C (r 1).toNatClampNeg) (C (r 2).toNatClampNeg) = iN (gO (P (z / 32 / 32)) (P (z / 32 % 32)) (P (z % 32))) := by
  obtain ⟨r0, r1, r2⟩ := hz
  have c0 : (r 0).toNatClampNeg = z / 32 / 32 := by rw [r0, nI_clamp (by omega)]
  have c1 : (r 1).toNatClampNeg = z / 32 % 32 := by rw [r1, nI_clamp (by omega)]
  have c2 : (r 2).toNatClampNeg = z % 32 := by rw [r2, nI_clamp (by omega)]
  refine ⟨?_, ?_, ?_, ?_⟩
  · show s_cross (C (r 0).toNatClampNeg) (C (r 1).toNatClampNeg) _ = _
    rw [c0, c1]; exact s_sI_eq hC h0 h1 p
  · show s_cross (C (r 1).toNatClampNeg) (C (r 2).toNatClampNeg) _ = _
    rw [c1, c2]; exact s_sI_eq hC h1 h2 p
  · show s_cross (C (r 2).toNatClampNeg) (C (r 0).toNatClampNeg) _ = _
    rw [c2, c0]; exact s_sI_eq hC h2 h0 p
  · rw [c0, c1, c2]; exact s_cross_eq hC h0 h1 h2
/-- where a place is, seen from a row that turns -/
theorem s_side_eq (hC : sv_C n P C) (hn : n ≤ 17) (hsq : ∀ i, i < n → tr_sq (P i)) (hz : sr_z z r) (h0 : z / 32 / 32 < n) (h1 : z / 32 % 32 < n) (h2 : z % 32 < n) (hp : tr_sq p) (ne : gO (P (z / 32 / 32)) (P (z / 32 % 32)) (P (z % 32)) ≠ 0) : (cB (P (z / 32 / 32)) (P (z / 32 % 32)) (P (z % 32)) p = false → s_side C r (iN p.1) (iN p.2) = -1) ∧ (cB (P (z / 32 / 32)) (P (z / 32 % 32)) (P (z % 32)) p = true → s_side C r (iN p.1) (iN p.2) = if gO (P (z % 32)) (P (z / 32 / 32)) p = 0 then 2 else if gO (P (z / 32 % 32)) (P (z % 32)) p = 0 then 1 else if gO (P (z / 32 / 32)) (P (z / 32 % 32)) p = 0 then 0 else 3) := by
  obtain ⟨s0, s1, s2', s3'⟩ := s_row3 hC hn hz h0 h1 h2 p
  have b0 := gO_bd (hsq _ h0) (hsq _ h1) hp
  have b1 := gO_bd (hsq _ h1) (hsq _ h2) hp
  have b2 := gO_bd (hsq _ h2) (hsq _ h0) hp
  have b3 := gO_bd (hsq _ h0) (hsq _ h1) (hsq _ h2)
  have sm := gO_sum (P (z / 32 / 32)) (P (z / 32 % 32)) (P (z % 32)) p
  unfold cB
  generalize gO (P (z / 32 / 32)) (P (z / 32 % 32)) (P (z % 32)) = o at *
  generalize gO (P (z / 32 / 32)) (P (z / 32 % 32)) p = g0 at *
  generalize gO (P (z / 32 % 32)) (P (z % 32)) p = g1 at *
  generalize gO (P (z % 32)) (P (z / 32 / 32)) p = g2 at *
  obtain ⟨p0, q0, e0⟩ := iN_pos0 (a := g0) (by omega)
  obtain ⟨p1, q1, e1⟩ := iN_pos0 (a := g1) (by omega)
  obtain ⟨p2, q2, e2⟩ := iN_pos0 (a := g2) (by omega)
  obtain ⟨p3, q3, e3⟩ := iN_pos0 (a := o) (by omega)
  have hl : s_left C r = decide (0 < o) := by
    unfold s_left
    rw [s3']
    by_cases w : o ≤ 0
    · rw [if_pos (p3.mpr w), decide_eq_false (by omega)]
    · rw [if_neg (fun q => w (p3.mp q)), decide_eq_true (by omega)]
  have bad : ∀ (k : Nat) (g : Int), s_sI C r (iN p.1) (iN p.2) k = iN g → g.natAbs ≤ 1800 → s_bad C r (iN p.1) (iN p.2) k = if 0 < o then decide (g < 0) else decide (0 < g) := fun k g e hb => by
    obtain ⟨u1, u2, -⟩ := iN_pos0 (a := g) (by omega)
    unfold s_bad
    rw [hl, e]
    by_cases w : 0 < o
    · rw [decide_eq_true w, if_pos rfl, if_pos w]
      by_cases y : 0 ≤ g
      · rw [if_pos (u2.mpr y), decide_eq_false (by omega)]
      · rw [if_neg (fun q => y (u2.mp q)), decide_eq_true (by omega)]
    · rw [decide_eq_false w, if_neg (by decide), if_neg w]
      by_cases y : g ≤ 0
      · rw [if_pos (u1.mpr y), decide_eq_false (by omega)]
      · rw [if_neg (fun q => y (u1.mp q)), decide_eq_true (by omega)]
  have B0 := bad 0 g0 s0 b0
  have B1 := bad 1 g1 s1 b1
  have B2 := bad 2 g2 s2' b2
  have on : s_on C r (iN p.1) (iN p.2) 3 = if g2 = 0 then 2 else if g1 = 0 then 1 else if g0 = 0 then 0 else 3 := by
    show (if s_sI C r (iN p.1) (iN p.2) 2 = 0 then nI 2 else if s_sI C r (iN p.1) (iN p.2) 1 = 0 then nI 1 else if s_sI C r (iN p.1) (iN p.2) 0 = 0 then nI 0 else 3) = _
    rw [s0, s1, s2']
    simp only [e0, e1, e2]
    rfl
  constructor
  · intro c
    have c2 := of_decide_eq_false c
    have ex : ∃ j, j < 3 ∧ s_bad C r (iN p.1) (iN p.2) j = true := by
      by_cases w : 0 < o
      · by_cases y0 : g0 < 0
        · exact ⟨0, by decide, by rw [B0, if_pos w]; exact decide_eq_true y0⟩
        · by_cases y1 : g1 < 0
          · exact ⟨1, by decide, by rw [B1, if_pos w]; exact decide_eq_true y1⟩
          · exact ⟨2, by decide, by rw [B2, if_pos w]; exact decide_eq_true (by omega)⟩
      · by_cases y0 : 0 < g0
        · exact ⟨0, by decide, by rw [B0, if_neg w]; exact decide_eq_true y0⟩
        · by_cases y1 : 0 < g1
          · exact ⟨1, by decide, by rw [B1, if_neg w]; exact decide_eq_true y1⟩
          · exact ⟨2, by decide, by rw [B2, if_neg w]; exact decide_eq_true (by omega)⟩
    obtain ⟨i, e, -⟩ := rg_fst_ex ex
    unfold s_side
    rw [e]; rfl
  · intro c
    have c2 := of_decide_eq_true c
    have no : ∀ j, j < 3 → s_bad C r (iN p.1) (iN p.2) j = false := fun j hj => by
      rcases (show j = 0 ∨ j = 1 ∨ j = 2 by omega) with rfl | rfl | rfl
      · rw [B0]; split <;> exact decide_eq_false (by omega)
      · rw [B1]; split <;> exact decide_eq_false (by omega)
      · rw [B2]; split <;> exact decide_eq_false (by omega)
    unfold s_side
    rw [rg_fst_none no, if_neg (by decide)]
    exact on
end SD
