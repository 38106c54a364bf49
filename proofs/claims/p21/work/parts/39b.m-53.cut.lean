/-! a new cairn, in the reference: one triangle is cut -/
/-- a list, and edges that stay -/
abbrev ti_sp (S : Nat → Prop) (St : Nat → Nat → Bool) (t : Nat) (st : r_S3) : Prop := st.1 = t ∧ (∃ f, en_ S t f ∧ ti_T t f st.2.1) ∧ ti_G St st.2.2 ∧ ∀ z, S z → z < 32768
def midSt (St : Nat → Nat → Bool) (n a b : Nat) : Nat → Nat → Bool := if St a b = true then st_set (st_set St a n true) b n true else St
theorem ti_sp.congr {S S' : Nat → Prop} {St St' : Nat → Nat → Bool} {t : Nat} {st : r_S3} (h : ti_sp S St t st) (e : ∀ z, S' z ↔ S z) (e2 : ∀ i j, i < 17 → j < 17 → St i j = St' i j) : ti_sp S' St' t st := by
  obtain ⟨h1, ⟨f, h2, h3⟩, h4, h5⟩ := h
  exact ⟨h1, ⟨f, h2.congr e (fun _ _ => rfl), h3⟩, h4.congr e2, fun z q => h5 z ((e z).mp q)⟩
section I
variable {n : Nat} {P : Nat → g_P} {xr yr : Nat → Int32} {p : g_P} {S : Nat → Prop} {St : Nat → Nat → Bool} {t : Nat} {st : r_S3}
theorem area_z (hX : ti_X n P xr yr) (hn : n ≤ 16) (hP : ∀ i, i < n → tr_sq (P i)) (hp : tr_sq p) {a b : Nat} (ha : a < n) (hb : b < n) : r_area xr yr (nI a) (nI b) (iN p.1) (iN p.2) = 0 ↔ gO (P a) (P b) p = 0 := by
  rw [r_area_eq hX (by omega) ha hb]
  have := gO_bd (hP a ha) (hP b hb) hp
  exact iN_eq (b := 0) (by omega) (by decide)
theorem sp_put (hX : ti_X n P xr yr) (hn : n ≤ 16) (hP : ∀ i, i < n → tr_sq (P i)) (hp : tr_sq p) (h : ti_sp S St t st) {a b : Nat} (ha : a < n) (hb : b < n) (hz : gO (P a) (P b) p ≠ 0) (hS : ¬ S (sc a b n)) : ti_sp (fun z => S z ∨ z = sc a b n) St (t + 1) (r_spS n xr yr (iN p.1) (iN p.2) (nI a) (nI b) st) := by
  obtain ⟨h1, ⟨f, h2, h3⟩, h4, h5⟩ := h
  have l := sc_lt (a := a) (b := b) (c := n) (by omega) (by omega) (by omega)
  unfold r_spS
  rw [if_neg (fun q => hz ((area_z hX hn hP hp ha hb).mp q))]
  obtain ⟨f', e1, e2⟩ := list_put h2 h5 h3 l hS
  refine ⟨by show st.1 + 1 = t + 1; rw [h1], ⟨f', e1, ?_⟩, h4, fun z q => ?_⟩
  · show ti_T (t + 1) f' (r_put st.1 st.2.1 (nI a) (nI b) (nI n))
    unfold r_put
    rw [r_code_nI (by omega) (by omega) (by omega), h1]
    exact e2
  · rcases q with q | q
    · exact h5 z q
    · rw [q]; exact l
theorem sp_zero (hX : ti_X n P xr yr) (hn : n ≤ 16) (hP : ∀ i, i < n → tr_sq (P i)) (hp : tr_sq p) (h : ti_sp S St t st) {a b : Nat} (ha : a < n) (hb : b < n) (hz : gO (P a) (P b) p = 0) : ti_sp S (midSt St n a b) t (r_spS n xr yr (iN p.1) (iN p.2) (nI a) (nI b) st) := by
  obtain ⟨h1, h2, h4, h5⟩ := h
  unfold r_spS
  rw [if_pos ((area_z hX hn hP hp ha hb).mpr hz), nI_clamp (by omega), nI_clamp (by omega)]
  have i := bI_0 (St a b)
  rw [← h4 a b (by omega) (by omega)] at i
  unfold midSt
  cases e : St a b with
  | false =>
    rw [if_pos (i.mpr e), if_neg (by decide)]
    exact ⟨h1, h2, h4, h5⟩
  | true =>
    have i' : ¬ st.2.2 a b = 0 := fun q => by rw [i.mp q] at e; cases e
    rw [if_neg i', if_pos rfl]
    exact ⟨h1, h2, let_eq (let_eq h4 (a := a) (b := n) (by omega) (by omega) true) (a := b) (b := n) (by omega) (by omega) true, h5⟩
/-- the three corners of a code, in order -/
theorem cf_nI {z : Nat} (hz : z < 32768) : r_cf (nI z) 0 = nI (z / 32 / 32) ∧ r_cf (nI z) 1 = nI (z / 32 % 32) ∧ r_cf (nI z) 2 = nI (z % 32) := by
  rw [r_cf0, r_cf1, r_cf2, show (32 : Int32) = nI 32 from rfl, pk_div (a := z) (by omega) (by decide) (by decide), pk_div (by omega) (by decide) (by decide)]
  refine ⟨rfl, ?_, ?_⟩
  · rw [pk_mul, pk_sub (by omega)]; congr 1; omega
  · rw [pk_mul, pk_sub (by omega)]; congr 1; omega
theorem spK3 {cf : Nat → Int32} {x y : Int32} : r_spK n xr yr x y cf st 3 = r_spS n xr yr x y (cf 2) (cf 0) (r_spS n xr yr x y (cf 1) (cf 2) (r_spS n xr yr x y (cf 0) (cf 1) st)) := rfl
theorem split_start {u : Nat} {z : Nat} (h : ti_sp S St (u + 1) st) (hz : S z) : ti_sp (fun x => S x ∧ x ≠ z) St u (st.1 - 1, r_take (st.1 - 1) (r_pos st.1 st.2.1 (nI z)) st.2.1, st.2.2) ∧ ∃ j, j < st.1 ∧ st.2.1 j = nI z := by
  obtain ⟨h1, ⟨f, h2, h3⟩, h4, h5⟩ := h
  rw [h1]
  obtain ⟨x1, f', e1, e2⟩ := list_take h2 h5 h3 hz
  exact ⟨⟨rfl, ⟨f', e1, e2⟩, h4, fun z q => h5 z q.1⟩, x1⟩
theorem split_eq {x y : Int32} {z : Nat} {c0 c1 c2 : Nat} (hz : z < 32768) (e0 : z / 32 / 32 = c0) (e1 : z / 32 % 32 = c1) (e2 : z % 32 = c2) : r_split n xr yr (nI z) x y st = r_spS n xr yr x y (nI c2) (nI c0) (r_spS n xr yr x y (nI c1) (nI c2) (r_spS n xr yr x y (nI c0) (nI c1) (st.1 - 1, r_take (st.1 - 1) (r_pos st.1 st.2.1 (nI z)) st.2.1, st.2.2))) := by
  obtain ⟨q0, q1, q2⟩ := cf_nI hz
  unfold r_split
  rw [spK3, q0, q1, q2, e0, e1, e2]
/-- inside: three for one -/
theorem split_3 (hX : ti_X n P xr yr) (hn : n ≤ 16) (hP : ∀ i, i < n → tr_sq (P i)) (hp : tr_sq p) {u : Nat} (h : ti_sp S St (u + 1) st) {a b c : Nat} (hab : a < b) (hbc : b < c) (hc : c < n) (hz : S (sc a b c)) (z1 : gO (P a) (P b) p ≠ 0) (z2 : gO (P b) (P c) p ≠ 0) (z3 : gO (P c) (P a) p ≠ 0) (hS : ∀ x y, x < n → y < n → ¬ S (sc x y n)) : ti_sp (fun z => (((S z ∧ z ≠ sc a b c) ∨ z = sc a b n) ∨ z = sc b c n) ∨ z = sc c a n) St (u + 3) (r_split n xr yr (nI (sc a b c)) (iN p.1) (iN p.2) st) := by
  obtain ⟨d0, d1, d2⟩ := sc_d (a := a) (b := b) (c := c) (by omega) (by omega) (by omega)
  have lz := sc_lt (a := a) (b := b) (c := c) (by omega) (by omega) (by omega)
  rw [split_eq lz (c0 := a) (c1 := b) (c2 := c) (by rw [d0]; omega) (by rw [d1]; omega) (by rw [d2]; omega)]
  obtain ⟨g0, -⟩ := split_start h hz
  have ne : ∀ x y x' y', x < n → y < n → x' < n → y' < n → x ≠ y → ¬ isP x y x' y' → sc x' y' n ≠ sc x y n := fun x y x' y' h1 h2 h3 h4 h5 h6 e => by
    have := sc_inj (by omega) (by omega) (by omega) (by omega) (by omega) (by omega) e
    unfold isP at h6
    omega
  have g1 := sp_put hX hn hP hp g0 (a := a) (b := b) (by omega) (by omega) z1 (fun q => hS _ _ (by omega) (by omega) q.1)
  have g2 := sp_put hX hn hP hp g1 (a := b) (b := c) (by omega) (by omega) z2 (fun q => by
    rcases q with q | q
    · exact hS _ _ (by omega) (by omega) q.1
    · exact ne a b b c (by omega) (by omega) (by omega) (by omega) (by omega) (by unfold isP; omega) q)
  exact sp_put hX hn hP hp g2 (a := c) (b := a) (by omega) (by omega) z3 (fun q => by
    rcases q with (q | q) | q
    · exact hS _ _ (by omega) (by omega) q.1
    · exact ne a b c a (by omega) (by omega) (by omega) (by omega) (by omega) (by unfold isP; omega) q
    · exact ne b c c a (by omega) (by omega) (by omega) (by omega) (by omega) (by unfold isP; omega) q)
theorem mid_swap (hsym : ∀ i j, St i j = St j i) (a b : Nat) (i j : Nat) : midSt St n a b i j = midSt St n b a i j := by
  unfold midSt
  rw [hsym a b]
  by_cases h : St b a = true
  · rw [if_pos h, if_pos h]
    unfold st_set
    by_cases w1 : (i = b ∧ j = n) ∨ (i = n ∧ j = b)
    · rw [if_pos w1]
      by_cases w2 : (i = a ∧ j = n) ∨ (i = n ∧ j = a)
      · rw [if_pos w2]
      · rw [if_neg w2, if_pos w1]
    · rw [if_neg w1, if_neg w1]
  · rw [if_neg h, if_neg h]
/-- on an edge: two for one -/
theorem split_2 (hX : ti_X n P xr yr) (hn : n ≤ 16) (hP : ∀ i, i < n → tr_sq (P i)) (hp : tr_sq p) (hsym : ∀ i j, St i j = St j i) {u : Nat} (h : ti_sp S St (u + 1) st) {a b c : Nat} (nab : a ≠ b) (nbc : b ≠ c) (nca : c ≠ a) (ha : a < n) (hb : b < n) (hc : c < n) (hz : S (sc a b c)) (z1 : gO (P a) (P b) p = 0) (z2 : gO (P b) (P c) p ≠ 0) (z3 : gO (P c) (P a) p ≠ 0) (hS1 : ¬ S (sc a c n)) (hS2 : ¬ S (sc b c n)) : ti_sp (fun z => ((S z ∧ z ≠ sc a b c) ∨ z = sc a c n) ∨ z = sc b c n) (midSt St n a b) (u + 2) (r_split n xr yr (nI (sc a b c)) (iN p.1) (iN p.2) st) := by
  have main : ∀ a b : Nat, a < b → b ≠ c → c ≠ a → b < n → S (sc a b c) → gO (P a) (P b) p = 0 → gO (P b) (P c) p ≠ 0 → gO (P c) (P a) p ≠ 0 → ¬ S (sc a c n) → ¬ S (sc b c n) → ti_sp (fun z => ((S z ∧ z ≠ sc a b c) ∨ z = sc a c n) ∨ z = sc b c n) (midSt St n a b) (u + 2) (r_split n xr yr (nI (sc a b c)) (iN p.1) (iN p.2) st) := by
    intro a b nab nbc nca hb hz z1 z2 z3 hS1 hS2
    obtain ⟨d0, d1, d2⟩ := sc_d (a := a) (b := b) (c := c) (by omega) (by omega) (by omega)
    have lz := sc_lt (a := a) (b := b) (c := c) (by omega) (by omega) (by omega)
    obtain ⟨g0, -⟩ := split_start h hz
    have s1 := gO_swap (P b) (P c) p
    have s2 := gO_swap (P c) (P a) p
    have s3 := gO_swap (P a) (P b) p
    have q1 : sc c a n = sc a c n := sc_swap _ _ _
    have q2 : sc c b n = sc b c n := sc_swap _ _ _
    have ne : sc a c n ≠ sc b c n := fun e => by
      have := sc_inj (by omega) (by omega) (by omega) (by omega) (by omega) (by omega) e
      omega
    have or1 : ∀ z, ((S z ∧ z ≠ sc a b c) ∨ z = sc a c n) ∨ z = sc b c n ↔ ((S z ∧ z ≠ sc a b c) ∨ z = sc b c n) ∨ z = sc a c n := fun z => by
      constructor
      · rintro ((q | q) | q)
        · exact Or.inl (Or.inl q)
        · exact Or.inr q
        · exact Or.inl (Or.inr q)
      · rintro ((q | q) | q)
        · exact Or.inl (Or.inl q)
        · exact Or.inr q
        · exact Or.inl (Or.inr q)
    rcases Nat.lt_or_ge b c with w | w
    · rw [split_eq lz (c0 := a) (c1 := b) (c2 := c) (by rw [d0]; omega) (by rw [d1]; omega) (by rw [d2]; omega)]
      have g1 := sp_zero hX hn hP hp g0 (a := a) (b := b) (by omega) (by omega) z1
      have g2 := sp_put hX hn hP hp g1 (a := b) (b := c) (by omega) (by omega) z2 (fun q => hS2 q.1)
      have g3 := sp_put hX hn hP hp g2 (a := c) (b := a) (by omega) (by omega) z3 (fun q => by
        rw [q1] at q
        rcases q with q | q
        · exact hS1 q.1
        · exact ne q)
      rw [q1] at g3
      exact g3.congr or1 (fun _ _ _ _ => rfl)
    · rcases Nat.lt_or_ge a c with w2 | w2
      · rw [split_eq lz (c0 := a) (c1 := c) (c2 := b) (by rw [d0]; omega) (by rw [d1]; omega) (by rw [d2]; omega)]
        have g1 := sp_put hX hn hP hp g0 (a := a) (b := c) (by omega) (by omega) (by omega) (fun q => hS1 q.1)
        have g2 := sp_put hX hn hP hp g1 (a := c) (b := b) (by omega) (by omega) (by omega) (fun q => by
          rw [q2] at q
          rcases q with q | q
          · exact hS2 q.1
          · exact ne q.symm)
        have g3 := sp_zero hX hn hP hp g2 (a := b) (b := a) (by omega) (by omega) (by omega)
        rw [q2] at g3
        exact g3.congr (fun _ => Iff.rfl) (fun i j _ _ => mid_swap hsym b a i j)
      · rw [split_eq lz (c0 := c) (c1 := a) (c2 := b) (by rw [d0]; omega) (by rw [d1]; omega) (by rw [d2]; omega)]
        have g1 := sp_put hX hn hP hp g0 (a := c) (b := a) (by omega) (by omega) z3 (fun q => by rw [q1] at q; exact hS1 q.1)
        have g2 := sp_zero hX hn hP hp g1 (a := a) (b := b) (by omega) (by omega) z1
        have g3 := sp_put hX hn hP hp g2 (a := b) (b := c) (by omega) (by omega) z2 (fun q => by
          rcases q with q | q
          · exact hS2 q.1
          · rw [q1] at q; exact ne q.symm)
        rw [q1] at g3
        exact g3
  rcases Nat.lt_or_ge a b with w | w
  · exact main a b w nbc nca hb hz z1 z2 z3 hS1 hS2
  · have s1 := gO_swap (P a) (P b) p
    have s2 := gO_swap (P b) (P c) p
    have s3 := gO_swap (P c) (P a) p
    have q0 : sc b a c = sc a b c := sc_swap _ _ _
    have k := main b a (by omega) (fun e => nca e.symm) (fun e => nbc e.symm) ha (by rw [q0]; exact hz) (by omega) (by omega) (by omega) hS2 hS1
    rw [q0] at k
    refine k.congr (fun z => ?_) (fun i j _ _ => mid_swap hsym b a i j)
    constructor
    · rintro ((q | q) | q)
      · exact Or.inl (Or.inl q)
      · exact Or.inr q
      · exact Or.inl (Or.inr q)
    · rintro ((q | q) | q)
      · exact Or.inl (Or.inl q)
      · exact Or.inr q
      · exact Or.inl (Or.inr q)
end I
/-! a new cairn, in the reference: all -/
theorem ov_at {cov : Nat → Bool} {tb : Nat → Int32} {k : Nat} (hk : cov k = true) : ∀ t, k < t → r_ov cov tb t (rg_ct cov k) = tb k
  | 0, h => absurd h (Nat.not_lt_zero _)
  | t + 1, h => by
    show (if cov t = true then upd (r_ov cov tb t) (rg_ct cov t) (tb t) else r_ov cov tb t) (rg_ct cov k) = _
    rcases Nat.lt_or_ge k t with z | z
    · have i := ov_at (tb := tb) hk t z
      by_cases e : cov t = true
      · rw [if_pos e, upd_if, if_neg ?_]
        · exact i
        · have : rg_ct cov (k + 1) ≤ rg_ct cov t := by
            have m : ∀ j, rg_ct cov (k + 1) ≤ rg_ct cov (k + 1 + j) := by
              intro j
              induction j with
              | zero => exact Nat.le_refl _
              | succ j ih =>
                refine Nat.le_trans ih ?_
                show rg_ct cov (k + 1 + j) ≤ rg_ct cov (k + 1 + j) + _
                exact Nat.le_add_right _ _
            have := m (t - (k + 1))
            rwa [show k + 1 + (t - (k + 1)) = t from by omega] at this
          rw [rg_ct_t hk] at this
          omega
      · rw [if_neg e]; exact i
    · have : k = t := by omega
      subst this
      rw [if_pos hk, upd_if, if_pos rfl]
section I
variable {n t : Nat} {P : Nat → g_P} {L L' : Nat → Nat → Option Nat} {St St' : Nat → Nat → Bool} {f : Nat → Nat} {xr yr tb : Nat → Int32} {sg : Nat → Nat → Int32} {p : g_P} {x y : Int32}
theorem st_new (h : ti_A n t P L St f) (i : Nat) : St i n = false ∧ St n i = false := by
  have k : St i n = false := by
    cases e : St i n with
    | false => rfl
    | true =>
      rcases h.ed i n e with ⟨w, q⟩ | ⟨w, q⟩
      · have := (h.lt q).2.1; omega
      · have := (h.lt q).1; omega
  exact ⟨k, by rw [h.sym]; exact k⟩
theorem clr_eq (h : ti_A n t P L St f) (hn : n ≤ 16) (hG : ti_G St sg) : ∀ k, k ≤ n + 1 → ti_G St (r_clr n sg k)
  | 0, _ => hG
  | k + 1, hk => by
    have i := clr_eq h hn hG k (by omega)
    refine (let_eq i (a := k) (b := n) (by omega) (by omega) false).congr (fun i j _ _ => ?_)
    unfold st_set
    split
    · rename_i w
      rcases w with ⟨rfl, rfl⟩ | ⟨rfl, rfl⟩
      · exact (st_new h _).1.symm
      · exact (st_new h _).2.symm
    · rfl
theorem adS_1 {cov : Nat → Bool} (hc : cov = r_pCov xr yr tb x y) {k : Nat} (hk : k < t) (h : ∀ j, j < t → (cov j = true ↔ j = k)) : r_mm t xr yr tb x y = 1 ∧ r_ovF t xr yr tb x y 0 = tb k ∧ r_adS n t xr yr tb sg x y = r_split n xr yr (tb k) x y (t, tb, r_clr n sg (n + 1)) := by
  subst hc
  have m : r_mm t xr yr tb x y = 1 := rg_ct_one hk h
  have o : r_ovF t xr yr tb x y 0 = tb k := by
    have := ov_at (tb := tb) ((h k hk).mpr rfl) t hk
    rwa [rg_ct_0 (fun j hj => by
      cases e : r_pCov xr yr tb x y j with
      | false => rfl
      | true => have := (h j (by omega)).mp e; omega)] at this
  refine ⟨m, o, ?_⟩
  unfold r_adS r_ad3
  rw [m]
  show r_split n xr yr (r_ovF t xr yr tb x y 0) x y (t, tb, r_clr n sg (n + 1)) = _
  rw [o]
theorem adS_2 {cov : Nat → Bool} (hc : cov = r_pCov xr yr tb x y) {k k2 : Nat} (hk : k < k2) (hk2 : k2 < t) (h : ∀ j, j < t → (cov j = true ↔ j = k ∨ j = k2)) : r_mm t xr yr tb x y = 2 ∧ r_ovF t xr yr tb x y 0 = tb k ∧ r_ovF t xr yr tb x y 1 = tb k2 ∧ r_adS n t xr yr tb sg x y = r_split n xr yr (tb k2) x y (r_split n xr yr (tb k) x y (t, tb, r_clr n sg (n + 1))) := by
  subst hc
  have m : r_mm t xr yr tb x y = 2 := rg_ct_two hk hk2 h
  have hf : ∀ j, j < t → j ≠ k → j ≠ k2 → r_pCov xr yr tb x y j = false := fun j hj n1 n2 => by
    cases e : r_pCov xr yr tb x y j with
    | false => rfl
    | true => have := (h j hj).mp e; omega
  have hkt : r_pCov xr yr tb x y k = true := (h k (by omega)).mpr (Or.inl rfl)
  have o : r_ovF t xr yr tb x y 0 = tb k := by
    have := ov_at (tb := tb) hkt t (by omega)
    rwa [rg_ct_0 (fun j hj => hf j (by omega) (by omega) (by omega))] at this
  have o2 : r_ovF t xr yr tb x y 1 = tb k2 := by
    have := ov_at (tb := tb) ((h k2 hk2).mpr (Or.inr rfl)) t hk2
    rwa [rg_ct_seg (s := k + 1) k2 (by omega) (fun j a b => hf j (by omega) (by omega) (by omega)), rg_ct_t hkt, rg_ct_0 (fun j hj => hf j (by omega) (by omega) (by omega))] at this
  refine ⟨m, o, o2, ?_⟩
  unfold r_adS r_ad3
  rw [m]
  show r_split n xr yr (r_ovF t xr yr tb x y 1) x y (r_split n xr yr (r_ovF t xr yr tb x y 0) x y (t, tb, r_clr n sg (n + 1))) = _
  rw [o, o2]
theorem clI_eq (h : ti_A n t P L St f) (hT : ti_T t f tb) {a : Nat} (ha : a < n) {g : Nat → Nat → Int32} (i j : Nat) : ∀ b, b ≤ n → r_clI t tb a g b i j = if i = a ∧ j < b ∧ eB L a j = false then 0 else g i j
  | 0, _ => by show g i j = _; rw [if_neg (by omega)]
  | b + 1, hb => by
    have q := fun i j => clI_eq h hT ha (g := g) i j b (by omega)
    have i0 := r_sides_0 h hT ha (b := b) (by omega)
    show (if r_sides t tb (nI a) (nI b) = 0 then r_up (r_clI t tb a g b) a (upd (r_clI t tb a g b a) b 0) else r_clI t tb a g b) i j = _
    by_cases e : eB L a b = false
    · rw [if_pos (i0.mpr e)]
      unfold r_up
      by_cases e1 : i = a
      · subst e1
        rw [if_pos rfl, upd_if]
        by_cases e2 : j = b
        · subst e2
          rw [if_pos rfl, if_pos ⟨rfl, by omega, e⟩]
        · rw [if_neg e2, q i j]
          by_cases w : i = i ∧ j < b ∧ eB L i j = false
          · rw [if_pos w, if_pos ⟨rfl, by omega, w.2.2⟩]
          · rw [if_neg w, if_neg (fun z => w ⟨rfl, by omega, z.2.2⟩)]
      · rw [if_neg e1, q i j, if_neg (fun z => e1 z.1), if_neg (fun z => e1 z.1)]
    · rw [if_neg (fun z => e (i0.mp z)), q i j]
      by_cases w : i = a ∧ j < b ∧ eB L a j = false
      · rw [if_pos w, if_pos ⟨w.1, by omega, w.2.2⟩]
      · rw [if_neg w, if_neg (fun z => by
          by_cases e2 : j = b
          · subst e2; exact e z.2.2
          · exact w ⟨z.1, by omega, z.2.2⟩)]
theorem clO_eq (h : ti_A n t P L St f) (hT : ti_T t f tb) {g : Nat → Nat → Int32} (i j : Nat) : ∀ a, a ≤ n → r_clO t tb n g a i j = if i < a ∧ j < n ∧ eB L i j = false then 0 else g i j
  | 0, _ => by show g i j = _; rw [if_neg (by omega)]
  | a + 1, ha => by
    show r_clI t tb a (r_clO t tb n g a) n i j = _
    rw [clI_eq h hT (by omega) i j n (Nat.le_refl n), clO_eq h hT i j a (by omega)]
    by_cases e : i = a
    · subst e
      by_cases w : j < n ∧ eB L i j = false
      · rw [if_pos ⟨rfl, w⟩, if_pos ⟨by omega, w⟩]
      · rw [if_neg (fun z => w z.2), if_neg (by omega), if_neg (fun z => w z.2)]
    · rw [if_neg (fun z => e z.1)]
      by_cases w : i < a ∧ j < n ∧ eB L i j = false
      · rw [if_pos w, if_pos ⟨by omega, w.2⟩]
      · rw [if_neg w, if_neg (fun z => w ⟨by omega, z.2⟩)]
/-- the edges that stay, behind all -/
theorem adSg_eq {t' : Nat} {f' : Nat → Nat} {Stm : Nat → Nat → Bool} (h' : ti_A (n + 1) t' P L' St' f') (e1 : (r_adS n t xr yr tb sg x y).1 = t') (hT : ti_T t' f' (r_adS n t xr yr tb sg x y).2.1) (hG : ti_G Stm (r_adS n t xr yr tb sg x y).2.2) (hS : ∀ i j, (i < n + 1 ∧ j < n + 1 → eB L' i j = true) → Stm i j = St' i j) : ti_G St' (r_adSg n t xr yr tb sg x y) := by
  intro i j hi hj
  unfold r_adSg
  rw [e1, clO_eq h' hT i j (n + 1) (Nat.le_refl _)]
  by_cases w : i < n + 1 ∧ j < n + 1 ∧ eB L' i j = false
  · rw [if_pos w]
    cases e : St' i j with
    | false => rfl
    | true =>
      have := eB_E.mpr (h'.ed i j e)
      rw [w.2.2] at this; cases this
  · rw [if_neg w, hG i j hi hj, hS i j (fun q => by
      cases e : eB L' i j with
      | true => rfl
      | false => exact absurd ⟨q.1, q.2, e⟩ w)]
end I

