/-! a new cairn, in the reference: the three cases -/
section I
variable {n t : Nat} {P : Nat → g_P} {L L' : Nat → Nat → Option Nat} {St St' : Nat → Nat → Bool} {f : Nat → Nat} {xr yr tb : Nat → Int32} {sg : Nat → Nat → Int32} {p : g_P}
theorem okSp_of {S : Nat → Prop} {t' : Nat} {st : r_S3} (h : ti_sp S St t' st) {z : Nat} (hz : S z) (hd : z / 32 / 32 < 17 ∧ z / 32 % 32 < 17 ∧ z % 32 < 17) (ht : t' + 2 ≤ 36) : r_okSp (nI z) st := by
  obtain ⟨h1, ⟨f', h2, h3⟩, h4, h5⟩ := h
  obtain ⟨i, hi, e⟩ := h2.2.2 z hz
  obtain ⟨q0, q1, q2⟩ := cf_nI (h5 z hz)
  refine ⟨by omega, by omega, ⟨i, by omega, by rw [h3 i hi, e]⟩, fun k hk => ?_⟩
  have : k = 0 ∨ k = 1 ∨ k = 2 := by omega
  rcases this with rfl | rfl | rfl
  · rw [q0]; exact vp_in_nI hd.1 (by decide)
  · rw [q1]; exact vp_in_nI hd.2.1 (by decide)
  · rw [q2]; exact vp_in_nI hd.2.2 (by decide)
theorem sc_dig {a b c : Nat} (ha : a < 17) (hb : b < 17) (hc : c < 17) : sc a b c / 32 / 32 < 17 ∧ sc a b c / 32 % 32 < 17 ∧ sc a b c % 32 < 17 := by
  obtain ⟨d0, d1, d2⟩ := sc_d (a := a) (b := b) (c := c) (by omega) (by omega) (by omega)
  rw [d0, d1, d2]; omega
theorem sp_0 (h : ti_A n t P L St f) (hn : n ≤ 16) (hT : ti_T t f tb) (hG : ti_G St sg) : ti_sp (tr_S L) St t (t, tb, r_clr n sg (n + 1)) := ⟨rfl, ⟨f, h.en, hT⟩, clr_eq h hn hG (n + 1) (Nat.le_refl _), fun z hz => tr_S_lt h.ok.tri h.n17 hz⟩
theorem no_new (h : ti_A n t P L St f) (hn : n ≤ 16) {x y : Nat} (hx : x < n) (hy : y < n) : ¬ tr_S L (sc x y n) := by
  rintro ⟨a, b, c, e, s⟩
  obtain ⟨h1, h2, h3⟩ := h.lt e
  rcases sc_inj (by omega) (by omega) (by omega) (by omega) (by omega) (by omega) s with q | q | q | q | q | q <;> omega
theorem at_k (h : ti_A n t P L St f) {z : Nat} (hz : tr_S L z) : ∃ k, k < t ∧ f k = z := h.en.2.2 z hz
/-- inside a triangle -/
theorem ref_3 (h : ti_A n t P L St f) (hn : n ≤ 16) (hX : ti_X n P xr yr) (hT : ti_T t f tb) (hG : ti_G St sg) (hp : tr_sq p) {a b c : Nat} (hab : a < b) (hbc : b < c) (hc : c < n) (hz : tr_S L (sc a b c)) (z1 : gO (P a) (P b) p ≠ 0) (z2 : gO (P b) (P c) p ≠ 0) (z3 : gO (P c) (P a) p ≠ 0) (hcov : ∀ j, j < t → (r_pCov xr yr tb (iN p.1) (iN p.2) j = true ↔ f j = sc a b c)) : r_okAd n t xr yr tb sg (iN p.1) (iN p.2) ∧ ti_sp (fun z => (((tr_S L z ∧ z ≠ sc a b c) ∨ z = sc a b n) ∨ z = sc b c n) ∨ z = sc c a n) St (t + 2) (r_adS n t xr yr tb sg (iN p.1) (iN p.2)) := by
  have ht := h.t2
  obtain ⟨k, hk, ek⟩ := at_k h hz
  obtain ⟨m, o, e⟩ := adS_1 (n := n) (sg := sg) (x := iN p.1) (y := iN p.2) (cov := r_pCov xr yr tb (iN p.1) (iN p.2)) rfl hk (fun j hj => (hcov j hj).trans ⟨fun q => h.en.inj hj hk (by rw [q, ek]), fun q => by rw [q, ek]⟩)
  rw [hT k hk, ek] at o e
  have s0 := sp_0 h hn hT hG
  obtain ⟨u, rfl⟩ : ∃ u, t = u + 1 := ⟨t - 1, by omega⟩
  have r := split_3 hX hn h.sq hp s0 hab hbc hc hz z1 z2 z3 (fun x y hx hy => no_new h hn hx hy)
  rw [← e] at r
  refine ⟨⟨by omega, fun j hj => ?_, by rw [r.1]; omega⟩, r⟩
  have : j = 0 := by omega
  subst this
  rw [o]
  exact okSp_of s0 hz (sc_dig (by omega) (by omega) (by omega)) (by omega)
/-- on an edge at the border -/
theorem ref_1 (h : ti_A n t P L St f) (hn : n ≤ 16) (hX : ti_X n P xr yr) (hT : ti_T t f tb) (hG : ti_G St sg) (hp : tr_sq p) {a b c : Nat} (nab : a ≠ b) (nbc : b ≠ c) (nca : c ≠ a) (ha : a < n) (hb : b < n) (hc : c < n) (hz : tr_S L (sc a b c)) (z1 : gO (P a) (P b) p = 0) (z2 : gO (P b) (P c) p ≠ 0) (z3 : gO (P c) (P a) p ≠ 0) (hcov : ∀ j, j < t → (r_pCov xr yr tb (iN p.1) (iN p.2) j = true ↔ f j = sc a b c)) : r_okAd n t xr yr tb sg (iN p.1) (iN p.2) ∧ ti_sp (fun z => ((tr_S L z ∧ z ≠ sc a b c) ∨ z = sc a c n) ∨ z = sc b c n) (midSt St n a b) (t + 1) (r_adS n t xr yr tb sg (iN p.1) (iN p.2)) := by
  have ht := h.t2
  obtain ⟨k, hk, ek⟩ := at_k h hz
  obtain ⟨m, o, e⟩ := adS_1 (n := n) (sg := sg) (x := iN p.1) (y := iN p.2) (cov := r_pCov xr yr tb (iN p.1) (iN p.2)) rfl hk (fun j hj => (hcov j hj).trans ⟨fun q => h.en.inj hj hk (by rw [q, ek]), fun q => by rw [q, ek]⟩)
  rw [hT k hk, ek] at o e
  have s0 := sp_0 h hn hT hG
  obtain ⟨u, rfl⟩ : ∃ u, t = u + 1 := ⟨t - 1, by omega⟩
  have r := split_2 hX hn h.sq hp h.sym s0 nab nbc nca ha hb hc hz z1 z2 z3 (no_new h hn ha hc) (no_new h hn hb hc)
  rw [← e] at r
  refine ⟨⟨by omega, fun j hj => ?_, by rw [r.1]; omega⟩, r⟩
  have : j = 0 := by omega
  subst this
  rw [o]
  exact okSp_of s0 hz (sc_dig (by omega) (by omega) (by omega)) (by omega)
theorem mid_sym {a b : Nat} (hsym : ∀ i j, St i j = St j i) : ∀ i j, midSt St n a b i j = midSt St n a b j i := by
  intro i j
  have s := hsym i j
  unfold midSt
  by_cases hab : St a b = true
  · rw [if_pos hab]
    unfold st_set
    by_cases w1 : (i = b ∧ j = n) ∨ (i = n ∧ j = b)
    · rw [if_pos w1, if_pos (by omega)]
    · rw [if_neg w1, if_neg (show ¬ ((j = b ∧ i = n) ∨ (j = n ∧ i = b)) by omega)]
      by_cases w2 : (i = a ∧ j = n) ∨ (i = n ∧ j = a)
      · rw [if_pos w2, if_pos (by omega)]
      · rw [if_neg w2, if_neg (show ¬ ((j = a ∧ i = n) ∨ (j = n ∧ i = a)) by omega)]; exact s
  · rw [if_neg hab]; exact s
theorem mid_mid {a b : Nat} (ha : a < n) (hb : b < n) (i j : Nat) : midSt (midSt St n a b) n a b i j = midSt St n a b i j := by
  have e : midSt St n a b a b = St a b := by
    unfold midSt
    split
    · unfold st_set
      rw [if_neg (by omega), if_neg (by omega)]
    · rfl
  by_cases hab : St a b = true
  · have e2 : midSt St n a b = st_set (st_set St a n true) b n true := by unfold midSt; rw [if_pos hab]
    have e3 : midSt (midSt St n a b) n a b = st_set (st_set (midSt St n a b) a n true) b n true := by
      show (if midSt St n a b a b = true then _ else _) = _
      rw [if_pos (by rw [e]; exact hab)]
    rw [e3, e2]
    unfold st_set
    by_cases w1 : (i = b ∧ j = n) ∨ (i = n ∧ j = b)
    · rw [if_pos w1, if_pos w1]
    · rw [if_neg w1, if_neg w1]
      by_cases w2 : (i = a ∧ j = n) ∨ (i = n ∧ j = a)
      · rw [if_pos w2, if_pos w2]
      · rw [if_neg w2, if_neg w2]
  · have e4 : midSt (midSt St n a b) n a b = midSt St n a b := if_neg (by rw [e]; exact hab)
    rw [e4]
/-- on an edge between two triangles -/
theorem ref_2 (h : ti_A n t P L St f) (hn : n ≤ 16) (hX : ti_X n P xr yr) (hT : ti_T t f tb) (hG : ti_G St sg) (hp : tr_sq p) {a b c d : Nat} (nab : a ≠ b) (nbc : b ≠ c) (nca : c ≠ a) (nbd : b ≠ d) (nda : d ≠ a) (ncd : c ≠ d) (ha : a < n) (hb : b < n) (hc : c < n) (hd : d < n) (hz : tr_S L (sc a b c)) (hz2 : tr_S L (sc a b d)) (z1 : gO (P a) (P b) p = 0) (z2 : gO (P b) (P c) p ≠ 0) (z3 : gO (P c) (P a) p ≠ 0) (z4 : gO (P b) (P d) p ≠ 0) (z5 : gO (P d) (P a) p ≠ 0) (hcov : ∀ j, j < t → (r_pCov xr yr tb (iN p.1) (iN p.2) j = true ↔ f j = sc a b c ∨ f j = sc a b d)) : r_okAd n t xr yr tb sg (iN p.1) (iN p.2) ∧ ti_sp (fun z => (((((tr_S L z ∧ z ≠ sc a b c) ∧ z ≠ sc a b d) ∨ z = sc a c n) ∨ z = sc b c n) ∨ z = sc a d n) ∨ z = sc b d n) (midSt St n a b) (t + 2) (r_adS n t xr yr tb sg (iN p.1) (iN p.2)) := by
  have ht := h.t2
  have main : ∀ c d : Nat, b ≠ c → c ≠ a → b ≠ d → d ≠ a → c ≠ d → c < n → d < n → tr_S L (sc a b c) → tr_S L (sc a b d) → gO (P b) (P c) p ≠ 0 → gO (P c) (P a) p ≠ 0 → gO (P b) (P d) p ≠ 0 → gO (P d) (P a) p ≠ 0 → (∀ j, j < t → (r_pCov xr yr tb (iN p.1) (iN p.2) j = true ↔ f j = sc a b c ∨ f j = sc a b d)) → ∀ k k2, k < k2 → k2 < t → f k = sc a b c → f k2 = sc a b d → r_okAd n t xr yr tb sg (iN p.1) (iN p.2) ∧ ti_sp (fun z => (((((tr_S L z ∧ z ≠ sc a b c) ∧ z ≠ sc a b d) ∨ z = sc a c n) ∨ z = sc b c n) ∨ z = sc a d n) ∨ z = sc b d n) (midSt St n a b) (t + 2) (r_adS n t xr yr tb sg (iN p.1) (iN p.2)) := by
    intro c d nbc nca nbd nda ncd hc hd hz hz2 z2 z3 z4 z5 hcov k k2 hk hk2 ek ek2
    obtain ⟨m, o, o2, e⟩ := adS_2 (n := n) (sg := sg) (x := iN p.1) (y := iN p.2) (cov := r_pCov xr yr tb (iN p.1) (iN p.2)) rfl hk hk2 (fun j hj => (hcov j hj).trans ⟨fun q => by
      rcases q with q | q
      · exact Or.inl (h.en.inj hj (by omega) (by rw [q, ek]))
      · exact Or.inr (h.en.inj hj hk2 (by rw [q, ek2])), fun q => by
      rcases q with q | q
      · rw [q]; exact Or.inl ek
      · rw [q]; exact Or.inr ek2⟩)
    rw [hT k (by omega), ek] at o e
    rw [hT k2 hk2, ek2] at o2 e
    have s0 := sp_0 h hn hT hG
    have ne : ∀ x y z w, x < n → y < n → z < n → w < n → x ≠ y → z ≠ w → ¬ isP x y z w → sc z w n ≠ sc x y n := fun x y z w h1 h2 h3 h4 h5 h6 h7 q => by
      have := sc_inj (by omega) (by omega) (by omega) (by omega) (by omega) (by omega) q
      unfold isP at h7
      omega
    have zne : sc a b d ≠ sc a b c := fun q => by
      have := sc_inj (by omega) (by omega) (by omega) (by omega) (by omega) (by omega) q
      omega
    have zn : ∀ x y : Nat, x < n → y < n → ∀ z, tr_S L z → z ≠ sc x y n := fun x y hx hy z hz q => no_new h hn hx hy (by rw [← q]; exact hz)
    obtain ⟨u, rfl⟩ : ∃ u, t = u + 1 := ⟨t - 1, by omega⟩
    have r := split_2 hX hn h.sq hp h.sym s0 nab nbc nca ha hb hc hz z1 z2 z3 (no_new h hn ha hc) (no_new h hn hb hc)
    have r2 := split_2 hX hn h.sq hp (mid_sym h.sym) (u := u + 1) r nab nbd nda ha hb hd (Or.inl (Or.inl ⟨hz2, zne⟩)) z1 z4 z5 (by
      rintro ((q | q) | q)
      · exact no_new h hn ha hd q.1
      · exact ne a c a d ha hc ha hd (by omega) (by omega) (by unfold isP; omega) q
      · exact ne b c a d hb hc ha hd (by omega) (by omega) (by unfold isP; omega) q) (by
      rintro ((q | q) | q)
      · exact no_new h hn hb hd q.1
      · exact ne a c b d ha hc hb hd (by omega) (by omega) (by unfold isP; omega) q
      · exact ne b c b d hb hc hb hd (by omega) (by omega) (by unfold isP; omega) q)
    rw [← e] at r2
    have r3 : ti_sp (fun z => (((((tr_S L z ∧ z ≠ sc a b c) ∧ z ≠ sc a b d) ∨ z = sc a c n) ∨ z = sc b c n) ∨ z = sc a d n) ∨ z = sc b d n) (midSt St n a b) (u + 1 + 2) (r_adS n (u + 1) xr yr tb sg (iN p.1) (iN p.2)) := by
      refine r2.congr (fun z => ?_) (fun i j _ _ => mid_mid ha hb i j)
      have y1 : sc a c n ≠ sc a b d := fun q => zn a c ha hc _ hz2 q.symm
      have y2 : sc b c n ≠ sc a b d := fun q => zn b c hb hc _ hz2 q.symm
      constructor
      · rintro ((((⟨⟨q, q1⟩, q2⟩ | q) | q) | q) | q)
        · exact Or.inl (Or.inl ⟨Or.inl (Or.inl ⟨q, q1⟩), q2⟩)
        · exact Or.inl (Or.inl ⟨Or.inl (Or.inr q), by rw [q]; exact y1⟩)
        · exact Or.inl (Or.inl ⟨Or.inr q, by rw [q]; exact y2⟩)
        · exact Or.inl (Or.inr q)
        · exact Or.inr q
      · rintro ((⟨(⟨q, q1⟩ | q) | q, q2⟩ | q) | q)
        · exact Or.inl (Or.inl (Or.inl (Or.inl ⟨⟨q, q1⟩, q2⟩)))
        · exact Or.inl (Or.inl (Or.inl (Or.inr q)))
        · exact Or.inl (Or.inl (Or.inr q))
        · exact Or.inl (Or.inr q)
        · exact Or.inr q
    refine ⟨⟨by omega, fun j hj => ?_, by rw [r3.1]; omega⟩, r3⟩
    have : j = 0 ∨ j = 1 := by omega
    rcases this with rfl | rfl
    · rw [o]
      exact okSp_of s0 hz (sc_dig (by omega) (by omega) (by omega)) (by omega)
    · rw [o2]
      have e3 : r_ad3 n (u + 1) xr yr tb sg (iN p.1) (iN p.2) 1 = r_split n xr yr (nI (sc a b c)) (iN p.1) (iN p.2) (u + 1, tb, r_clr n sg (n + 1)) := by
        show r_split n xr yr (r_ovF (u + 1) xr yr tb (iN p.1) (iN p.2) 0) (iN p.1) (iN p.2) (u + 1, tb, r_clr n sg (n + 1)) = _
        rw [o]
      rw [e3]
      exact okSp_of (t' := u + 2) r (Or.inl (Or.inl ⟨hz2, zne⟩)) (sc_dig (by omega) (by omega) (by omega)) (by omega)
  obtain ⟨k, hk, ek⟩ := at_k h hz
  obtain ⟨k2, hk2, ek2⟩ := at_k h hz2
  rcases Nat.lt_or_ge k k2 with w | w
  · exact main c d nbc nca nbd nda ncd hc hd hz hz2 z2 z3 z4 z5 hcov k k2 w hk2 ek ek2
  · have hne : k ≠ k2 := fun q => by
      rw [q, ek2] at ek
      have := sc_inj (by omega) (by omega) (by omega) (by omega) (by omega) (by omega) ek
      omega
    obtain ⟨r1, r2⟩ := main d c nbd nda nbc nca (fun q => ncd q.symm) hd hc hz2 hz z4 z5 z2 z3 (fun j hj => (hcov j hj).trans Or.comm) k2 k (by omega) hk ek2 ek
    refine ⟨r1, r2.congr (fun z => ?_) (fun _ _ _ _ => rfl)⟩
    constructor
    · rintro ((((⟨⟨q, q1⟩, q2⟩ | q) | q) | q) | q)
      · exact Or.inl (Or.inl (Or.inl (Or.inl ⟨⟨q, q2⟩, q1⟩)))
      · exact Or.inl (Or.inr q)
      · exact Or.inr q
      · exact Or.inl (Or.inl (Or.inl (Or.inr q)))
      · exact Or.inl (Or.inl (Or.inr q))
    · rintro ((((⟨⟨q, q1⟩, q2⟩ | q) | q) | q) | q)
      · exact Or.inl (Or.inl (Or.inl (Or.inl ⟨⟨q, q2⟩, q1⟩)))
      · exact Or.inl (Or.inr q)
      · exact Or.inr q
      · exact Or.inl (Or.inl (Or.inl (Or.inr q)))
      · exact Or.inl (Or.inl (Or.inr q))
end I
/-! a new cairn, in the class -/
section I
variable {n t : Nat} {P : Nat → g_P} {L L' : Nat → Nat → Option Nat} {St St' : Nat → Nat → Bool} {f : Nat → Nat} {xs ys lf sy co : Nat → Int32} {xr yr tb : Nat → Int32} {sg : Nat → Nat → Int32}
theorem cutT_l (hn : n ≤ 16) (hX : ti_X (n + 1) P xs ys) (hP : ∀ i, i < n + 1 → tr_sq (P i)) (hL : ti_L L lf) {a b c : Nat} (ha : a < n) (hb : b < n) (hc : c < n) (h : 0 < gO (P a) (P b) (P c)) (h2 : 0 < gO (P b) (P c) (P n)) (h3 : 0 < gO (P c) (P a) (P n)) : ti_L (in_1 L n a b c) (m_cutT (n + 1) xs ys lf (nI a) (nI b) (nI c) (nI n)) := by
  unfold m_cutT
  rw [if_neg (nI_m19w (by omega))]
  have r1 := gO_rot (P n) (P c) (P a)
  have r2 := gO_rot (P n) (P b) (P c)
  have r3 := gO_swap2 (P n) (P c) (P b)
  exact addT_r hX (by omega) hP (addT_l hX (by omega) hP (remT_l hX (by omega) hP hL (by omega) (by omega) (by omega) h) (a := n) (b := c) (c := a) (by omega) (by omega) (by omega) (by omega)) (a := n) (b := c) (c := b) (by omega) (by omega) (by omega) (by omega)
theorem cutT_r (hn : n ≤ 16) (hX : ti_X (n + 1) P xs ys) (hP : ∀ i, i < n + 1 → tr_sq (P i)) (hL : ti_L L lf) {a b d : Nat} (ha : a < n) (hb : b < n) (hd : d < n) (h : 0 < gO (P b) (P a) (P d)) (h2 : 0 < gO (P a) (P d) (P n)) (h3 : 0 < gO (P d) (P b) (P n)) : ti_L (in_2 L n a b d) (m_cutT (n + 1) xs ys lf (nI a) (nI b) (nI d) (nI n)) := by
  unfold m_cutT
  rw [if_neg (nI_m19w (by omega))]
  have r1 := gO_rot (P n) (P d) (P b)
  have r2 := gO_rot (P n) (P a) (P d)
  have r3 := gO_swap2 (P n) (P d) (P a)
  have r4 := gO_swap (P a) (P b) (P d)
  exact addT_l hX (by omega) hP (addT_r hX (by omega) hP (remT_r hX (by omega) hP hL (a := a) (b := b) (c := d) (by omega) (by omega) (by omega) (by omega)) (a := n) (b := d) (c := a) (by omega) (by omega) (by omega) (by omega)) (a := n) (b := d) (c := b) (by omega) (by omega) (by omega) (by omega)
theorem cutT_0 {a b : Nat} : m_cutT (n + 1) xs ys lf (nI a) (nI b) (-1) (nI n) = lf := by unfold m_cutT; rw [if_pos rfl]
theorem cESy_eq (hn : n ≤ 16) (hS : ti_S St sy) {a b : Nat} (ha : a < n) (hb : b < n) : ti_S (cutSt St n a b) (m_cESy (n + 1) sy (nI a) (nI b) (nI n)) := by
  unfold m_cESy cutSt
  rw [m_stay_eq (by omega) hS (by omega) (by omega)]
  by_cases e : St a b = true
  · rw [if_pos e, if_pos e]
    exact setSt_eq (by omega) (setSt_eq (by omega) (setSt_eq (by omega) hS (a := a) (b := b) (by omega) (by omega) false) (a := a) (b := n) (by omega) (by omega) true) (a := b) (b := n) (by omega) (by omega) true
  · rw [if_neg e, if_neg e]; exact hS
/-- how it is, behind a cut, in the class and in the reference -/
abbrev ti_new (n t : Nat) (P : Nat → g_P) (St' : Nat → Nat → Bool) (lf' : Nat → Int32) (xr yr tb : Nat → Int32) (sg : Nat → Nat → Int32) : Prop := r_okAd n t xr yr tb sg (iN (P n).1) (iN (P n).2) ∧ ∃ t' L' f', t + 1 ≤ t' ∧ ti_A (n + 1) t' P L' St' f' ∧ ti_L L' lf' ∧ (r_adS n t xr yr tb sg (iN (P n).1) (iN (P n).2)).1 = t' ∧ ti_T t' f' (r_adS n t xr yr tb sg (iN (P n).1) (iN (P n).2)).2.1 ∧ ti_G St' (r_adSg n t xr yr tb sg (iN (P n).1) (iN (P n).2))
theorem mid_cut {a b : Nat} (hno : ¬ tr_E L' a b) (ha : a < n) (hb : b < n) (i j : Nat) (h : i < n + 1 ∧ j < n + 1 → eB L' i j = true) : midSt St n a b i j = cutSt St n a b i j := by
  unfold midSt cutSt
  by_cases e : St a b = true
  · rw [if_pos e, if_pos e]
    unfold st_set
    by_cases w1 : (i = b ∧ j = n) ∨ (i = n ∧ j = b)
    · rw [if_pos w1, if_pos w1]
    · rw [if_neg w1, if_neg w1]
      by_cases w2 : (i = a ∧ j = n) ∨ (i = n ∧ j = a)
      · rw [if_pos w2, if_pos w2]
      · rw [if_neg w2, if_neg w2]
        by_cases w3 : (i = a ∧ j = b) ∨ (i = b ∧ j = a)
        · exfalso
          have := eB_E.mp (h (by omega))
          rcases w3 with ⟨rfl, rfl⟩ | ⟨rfl, rfl⟩
          · exact hno this
          · exact hno this.symm
        · rw [if_neg w3]
  · rw [if_neg e, if_neg e]
theorem cut_case (h : ti_A n t P L St f) (hn : n ≤ 16) (hP : tr_Pos (n + 1) P) (hm : ti_X (n + 1) P xs ys) (hL : ti_L L lf) (hX : ti_X n P xr yr) (hT : ti_T t f tb) (hG : ti_G St sg) {a b c : Nat} (hab : a ≠ b) (z : gO (P a) (P b) (P n) = 0) (hf : (L a b = some c ∧ 0 < gO (P b) (P c) (P n) ∧ 0 < gO (P c) (P a) (P n)) ∨ (L b a = some c ∧ 0 < gO (P a) (P c) (P n) ∧ 0 < gO (P c) (P b) (P n))) : ti_new n t P (cutSt St n a b) (m_cELf (n + 1) xs ys lf (nI a) (nI b) (nI n)) xr yr tb sg := by
  have hp : tr_sq (P n) := hP.1 n (by omega)
  have h17 := h.n17
  have ht2 := h.t2
  have hl : ∀ {x y w : Nat}, L x y = some w → x < n ∧ y < n ∧ w < n ∧ 0 < gO (P x) (P y) (P w) := fun e => by
    obtain ⟨h1, h2, h3, h4, -⟩ := h.ok.tri _ _ _ e
    exact ⟨h1, h2, h3, h4⟩
  have zs := gO_swap (P a) (P b) (P n)
  -- the faces on both sides
  have cov : ∀ (x y w : Nat), L x y = some w → gO (P x) (P y) (P n) = 0 → 0 < gO (P y) (P w) (P n) → 0 < gO (P w) (P x) (P n) → ∀ j, j < t → (r_pCov xr yr tb (iN (P n).1) (iN (P n).2) j = true ↔ (f j = sc x y w ∨ ∃ d, L y x = some d ∧ f j = sc x y d)) := by
    intro x y w e z1 z2 z3 j hj
    rw [pCov_eq h hX hT hp hj, cB_face h hj]
    constructor
    · rintro ⟨x', y', w', e', s, q⟩
      rcases tr_two h.ok hp e z1 z2 z3 e' q with r | ⟨d, e2, r⟩
      · exact Or.inl (s.trans (rot_sc r))
      · exact Or.inr ⟨d, e2, s.trans ((rot_sc r).trans (sc_swap _ _ _))⟩
    · rintro (s | ⟨d, e2, s⟩)
      · exact ⟨x, y, w, e, s, by unfold gInW; omega⟩
      · obtain ⟨k1, k2, k3⟩ := g_onEdge (hl e).2.2.2 (hl e2).2.2.2 z1 z2 z3
        exact ⟨y, x, d, e2, s.trans (sc_swap _ _ _).symm, by unfold gInW; omega⟩
  have two : ∀ c d, L a b = some c → L b a = some d → 0 < gO (P b) (P c) (P n) → 0 < gO (P c) (P a) (P n) → ti_new n t P (cutSt St n a b) (m_cELf (n + 1) xs ys lf (nI a) (nI b) (nI n)) xr yr tb sg := by
    intro c d e1 e2 z2 z3
    obtain ⟨ha, hb, hc, g1⟩ := hl e1
    obtain ⟨-, -, hd, g2⟩ := hl e2
    obtain ⟨n1, n2, n3⟩ := tr_ne g1
    obtain ⟨n4, n5, n6⟩ := tr_ne g2
    obtain ⟨k1, k2, k3⟩ := g_onEdge g1 g2 z z2 z3
    have ncd : c ≠ d := by
      rintro rfl
      have := gO_swap (P a) (P b) (P c)
      omega
    have s3 := gO_swap (P d) (P b) (P n)
    have s4 := gO_swap (P a) (P d) (P n)
    have hiff := in_12_iff (n := n) h.ok.tri e1 e2
    have hcov := cov a b c e1 z z2 z3
    obtain ⟨r1, r2, ⟨f', r3, r4⟩, r5, -⟩ := ref_2 h hn hX hT hG hp n1 n2 n3 (fun q => n6 q.symm) (fun q => n5 q.symm) ncd ha hb hc hd ⟨a, b, c, e1, rfl⟩ ⟨b, a, d, e2, (sc_swap _ _ _).symm⟩ z (by omega) (by omega) (by omega) (by omega) (fun j hj => (hcov j hj).trans ⟨fun q => by
      rcases q with q | ⟨d', q, q'⟩
      · exact Or.inl q
      · rw [e2] at q
        cases q
        exact Or.inr q', fun q => by
      rcases q with q | q
      · exact Or.inl q
      · exact Or.inr ⟨d, e2, q⟩⟩)
    have hok := h.ok.cut2 hP e1 e2 z z2 z3 hiff
    obtain ⟨c1, c2⟩ := cutSt_ed (n := n) h.ed h.sym (E_in12 hiff)
    have hA : ti_A (n + 1) (t + 2) P (in_2 (in_1 L n a b c) n a b d) (cutSt St n a b) f' := ⟨hok, by omega, by omega, by omega, r3.congr (fun z => tr_S_in12 h.ok.tri h17 e1 e2 hiff z) (fun _ _ => rfl), c1, c2⟩
    have noE : ¬ tr_E (in_2 (in_1 L n a b c) n a b d) a b := by
      rintro (⟨w, q⟩ | ⟨w, q⟩)
      · rcases (hiff _ _ _).mp q with q | ⟨q, q'⟩
        · unfold tr_rot at q; omega
        · rw [e1] at q; cases q
          exact q' (Or.inl (tr_rot.refl _ _ _))
      · rcases (hiff _ _ _).mp q with q | ⟨q, q'⟩
        · unfold tr_rot at q; omega
        · rw [e2] at q; cases q
          exact q' (Or.inr (tr_rot.refl _ _ _))
    refine ⟨r1, t + 2, _, f', by omega, hA, ?_, r2, r4, adSg_eq hA r2 r4 r5 (fun i j q => mid_cut noE ha hb i j q)⟩
    unfold m_cELf
    rw [m_left_eq hL (by omega) (by omega), m_left_eq hL (by omega) (by omega), e1, e2]
    exact cutT_r hn hm hP.1 (cutT_l hn hm hP.1 hL ha hb hc g1 z2 z3) ha hb hd g2 k2 k3
  rcases hf with ⟨e1, z2, z3⟩ | ⟨e2, z2, z3⟩
  · cases e2 : L b a with
    | some d => exact two c d e1 e2 z2 z3
    | none =>
      obtain ⟨ha, hb, hc, g1⟩ := hl e1
      obtain ⟨n1, n2, n3⟩ := tr_ne g1
      have hiff := in_1_iff (n := n) h.ok.tri e1
      have hcov := cov a b c e1 z z2 z3
      obtain ⟨r1, r2, ⟨f', r3, r4⟩, r5, -⟩ := ref_1 h hn hX hT hG hp n1 n2 n3 ha hb hc ⟨a, b, c, e1, rfl⟩ z (by omega) (by omega) (fun j hj => (hcov j hj).trans ⟨fun q => by
        rcases q with q | ⟨d', q, q'⟩
        · exact q
        · exact absurd q (by rw [e2]; simp), fun q => Or.inl q⟩)
      have hok := h.ok.cut1 hP e1 e2 z z2 z3 hiff
      obtain ⟨c1, c2⟩ := cutSt_ed (n := n) h.ed h.sym (E_in1 hiff)
      have hA : ti_A (n + 1) (t + 1) P (in_1 L n a b c) (cutSt St n a b) f' := ⟨hok, by omega, by omega, by omega, r3.congr (fun z => tr_S_in1 h.ok.tri h17 e1 hiff z) (fun _ _ => rfl), c1, c2⟩
      have noE : ¬ tr_E (in_1 L n a b c) a b := by
        rintro (⟨w, q⟩ | ⟨w, q⟩)
        · rcases (hiff _ _ _).mp q with q | ⟨q, q'⟩
          · unfold tr_rot at q; omega
          · rw [e1] at q; cases q
            exact q' (tr_rot.refl _ _ _)
        · rcases (hiff _ _ _).mp q with q | ⟨q, q'⟩
          · unfold tr_rot at q; omega
          · rw [e2] at q; cases q
      refine ⟨r1, t + 1, _, f', by omega, hA, ?_, r2, r4, adSg_eq hA r2 r4 r5 (fun i j q => mid_cut noE ha hb i j q)⟩
      unfold m_cELf
      rw [m_left_eq hL (by omega) (by omega), m_left_eq hL (by omega) (by omega), e1, e2]
      show ti_L _ (m_cutT (n + 1) xs ys (m_cutT (n + 1) xs ys lf (nI a) (nI b) (nI c) (nI n)) (nI a) (nI b) (-1) (nI n))
      rw [cutT_0]
      exact cutT_l hn hm hP.1 hL ha hb hc g1 z2 z3
  · cases e1 : L a b with
    | some d =>
      obtain ⟨ha, hb, hc, g1⟩ := hl e1
      obtain ⟨-, -, hd, g2⟩ := hl e2
      obtain ⟨k1, k2, k3⟩ := g_onEdge g2 g1 (by omega) z2 z3
      exact two d c e1 e2 k2 k3
    | none =>
      obtain ⟨hb, ha, hc, g1⟩ := hl e2
      obtain ⟨n1, n2, n3⟩ := tr_ne g1
      have hiff := in_2_iff (n := n) h.ok.tri e2
      have hcov := cov b a c e2 (by omega) z2 z3
      obtain ⟨r1, r2, ⟨f', r3, r4⟩, r5, -⟩ := ref_1 h hn hX hT hG hp n1 n2 n3 hb ha hc ⟨b, a, c, e2, rfl⟩ (by omega) (by omega) (by omega) (fun j hj => (hcov j hj).trans ⟨fun q => by
        rcases q with q | ⟨d', q, q'⟩
        · exact q
        · exact absurd q (by rw [e1]; simp), fun q => Or.inl q⟩)
      have hok := h.ok.cut1 hP e2 e1 (by omega) z2 z3 hiff
      obtain ⟨c1, c2⟩ := cutSt_ed (n := n) (a := b) (b := a) h.ed h.sym (E_in1 hiff)
      have cs : ∀ i j, cutSt St n b a i j = cutSt St n a b i j := by
        intro i j
        unfold cutSt
        rw [h.sym b a]
        by_cases e : St a b = true
        · rw [if_pos e, if_pos e]
          unfold st_set
          by_cases w1 : (i = b ∧ j = n) ∨ (i = n ∧ j = b) <;> by_cases w2 : (i = a ∧ j = n) ∨ (i = n ∧ j = a) <;> by_cases w3 : (i = a ∧ j = b) ∨ (i = b ∧ j = a)
          all_goals
            have w3' : ((i = b ∧ j = a) ∨ (i = a ∧ j = b)) = ((i = a ∧ j = b) ∨ (i = b ∧ j = a)) := propext Or.comm
            simp only [w3']
            simp only [w1, w2, w3, if_true, if_false]
        · rw [if_neg e, if_neg e]
      have hA : ti_A (n + 1) (t + 1) P (in_2 L n a b c) (cutSt St n a b) f' := ⟨hok, by omega, by omega, by omega, r3.congr (fun z => tr_S_in1 h.ok.tri h17 e2 hiff z) (fun _ _ => rfl), fun i j q => c1 i j (by rw [cs]; exact q), fun i j => by rw [← cs, ← cs]; exact c2 i j⟩
      have noE : ¬ tr_E (in_2 L n a b c) b a := by
        rintro (⟨w, q⟩ | ⟨w, q⟩)
        · rcases (hiff _ _ _).mp q with q | ⟨q, q'⟩
          · unfold tr_rot at q; omega
          · rw [e2] at q; cases q
            exact q' (tr_rot.refl _ _ _)
        · rcases (hiff _ _ _).mp q with q | ⟨q, q'⟩
          · unfold tr_rot at q; omega
          · rw [e1] at q; cases q
      refine ⟨r1, t + 1, _, f', by omega, hA, ?_, r2, r4, adSg_eq hA r2 r4 r5 (fun i j q => (mid_cut noE hb ha i j q).trans (cs i j))⟩
      unfold m_cELf
      rw [m_left_eq hL (by omega) (by omega), m_left_eq hL (by omega) (by omega), e1, e2]
      show ti_L _ (m_cutT (n + 1) xs ys (m_cutT (n + 1) xs ys lf (nI a) (nI b) (-1) (nI n)) (nI a) (nI b) (nI c) (nI n))
      rw [cutT_0]
      exact cutT_r hn hm hP.1 hL ha hb hc g1 z2 z3
end I

