/-! what is told of cairns, triangles, edges, places -/
theorem rg_ct_congr {p q : Nat → Bool} : ∀ {k : Nat}, (∀ j, j < k → p j = q j) → rg_ct p k = rg_ct q k
  | 0, _ => rfl
  | k + 1, h => by
    have h1 := rg_ct_congr (k := k) (fun j hj => h j (by omega))
    simp only [rg_ct, h1, h k (by omega)]
theorem rg_sum_congr {p q : Nat → Nat} : ∀ {k : Nat}, (∀ j, j < k → p j = q j) → rg_sum p k = rg_sum q k
  | 0, _ => rfl
  | k + 1, h => by
    have h1 := rg_sum_congr (k := k) (fun j hj => h j (by omega))
    simp only [rg_sum, h1, h k (by omega)]
theorem rg_any_congr {p q : Nat → Bool} : ∀ {k : Nat}, (∀ j, j < k → p j = q j) → rg_any p k = rg_any q k
  | 0, _ => rfl
  | k + 1, h => by
    have h1 := rg_any_congr (k := k) (fun j hj => h j (by omega))
    simp only [rg_any, h1, h k (by omega)]
theorem rg_fst_congr {p q : Nat → Bool} : ∀ {k : Nat}, (∀ j, j < k → p j = q j) → rg_fst p k = rg_fst q k
  | 0, _ => rfl
  | k + 1, h => by
    have h1 := rg_fst_congr (k := k) (fun j hj => h j (by omega))
    simp only [rg_fst, h1, h k (by omega)]
theorem rg_near_congr {p q : Nat → Int32} : ∀ {k : Nat}, (∀ j, j < k → p j = q j) → rg_near p k = rg_near q k
  | 0, _ => rfl
  | k + 1, h => by
    have h1 := rg_near_congr (k := k) (fun j hj => h j (by omega))
    by_cases e : k = 0
    · simp only [rg_near, if_pos e]
    · have b := rg_near_bd q k
      simp only [rg_near, if_neg e]
      rw [h1, h k (by omega), h (rg_near q k) (by omega)]
theorem rg_ct_del {q : Nat → Bool} {k : Nat} (hq : q k = true) : ∀ t, k < t → rg_ct q t = rg_ct (fun x => if x = k then false else q x) t + 1
  | 0, h => absurd h (Nat.not_lt_zero _)
  | t + 1, h => by
    rcases Nat.lt_or_ge k t with z | z
    · have i := rg_ct_del hq t z
      simp only [rg_ct, if_neg (show ¬ t = k by omega)]
      omega
    · have : t = k := by omega
      subst this
      have i : rg_ct q t = rg_ct (fun x => if x = t then false else q x) t := rg_ct_congr (fun j hj => by rw [if_neg (by omega)])
      simp only [rg_ct, if_pos hq]
      simp [i]
theorem rg_ct_inj {R : Nat → Nat → Prop} (hR : ∀ j j' k, R j k → R j' k → j = j') : ∀ (m : Nat) {p q : Nat → Bool} {t : Nat}, (∀ j, j < m → p j = true → ∃ k, k < t ∧ q k = true ∧ R j k) → rg_ct p m ≤ rg_ct q t
  | 0, p, q, t, _ => Nat.zero_le _
  | m + 1, p, q, t, h => by
    cases e : p m with
    | false =>
      rw [rg_ct_f e]
      exact rg_ct_inj hR m (fun j hj => h j (by omega))
    | true =>
      obtain ⟨k, hk, hq, r⟩ := h m (by omega) e
      rw [rg_ct_t e, rg_ct_del hq t hk]
      refine Nat.succ_le_succ (rg_ct_inj hR m (fun j hj hp => ?_))
      obtain ⟨k', hk', hq', r'⟩ := h j (by omega) hp
      refine ⟨k', hk', ?_, r'⟩
      show (if k' = k then false else q k') = true
      rw [if_neg (fun z => by subst z; have := hR _ _ _ r r'; omega)]
      exact hq'
section Q
variable {n t : Nat} {P : Nat → g_P} {L : Nat → Nat → Option Nat} {St : Nat → Nat → Bool} {f : Nat → Nat} {xs ys lf sy co : Nat → Int32} {xr yr tb : Nat → Int32} {sg : Nat → Nat → Int32}
theorem bI_0 (b : Bool) : bI b = 0 ↔ b = false := by cases b <;> decide
theorem eT_eq (h : ti_A n t P L St f) (hm : ti_m n t P L St f xs ys lf sy co) (hr : ti_r n t P St f xr yr tb sg) {a b w : Nat} (ha : a < n) (hb : b < n) (hw : w < 5) : m_isEdgeThat n xs ys lf sy (nI w) (nI a) (nI b) = r_eT t xr yr tb sg (nI a) (nI b) (nI w) := by
  obtain ⟨hX, hL, hS, hC⟩ := hm
  obtain ⟨hX', hT, hG⟩ := hr
  have hn := h.n17
  unfold m_isEdgeThat r_eT
  rw [m_edge_eq h hL (by omega) (by omega)]
  have i0 := r_sides_le h hT ha hb
  cases e : eB L a b with
  | false => rw [if_neg (by decide), if_pos (i0.mpr e)]
  | true =>
    have i0' : ¬ r_sides t tb (nI a) (nI b) ≤ 0 := fun q => by rw [i0.mp q] at e; cases e
    rw [if_pos rfl, if_neg i0']
    have hw5 : w = 0 ∨ w = 1 ∨ w = 2 ∨ w = 3 ∨ w = 4 := by omega
    rcases hw5 with rfl | rfl | rfl | rfl | rfl
    · have ri : r_is t xr yr tb sg (nI a) (nI b) (nI 0) = 1 := by unfold r_is; rw [if_pos (by decide), if_neg i0']
      rw [ri, if_neg (by decide), if_neg (by decide), if_neg (by decide), if_neg (by decide), if_pos (by decide), if_neg (by decide)]
    · have i1 := r_sides_1 h hT ha hb
      rw [if_pos (by decide), m_inner_eq h hL (by omega) (by omega)]
      cases e2 : iB L a b with
      | false =>
        have ri : r_is t xr yr tb sg (nI a) (nI b) (nI 1) = 1 := by unfold r_is; rw [if_neg (by decide), if_pos (by decide), if_pos (i1.mpr ⟨e, e2⟩)]
        rw [ri, if_neg (by decide)]; rfl
      | true =>
        have ri : r_is t xr yr tb sg (nI a) (nI b) (nI 1) = 0 := by unfold r_is; rw [if_neg (by decide), if_pos (by decide), if_neg (fun q => by rw [(i1.mp q).2] at e2; cases e2)]
        rw [ri, if_pos rfl]; rfl
    · have ri : r_is t xr yr tb sg (nI a) (nI b) (nI 2) = bI (St a b) := by unfold r_is; rw [if_neg (by decide), if_neg (by decide), if_pos (by decide), nI_clamp (by omega), nI_clamp (by omega), hG a b (by omega) (by omega)]
      rw [ri, if_neg (by decide), if_pos (by decide), m_stay_eq hn hS ha hb]
      cases St a b <;> rfl
    · have ri : r_is t xr yr tb sg (nI a) (nI b) (nI 3) = bI (uB P L a b) := by unfold r_is; rw [if_neg (by decide), if_neg (by decide), if_neg (by decide), if_pos (by decide), r_unfair_eq h hX' hT ha hb]
      rw [ri, if_neg (by decide), if_neg (by decide), if_pos (by decide), m_unfair_eq h hX hL ha hb]
      cases uB P L a b <;> rfl
    · have ri : r_is t xr yr tb sg (nI a) (nI b) (nI 4) = bI (tB P L St a b) := by unfold r_is; rw [if_neg (by decide), if_neg (by decide), if_neg (by decide), if_neg (by decide), r_canFlip_eq h hX' hT hG ha hb]
      rw [ri, if_neg (by decide), if_neg (by decide), if_neg (by decide), if_pos (by decide), m_turnable_eq h hX hL hS ha hb]
      cases tB P L St a b <;> rfl
theorem edges_eq (h : ti_A n t P L St f) (hm : ti_m n t P L St f xs ys lf sy co) (hr : ti_r n t P St f xr yr tb sg) {w : Nat} (hw : w < 5) : m_edgesThat n xs ys lf sy (nI w) = r_edges n t xr yr tb sg (nI w) := by
  unfold m_edgesThat r_edges
  refine congrArg nI ?_
  refine rg_sum_congr (fun a ha => ?_)
  unfold m_rET r_rET
  refine rg_ct_congr (fun b hb => ?_)
  unfold m_pET r_pET
  by_cases q : b ≤ a
  · rw [if_pos q, if_pos q]
  · rw [if_neg q, if_neg q]; exact eT_eq h hm hr ha hb hw
theorem edgesAt_eq (h : ti_A n t P L St f) (hL : ti_L L lf) (hT : ti_T t f tb) {a : Nat} (ha : a < n) : m_edgesAt n lf (nI a) = r_edgesOf n t tb (nI a) := by
  have hn := h.n17
  unfold m_edgesAt r_edgesOf
  refine congrArg nI ?_
  refine rg_ct_congr (fun b hb => ?_)
  unfold m_pEdge r_pE
  rw [m_edge_eq h hL (by omega) (by omega)]
  have i0 := r_sides_le h hT ha hb
  cases e : eB L a b with
  | false => rw [if_pos (i0.mpr e)]
  | true => rw [if_neg (fun q => by rw [i0.mp q] at e; cases e)]
theorem triAt_eq (h : ti_A n t P L St f) (hL : ti_L L lf) (hT : ti_T t f tb) {a : Nat} (ha : a < n) : m_trianglesAt n lf (nI a) = nI (rg_ct (r_pH tb (nI a)) t) := by
  have hn := h.n17
  have ht := ti_t28 h
  have R := h.R hT
  unfold m_trianglesAt
  refine congrArg nI ?_
  have pl : ∀ b, b < n → (m_pLeft lf (nI a) b = true ↔ ∃ c, L a b = some c) := by
    intro b hb
    have i := left_none h hL (a := a) (b := b) (by omega) (by omega)
    unfold m_pLeft
    cases e : L a b with
    | none => rw [if_pos (i.mpr e)]; exact ⟨fun q => absurd q (by decide), fun ⟨c, q⟩ => by cases q⟩
    | some c => rw [if_neg (fun q => by rw [i.mp q] at e; cases e)]; exact ⟨fun _ => ⟨c, rfl⟩, fun _ => rfl⟩
  have ph : ∀ k, k < t → ∀ x y z, L x y = some z → f k = sc x y z → (r_pH tb (nI a) k = true ↔ a = x ∨ a = y ∨ a = z) := by
    intro k hk x y z l s
    obtain ⟨x', y', z', l', s', hh, -⟩ := r_trip R.tri R.hn R.ht R.en R.tbl hk
    have r := tr_S_face R.tri hn l' l (by rw [← s', s])
    refine (hh a (by omega)).trans ?_
    unfold tr_rot at r
    omega
  refine Nat.le_antisymm ?_ ?_
  · refine rg_ct_inj (R := fun b k => ∃ c, L a b = some c ∧ f k = sc a b c) (fun b b' k ⟨c, l, s⟩ ⟨c', l', s'⟩ => ?_) n (fun b hb hp => ?_)
    · have r := tr_S_face R.tri hn l l' (by rw [← s, s'])
      obtain ⟨m1, m2, m3⟩ := tr_ne (R.tri _ _ _ l).2.2.2.1
      unfold tr_rot at r
      omega
    · obtain ⟨c, l⟩ := (pl b hb).mp hp
      obtain ⟨k, hk, s⟩ := R.face l
      exact ⟨k, hk, (ph k hk _ _ _ l s).mpr (Or.inl rfl), c, l, s⟩
  · refine rg_ct_inj (R := fun k b => k < t ∧ ∃ c, L a b = some c ∧ f k = sc a b c) (fun k k' b ⟨hk, c, l, s⟩ ⟨hk', c', l', s'⟩ => ?_) t (fun k hk hp => ?_)
    · have : c = c' := by rw [l] at l'; exact Option.some.inj l'
      subst this
      exact R.en.inj hk hk' (by rw [s, s'])
    · obtain ⟨x, y, z, l, s⟩ := R.en.2.1 k hk
      have l1 := R.tri.rot l
      have l2 := R.tri.rot2 l
      obtain ⟨g1, g2, g3⟩ := h.lt l
      rcases (ph k hk _ _ _ l s).mp hp with rfl | rfl | rfl
      · exact ⟨y, g2, (pl _ g2).mpr ⟨_, l⟩, hk, z, l, s⟩
      · exact ⟨z, g3, (pl _ g3).mpr ⟨_, l1⟩, hk, x, l1, s.trans (sc_rot _ _ _).symm⟩
      · exact ⟨x, g1, (pl _ g1).mpr ⟨_, l2⟩, hk, y, l2, s.trans (sc_rot _ _ _)⟩
theorem X_eq (hX : ti_X n P xs ys) (hX' : ti_X n P xr yr) {a : Nat} (ha : a < n) : xs a = xr a ∧ ys a = yr a := ⟨by rw [(hX a ha).1, (hX' a ha).1], by rw [(hX a ha).2, (hX' a ha).2]⟩
theorem cFact_eq (h : ti_A n t P L St f) (hm : ti_m n t P L St f xs ys lf sy co) (hr : ti_r n t P St f xr yr tb sg) {hs hr' : Nat → Int32} (hn : n ≤ 16) (hh : ∀ i, i < n → hs i = hr' i) {a w : Nat} (ha : a < n) (hw : w < 5) : x_cFact n xs ys lf hs (nI a) (nI w) = r_cairnTold n t xr yr hr' tb (nI a) (nI w) := by
  obtain ⟨hX, hL, hS, hC⟩ := hm
  obtain ⟨hX', hT, hG⟩ := hr
  obtain ⟨e1, e2⟩ := X_eq hX hX' ha
  unfold x_cFact r_cairnTold
  have hw5 : w = 0 ∨ w = 1 ∨ w = 2 ∨ w = 3 ∨ w = 4 := by omega
  rcases hw5 with rfl | rfl | rfl | rfl | rfl
  · rw [if_pos (by decide), if_neg (by decide), if_pos (by decide), m_xOf_nI (by omega), nI_clamp (by omega), e1]
  · rw [if_neg (by decide), if_pos (by decide), if_neg (by decide), if_neg (by decide), if_pos (by decide), m_xOf_nI (by omega), nI_clamp (by omega), e2]
  · rw [if_neg (by decide), if_neg (by decide), if_pos (by decide), if_neg (by decide), if_neg (by decide), if_neg (by decide), if_pos (by decide), nI_clamp (by omega)]
    have h16 : ¬ (16 : Int32) ≤ nI a := fun q => absurd ((nI_leI (a := 16) (by decide) (by omega)).mp q) (by omega)
    unfold x_hOf
    rw [if_neg (nI_pos (by omega)), if_neg h16, nI_clamp (by omega), hh a ha]
  · rw [if_neg (by decide), if_neg (by decide), if_neg (by decide), if_pos (by decide), if_neg (by decide), if_neg (by decide), if_neg (by decide), if_neg (by decide)]
    exact edgesAt_eq h hL hT ha
  · rw [if_neg (by decide), if_neg (by decide), if_neg (by decide), if_neg (by decide), if_pos (by decide)]
    exact triAt_eq h hL hT ha
theorem tFact_eq (h : ti_A n t P L St f) (hm : ti_m n t P L St f xs ys lf sy co) (hr : ti_r n t P St f xr yr tb sg) {k w : Nat} (hk : k < t) (hw : w < 4) : x_tFact xs ys co (nI k) (nI w) = r_triangleTold xr yr tb (nI k) (nI w) := by
  obtain ⟨hX, hL, hS, hC⟩ := hm
  obtain ⟨hX', hT, hG⟩ := hr
  obtain ⟨c0, c1, c2⟩ := m_corner_eq hC (ti_t28 h) hk
  obtain ⟨d0, d1, d2⟩ := r_corner_eq h hT hk
  unfold x_tFact r_triangleTold
  have hw5 : w = 0 ∨ w = 1 ∨ w = 2 ∨ w = 3 := by omega
  rcases hw5 with rfl | rfl | rfl | rfl
  · rw [if_neg (by decide), if_neg (by decide), show nI 0 = 0 from rfl, c0, d0]
  · rw [if_neg (by decide), if_neg (by decide), show nI 1 = 1 from rfl, c1, d1]
  · rw [if_neg (by decide), if_neg (by decide), show nI 2 = 2 from rfl, c2, d2]
  · rw [if_pos (by decide), if_pos (by decide), m_areaOf_eq h hX hC hk, r_areaOf_eq h hX' hT hk]
theorem cnt_eq (h : ti_A n t P L St f) (hm : ti_m n t P L St f xs ys lf sy co) (hr : ti_r n t P St f xr yr tb sg) {fl : Int32} {w : Nat} (hw : w < 7) : x_cntOf n t xs ys lf sy fl (nI w) = r_counted n t xr yr tb sg fl (nI w) := by
  unfold x_cntOf r_counted
  have hw5 : w = 0 ∨ w = 1 ∨ w = 2 ∨ w = 3 ∨ w = 4 ∨ w = 5 ∨ w = 6 := by omega
  rcases hw5 with rfl | rfl | rfl | rfl | rfl | rfl | rfl
  · rw [if_pos (by decide), if_pos (by decide)]
  · rw [if_neg (by decide), if_pos (by decide), if_neg (by decide), if_pos (by decide)]
  · rw [if_neg (by decide), if_neg (by decide), if_pos (by decide), if_neg (by decide), if_neg (by decide), if_neg (by decide)]
    exact edges_eq h hm hr (w := 0) (by decide)
  · rw [if_neg (by decide), if_neg (by decide), if_neg (by decide), if_pos (by decide), if_neg (by decide), if_neg (by decide), if_neg (by decide)]
    exact edges_eq h hm hr (w := 1) (by decide)
  · rw [if_neg (by decide), if_neg (by decide), if_neg (by decide), if_neg (by decide), if_pos (by decide), if_neg (by decide), if_neg (by decide), if_neg (by decide)]
    exact edges_eq h hm hr (w := 2) (by decide)
  · rw [if_neg (by decide), if_neg (by decide), if_neg (by decide), if_neg (by decide), if_neg (by decide), if_pos (by decide), if_neg (by decide), if_neg (by decide), if_neg (by decide)]
    exact edges_eq h hm hr (w := 3) (by decide)
  · rw [if_neg (by decide), if_neg (by decide), if_neg (by decide), if_neg (by decide), if_neg (by decide), if_neg (by decide), if_neg (by decide), if_neg (by decide), if_pos (by decide)]
end Q

