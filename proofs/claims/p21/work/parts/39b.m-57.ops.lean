/-! every method, in the class and in the reference -/
abbrev ti_Z (n t : Nat) (hs xs ys lf sy co hr xr yr tb : Nat → Int32) (sg : Nat → Nat → Int32) : Prop := ∃ P L St f, ti_A n t P L St f ∧ ti_m n t P L St f xs ys lf sy co ∧ ti_r n t P St f xr yr tb sg ∧ n ≤ 16 ∧ 2 ≤ t ∧ ∀ i, i < n → hs i = hr i
theorem Z_0 : ti_Z 4 2 (fun _ => 0) i_xs i_ys i_lf (fun _ => 0) i_co (fun _ => 0) i_rx i_ry i_rt (fun _ _ => 0) := ⟨P_0, L_0, fun _ _ => false, f_0, A_0, m_0.2, r_0, by decide, by decide, fun _ _ => rfl⟩
theorem isIn_eq {n : Nat} (h1 : 1 ≤ n) (hn : n ≤ 17) (a : Int32) : r_isIn a 0 (nI n - 1) = m_isCairn n a := by
  obtain ⟨m, rfl⟩ : ∃ m, n = m + 1 := ⟨n - 1, by omega⟩
  rw [nI_pred]
  unfold r_isIn m_isCairn
  by_cases h0 : a < 0
  · rw [if_pos h0, if_pos h0]
  · rw [if_neg h0, if_neg h0]
    obtain ⟨j, hj, rfl⟩ := nI_of h0
    by_cases h : j < m + 1
    · have a1 : ¬ nI m < nI j := fun q => by have := (nI_ltI (by omega) (by omega)).mp q; omega
      have a2 : ¬ (17 : Int32) ≤ nI j := (nI_in17 (by omega)).2
      have a3 : ¬ nI (m + 1) ≤ nI j := fun q => by have := (nI_leI (by omega) (by omega)).mp q; omega
      rw [if_neg a1, if_neg a2, if_neg a3]
    · have a1 : nI m < nI j := (nI_ltI (by omega) (by omega)).mpr (by omega)
      have a3 : nI (m + 1) ≤ nI j := (nI_leI (by omega) (by omega)).mpr (by omega)
      rw [if_pos a1]
      split
      · rfl
      · first
        | rfl
        | rw [if_pos a3]
theorem cairn_of {n : Nat} (hn : n ≤ 17) {a : Int32} (h : m_isCairn n a = true) : ∃ j, j < n ∧ a = nI j := by
  unfold m_isCairn at h
  split at h
  · cases h
  · rename_i h0
    obtain ⟨j, hj, rfl⟩ := nI_of h0
    split at h
    · cases h
    · split at h
      · cases h
      · rename_i h2
        refine ⟨j, ?_, rfl⟩
        rcases Nat.lt_or_ge j n with z | z
        · exact z
        · exact absurd ((nI_leI (by omega) hj).mpr z) h2
theorem what_eq (w : Int32) (k : Nat) (hk : k < 100) : x_what w (nI (k + 1)) = r_isIn w 0 (nI k) := by
  unfold x_what r_isIn
  by_cases h0 : w < 0
  · rw [if_pos h0, if_pos h0]
  · rw [if_neg h0, if_neg h0]
    obtain ⟨j, hj, rfl⟩ := nI_of h0
    by_cases h : j < k + 1
    · rw [if_pos ((nI_ltI (by omega) (by omega)).mpr h), if_neg (fun q => by have := (nI_ltI (by omega) (by omega)).mp q; omega)]
    · rw [if_neg (fun q => by have := (nI_ltI (by omega) (by omega)).mp q; omega), if_pos ((nI_ltI (by omega) (by omega)).mpr (by omega))]
theorem what_of {w : Int32} {k : Nat} (hk : k < 100) (h : x_what w (nI k) = true) : ∃ j, j < k ∧ w = nI j := by
  unfold x_what at h
  split at h
  · cases h
  · rename_i h0
    obtain ⟨j, hj, rfl⟩ := nI_of h0
    split at h
    · rename_i h1
      exact ⟨j, (nI_ltI (by omega) (by omega)).mp h1, rfl⟩
    · cases h
theorem hgt_eq (z : Int32) : x_hgt z = r_isIn z 0 99 := by
  unfold x_hgt r_isIn
  by_cases h0 : z < 0
  · rw [if_pos h0, if_pos h0]
  · rw [if_neg h0, if_neg h0]
    by_cases h : z ≤ 99
    · rw [if_pos h, if_neg (fun q => by rw [Int32.lt_iff_toInt_lt] at q; rw [Int32.le_iff_toInt_le] at h; omega)]
    · rw [if_neg h, if_pos (by rw [Int32.lt_iff_toInt_lt]; rw [Int32.le_iff_toInt_le] at h; omega)]
section Z
variable {n t : Nat} {hs xs ys lf sy co hr xr yr tb : Nat → Int32} {sg : Nat → Nat → Int32}
theorem Z_bd (h : ti_Z n t hs xs ys lf sy co hr xr yr tb sg) : 4 ≤ n ∧ n ≤ 16 ∧ t ≤ 28 ∧ 2 ≤ t := by
  obtain ⟨P, L, St, f, h1, h2, h3, h4, h5, h6⟩ := h
  have := h1.n4
  have := h1.t2
  omega
theorem okF_tie {P : Nat → g_P} {L : Nat → Nat → Option Nat} {St : Nat → Nat → Bool} {f : Nat → Nat} (h : ti_A n t P L St f) (hT : ti_T t f tb) {a b : Nat} (ha : a < n) (hb : b < n) : r_okF t tb (nI a) (nI b) := by
  intro hs
  have hn := h.n17
  obtain ⟨c, d, e1, e2⟩ := iB_some ((r_sides_2 h hT ha hb).mp hs)
  have hc := (h.lt e1).2.2
  have hd := (h.lt e2).2.2
  rcases fr2 (h.R hT) ha hb e1 e2 with ⟨q1, q2⟩ | ⟨q1, q2⟩
  · rw [q1, q2]; exact ⟨vp_in_nI (by omega) (by decide), vp_in_nI (by omega) (by decide)⟩
  · rw [q1, q2]; exact ⟨vp_in_nI (by omega) (by decide), vp_in_nI (by omega) (by decide)⟩
theorem Z_okF (h : ti_Z n t hs xs ys lf sy co hr xr yr tb sg) : ∀ a b, a < n → b < n → r_okF t tb (nI a) (nI b) := by
  obtain ⟨P, L, St, f, h1, h2, h3, h4, h5, h6⟩ := h
  exact fun a b ha hb => okF_tie h1 h3.2.1 ha hb
theorem Z_okT (h : ti_Z n t hs xs ys lf sy co hr xr yr tb sg) : r_okT t tb := by
  obtain ⟨P, L, St, f, h1, h2, h3, h4, h5, h6⟩ := h
  intro j hj
  obtain ⟨k1, k2, k3, -, -⟩ := ti_k h1 hj
  obtain ⟨d0, d1, d2⟩ := r_corner_eq h1 h3.2.1 hj
  rw [d0, d1, d2]
  exact ⟨vp_in_nI (by omega) (by decide), vp_in_nI (by omega) (by decide), vp_in_nI (by omega) (by decide)⟩
theorem Z_01 (h : ti_Z n t hs xs ys lf sy co hr xr yr tb sg) : ∀ i j, i < 17 → j < 17 → sg i j = 0 ∨ sg i j = 1 := by
  obtain ⟨P, L, St, f, h1, h2, h3, h4, h5, h6⟩ := h
  intro i j hi hj
  rw [h3.2.2 i j hi hj]
  cases St i j
  · exact Or.inl rfl
  · exact Or.inr rfl
theorem Z_find (h : ti_Z n t hs xs ys lf sy co hr xr yr tb sg) {x y : Int32} (hp : x_place x y = true) : ¬ m_find t xs ys co x y = -1 := by
  have hb := Z_bd h
  obtain ⟨P, L, St, f, h1, h2, h3, h4, h5, h6⟩ := h
  obtain ⟨p, q, rfl, rfl⟩ := x_place_of hp
  obtain ⟨k, hk, e, -⟩ := find_eq h1 h2 h3 q
  rw [e]; exact nI_m19w (by omega)
theorem Z_cov (h : ti_Z n t hs xs ys lf sy co hr xr yr tb sg) {x y : Int32} (hp : r_isPlace x y = true) : ∃ k, k < t ∧ r_pCov xr yr tb x y k = true := by
  obtain ⟨P, L, St, f, h1, h2, h3, h4, h5, h6⟩ := h
  rw [← place_eq] at hp
  obtain ⟨p, q, rfl, rfl⟩ := x_place_of hp
  exact lies_ex h1 h3.1 h3.2.1 q
theorem Z_cairn (h : ti_Z n t hs xs ys lf sy co hr xr yr tb sg) (a : Int32) : r_isIn a 0 (nI n - 1) = m_isCairn n a := by
  have := Z_bd h
  exact isIn_eq (by omega) (by omega) a
/-! those that only tell -/
theorem op_told (h : ti_Z n t hs xs ys lf sy co hr xr yr tb sg) (a w : Int32) : x_k (x_okTd n a w) xIOB xIOB = r_b2 (r_isIn a 0 (nI n - 1)) (r_isIn w 0 4) 0 1 ∧ (x_okTd n a w = true → x_cFact n xs ys lf hs a w = r_b2 (r_isIn a 0 (nI n - 1)) (r_isIn w 0 4) (r_cairnTold n t xr yr hr tb a w) 0) := by
  have hb := Z_bd h
  rw [Z_cairn h, show r_isIn w 0 4 = x_what w 5 from (what_eq w 4 (by decide)).symm]
  unfold x_okTd r_b2 x_k
  cases e1 : m_isCairn n a with
  | false => exact ⟨by simp, fun q => by simp at q⟩
  | true =>
    cases e2 : x_what w 5 with
    | false => exact ⟨by simp, fun q => by simp at q⟩
    | true =>
      refine ⟨by simp, fun _ => ?_⟩
      obtain ⟨P, L, St, f, h1, h2, h3, h4, h5, h6⟩ := h
      obtain ⟨j, hj, rfl⟩ := cairn_of (by omega) e1
      obtain ⟨i, hi, rfl⟩ := what_of (k := 5) (by decide) e2
      rw [if_pos rfl, if_pos rfl]
      exact cFact_eq h1 h2 h3 (by omega) h6 hj hi
theorem op_triangle (h : ti_Z n t hs xs ys lf sy co hr xr yr tb sg) (k w : Int32) : x_k (x_okTr t k w) xIOB xIOB = r_b2 (r_isIn k 0 (nI t - 1)) (r_isIn w 0 3) 0 1 ∧ (x_okTr t k w = true → x_tFact xs ys co k w = r_b2 (r_isIn k 0 (nI t - 1)) (r_isIn w 0 3) (r_triangleTold xr yr tb k w) 0) := by
  have hb := Z_bd h
  have e0 : x_okTr t k w = (if r_isIn k 0 (nI t - 1) = true then x_what w 4 else false) := by
    obtain ⟨m, hm⟩ : ∃ m, t = m + 1 := ⟨t - 1, by omega⟩
    subst hm
    rw [nI_pred]
    unfold x_okTr r_isIn
    by_cases h0 : k < 0
    · simp [h0]
    · obtain ⟨j, hj, rfl⟩ := nI_of h0
      by_cases q : j < m + 1
      · have a1 : nI j < nI (m + 1) := (nI_ltI (by omega) (by omega)).mpr q
        have a2 : ¬ nI m < nI j := fun z => by have := (nI_ltI (by omega) (by omega)).mp z; omega
        simp [h0, a1, a2]
      · have a1 : ¬ nI j < nI (m + 1) := fun z => by have := (nI_ltI (by omega) (by omega)).mp z; omega
        have a2 : nI m < nI j := (nI_ltI (by omega) (by omega)).mpr (by omega)
        simp [h0, a1, a2]
  rw [e0, show r_isIn w 0 3 = x_what w 4 from (what_eq w 3 (by decide)).symm]
  unfold r_b2 x_k
  cases e1 : r_isIn k 0 (nI t - 1) with
  | false => exact ⟨by simp, fun q => by simp at q⟩
  | true =>
    cases e2 : x_what w 4 with
    | false => exact ⟨by simp, fun q => by simp at q⟩
    | true =>
      refine ⟨by simp, fun _ => ?_⟩
      obtain ⟨P, L, St, f, h1, h2, h3, h4, h5, h6⟩ := h
      obtain ⟨j, hj, rfl⟩ := in_isInE (M := 100) (by omega) (by decide) (by omega) e1
      obtain ⟨i, hi, rfl⟩ := what_of (k := 4) (by decide) e2
      rw [if_pos rfl, if_pos rfl]
      exact tFact_eq h1 h2 h3 hj hi
theorem op_edge (h : ti_Z n t hs xs ys lf sy co hr xr yr tb sg) (a b w : Int32) : x_k (x_okEd n a b w) xIOB xIOB = r_b3 (r_isIn a 0 (nI n - 1)) (r_isIn b 0 (nI n - 1)) (r_isIn w 0 4) 0 1 ∧ (x_okEd n a b w = true → x_eFact n xs ys lf sy a b w = r_b3 (r_isIn a 0 (nI n - 1)) (r_isIn b 0 (nI n - 1)) (r_isIn w 0 4) (bI (r_eT t xr yr tb sg a b w)) 0) := by
  have hb := Z_bd h
  rw [Z_cairn h, Z_cairn h, show r_isIn w 0 4 = x_what w 5 from (what_eq w 4 (by decide)).symm]
  unfold x_okEd r_b3 x_k
  cases e1 : m_isCairn n a with
  | false => exact ⟨by simp, fun q => by simp at q⟩
  | true =>
    cases e3 : m_isCairn n b with
    | false => exact ⟨by simp, fun q => by simp at q⟩
    | true =>
      cases e2 : x_what w 5 with
      | false => exact ⟨by simp, fun q => by simp at q⟩
      | true =>
        refine ⟨by simp, fun _ => ?_⟩
        obtain ⟨P, L, St, f, h1, h2, h3, h4, h5, h6⟩ := h
        obtain ⟨j, hj, rfl⟩ := cairn_of (by omega) e1
        obtain ⟨j2, hj2, rfl⟩ := cairn_of (by omega) e3
        obtain ⟨i, hi, rfl⟩ := what_of (k := 5) (by decide) e2
        rw [if_pos rfl, if_pos rfl, if_pos rfl]
        unfold x_eFact
        rw [eT_eq h1 h2 h3 hj hj2 hi]
theorem op_count (h : ti_Z n t hs xs ys lf sy co hr xr yr tb sg) (fl w : Int32) : x_k (x_what w 7) xIOB xIOB = r_b1 (r_isIn w 0 6) 0 1 ∧ (x_what w 7 = true → x_cntOf n t xs ys lf sy fl w = r_b1 (r_isIn w 0 6) (r_counted n t xr yr tb sg fl w) 0) := by
  rw [show r_isIn w 0 6 = x_what w 7 from (what_eq w 6 (by decide)).symm]
  unfold r_b1 x_k
  cases e2 : x_what w 7 with
  | false => exact ⟨by simp, fun q => by simp at q⟩
  | true =>
    refine ⟨by simp, fun _ => ?_⟩
    obtain ⟨P, L, St, f, h1, h2, h3, h4, h5, h6⟩ := h
    obtain ⟨i, hi, rfl⟩ := what_of (k := 7) (by decide) e2
    rw [if_pos rfl]
    exact cnt_eq h1 h2 h3 hi
theorem op_at (h : ti_Z n t hs xs ys lf sy co hr xr yr tb sg) (x y : Int32) : x_k (x_place x y) xIAE xIAE = r_b1 (r_isPlace x y) 0 1 ∧ (x_place x y = true → m_find t xs ys co x y = r_b1 (r_isPlace x y) (nI (r_liesN t xr yr tb x y)) 0) := by
  rw [← place_eq]
  unfold r_b1 x_k
  cases e : x_place x y with
  | false => exact ⟨by simp, fun q => by simp at q⟩
  | true =>
    refine ⟨by simp, fun _ => ?_⟩
    obtain ⟨P, L, St, f, h1, h2, h3, h4, h5, h6⟩ := h
    obtain ⟨p, q, rfl, rfl⟩ := x_place_of e
    obtain ⟨k, hk, e1, e2, -⟩ := find_eq h1 h2 h3 q
    rw [e1, e2, if_pos rfl]
theorem op_height (h : ti_Z n t hs xs ys lf sy co hr xr yr tb sg) (x y : Int32) : (r_isPlace x y = true → ¬ r_areaOf xr yr tb (nI (r_liesN t xr yr tb x y)) = 0) ∧ x_k (x_place x y) xIAE xIAE = r_b1 (r_isPlace x y) 0 1 ∧ (x_place x y = true → x_height t xs ys co hs x y = r_b1 (r_isPlace x y) (r_hs xr yr hr tb (nI (r_liesN t xr yr tb x y)) x y / r_areaOf xr yr tb (nI (r_liesN t xr yr tb x y))) 0) := by
  have hb := Z_bd h
  rw [← place_eq]
  unfold r_b1 x_k
  cases e : x_place x y with
  | false => exact ⟨fun q => by simp at q, by simp, fun q => by simp at q⟩
  | true =>
    obtain ⟨P, L, St, f, h1, h2, h3, h4, h5, h6⟩ := h
    obtain ⟨p, q, rfl, rfl⟩ := x_place_of e
    obtain ⟨e1, e2⟩ := height_eq h1 h2 h3 (by omega) h6 q
    exact ⟨fun _ => e1, by simp, fun _ => by rw [e2, if_pos rfl]⟩
theorem op_nearest (h : ti_Z n t hs xs ys lf sy co hr xr yr tb sg) (x y : Int32) : x_k (x_place x y) xIAE xIAE = r_b1 (r_isPlace x y) 0 1 ∧ (x_place x y = true → m_nearestTo n xs ys x y = r_b1 (r_isPlace x y) (nI (rg_near (r_dTo xr yr x y) n)) 0) := by
  have hb := Z_bd h
  rw [← place_eq]
  unfold r_b1 x_k
  cases e : x_place x y with
  | false => exact ⟨by simp, fun q => by simp at q⟩
  | true =>
    refine ⟨by simp, fun _ => ?_⟩
    obtain ⟨P, L, St, f, h1, h2, h3, h4, h5, h6⟩ := h
    rw [if_pos rfl]
    exact near_eq (by omega) (by omega) h2.1 h3.1 x y
theorem op_circles (h : ti_Z n t hs xs ys lf sy co hr xr yr tb sg) (x y : Int32) : x_k (x_place x y) xIAE xIAE = r_b1 (r_isPlace x y) 0 1 ∧ (x_place x y = true → m_circlesRound t xs ys co x y = r_b1 (r_isPlace x y) (nI (rg_ct (r_pCirc xr yr tb x y) t)) 0) := by
  rw [← place_eq]
  unfold r_b1 x_k
  cases e : x_place x y with
  | false => exact ⟨by simp, fun q => by simp at q⟩
  | true =>
    refine ⟨by simp, fun _ => ?_⟩
    obtain ⟨P, L, St, f, h1, h2, h3, h4, h5, h6⟩ := h
    obtain ⟨p, q, rfl, rfl⟩ := x_place_of e
    rw [if_pos rfl]
    exact circ_eq h1 h2 h3 q
theorem op_way (h : ti_Z n t hs xs ys lf sy co hr xr yr tb sg) (a b : Int32) : ∃ K, (r_isIn a 0 (nI n - 1) = true → r_isIn b 0 (nI n - 1) = true → r_okW n t tb a b K) ∧ x_k (x_okWy n a b) xIOB xIOB = r_b2 (r_isIn a 0 (nI n - 1)) (r_isIn b 0 (nI n - 1)) 0 1 ∧ (x_okWy n a b = true → m_steps n lf a b = r_b2 (r_isIn a 0 (nI n - 1)) (r_isIn b 0 (nI n - 1)) (r_wf t tb n (r_wf0 a 16) K b.toNatClampNeg) 0) := by
  have hb := Z_bd h
  rw [Z_cairn h, Z_cairn h]
  unfold x_okWy r_b2 x_k
  cases e1 : m_isCairn n a with
  | false => exact ⟨0, fun q => by simp at q, by simp, fun q => by simp at q⟩
  | true =>
    cases e2 : m_isCairn n b with
    | false => exact ⟨0, fun _ q => by simp at q, by simp, fun q => by simp at q⟩
    | true =>
      obtain ⟨P, L, St, f, h1, h2, h3, h4, h5, h6⟩ := h
      obtain ⟨i, hi, rfl⟩ := cairn_of (by omega) e1
      obtain ⟨j, hj, rfl⟩ := cairn_of (by omega) e2
      obtain ⟨K, k1, k2, k3⟩ := rcB_K h1.ok hi hj
      obtain ⟨w1, w2⟩ := r_way_ok h1 h3.2.1 (by omega) hi hj k1 k2 k3
      refine ⟨K, fun _ _ => w1, by simp, fun _ => ?_⟩
      rw [if_pos rfl, if_pos rfl, w2]
      exact m_way_eq h1 h2.2.1 hi hj k1 k2 k3
theorem op_digest (h : ti_Z n t hs xs ys lf sy co hr xr yr tb sg) (fl : Int32) : x_digest n t hs xs ys lf sy co fl = r_digest n t xr yr hr tb sg fl := by
  obtain ⟨P, L, St, f, h1, h2, h3, h4, h5, h6⟩ := h
  exact digest_eq h1 h2 h3 h4 h6 fl
theorem op_mean (h : ti_Z n t hs xs ys lf sy co hr xr yr tb sg) : x_mean n xs ys lf sy = r_mean n t xr yr tb sg := by
  obtain ⟨P, L, St, f, h1, h2, h3, h4, h5, h6⟩ := h
  unfold x_mean r_mean
  have : m_edgesThat n xs ys lf sy 0 = r_edges n t xr yr tb sg 0 := edges_eq h1 h2 h3 (w := 0) (by decide)
  rw [this]
end Z
/-! those that change -/
abbrev ti_W (n t : Nat) (fl : Int32) (hs xs ys lf sy co : Nat → Int32) (n2 t2 : Nat) (fl2 : Int32) (hr xr yr tb : Nat → Int32) (sg : Nat → Nat → Int32) : Prop := n2 = n ∧ t2 = t ∧ fl2 = fl ∧ ti_Z n t hs xs ys lf sy co hr xr yr tb sg
section Z
variable {n t : Nat} {fl : Int32} {hs xs ys lf sy co hr xr yr tb : Nat → Int32} {sg : Nat → Nat → Int32}
theorem W_of (h : ti_Z n t hs xs ys lf sy co hr xr yr tb sg) : ti_W n t fl hs xs ys lf sy co n t fl hr xr yr tb sg := ⟨rfl, rfl, rfl, h⟩
theorem b1_t {α : Type} {p : Bool} (h : p = true) (X Y : α) : r_b1 p X Y = X := by rw [h]; rfl
theorem b1_f {α : Type} {p : Bool} (h : p = false) (X Y : α) : r_b1 p X Y = Y := by rw [h]; rfl
theorem setH_nI {a : Nat} (ha : a < 16) (z : Int32) : x_setH hs (nI a) z = upd hs a z := by
  have h16 : ¬ (16 : Int32) ≤ nI a := fun q => absurd ((nI_leI (a := 16) (by decide) (by omega)).mp q) (by omega)
  unfold x_setH
  rw [if_neg (nI_pos (by omega)), if_neg h16, nI_clamp (by omega)]
theorem okB_eq (h : ti_Z n t hs xs ys lf sy co hr xr yr tb sg) (x y z : Int32) : r_okB n xr yr x y z = x_okBd n xs ys x y z ∧ x_k (x_okBd n xs ys x y z) (x_exBd x y z) xIAE = r_thB n xr yr x y z := by
  have hb := Z_bd h
  obtain ⟨P, L, St, f, h1, h2, h3, h4, h5, h6⟩ := h
  have hc := hasCairn_eq (n := n) (by omega) h2.1 h3.1 x y
  have i16 : nI n = 16 ↔ ¬ nI n < 16 := by
    have a := nI_eq (a := n) (b := 16) (by omega) (by decide)
    have b := nI_ltI (a := n) (b := 16) (by omega) (by decide)
    constructor
    · intro q w
      have := a.mp q
      have := b.mp w
      omega
    · intro w
      apply a.mpr
      rcases Nat.lt_or_ge n 16 with z | z
      · exact absurd (b.mpr z) w
      · omega
  have nIE : ¬ xISE = xIAE := by decide
  unfold r_okB r_thB x_okBd x_exBd x_k
  rw [← place_eq, ← hgt_eq]
  cases e1 : x_place x y with
  | false => simp
  | true =>
    cases e2 : x_hgt z with
    | false => simp
    | true =>
      by_cases e3 : nI n < 16
      · have e3' : ¬ nI n = 16 := fun q => (i16.mp q) e3
        by_cases e4 : r_cairnAt n xr yr x y = -1
        · have e5 : m_hasCairnAt n xs ys x y = false := by
            cases e : m_hasCairnAt n xs ys x y with
            | false => rfl
            | true => exact absurd e4 (hc.mp e)
          simp [e3, e3', e4, e5]
        · have e5 : m_hasCairnAt n xs ys x y = true := hc.mpr e4
          simp [e3, e3', e4, e5, nIE]
      · have e3' : nI n = 16 := i16.mpr e3
        simp [e3, e3', nIE]
theorem op_build (h : ti_Z n t hs xs ys lf sy co hr xr yr tb sg) (x y z : Int32) : (r_okB n xr yr x y z = true → r_okAd n t xr yr tb sg x y) ∧ x_k (x_okBd n xs ys x y z) (x_exBd x y z) xIAE = r_thB n xr yr x y z ∧ (x_okBd n xs ys x y z = true → nI n = r_b1 (r_okB n xr yr x y z) (nI n) 0 ∧ ti_W (n + 1) ((m_list (n + 1) (m_inLf n (m_ac n xs x) (m_ac n ys y) lf (m_corner co (m_find t xs ys co x y) 0) (m_corner co (m_find t xs ys co x y) 1) (m_corner co (m_find t xs ys co x y) 2) x y) co).1) fl (x_setH hs (nI n) z) (m_ac n xs x) (m_ac n ys y) (m_inLf n (m_ac n xs x) (m_ac n ys y) lf (m_corner co (m_find t xs ys co x y) 0) (m_corner co (m_find t xs ys co x y) 1) (m_corner co (m_find t xs ys co x y) 2) x y) (m_inSy n (m_ac n xs x) (m_ac n ys y) sy (m_corner co (m_find t xs ys co x y) 0) (m_corner co (m_find t xs ys co x y) 1) (m_corner co (m_find t xs ys co x y) 2) x y) ((m_list (n + 1) (m_inLf n (m_ac n xs x) (m_ac n ys y) lf (m_corner co (m_find t xs ys co x y) 0) (m_corner co (m_find t xs ys co x y) 1) (m_corner co (m_find t xs ys co x y) 2) x y) co).2)
    (r_b1 (r_okB n xr yr x y z) (n + 1) n) (r_b1 (r_okB n xr yr x y z) ((r_adS n t xr yr tb sg x y).1) t) fl (r_b1 (r_okB n xr yr x y z) (m_ac n hr z) hr) (r_b1 (r_okB n xr yr x y z) (m_ac n xr x) xr) (r_b1 (r_okB n xr yr x y z) (m_ac n yr y) yr) (r_b1 (r_okB n xr yr x y z) ((r_adS n t xr yr tb sg x y).2.1) tb) (r_b1 (r_okB n xr yr x y z) (r_adSg n t xr yr tb sg x y) sg)) ∧ (x_okBd n xs ys x y z = false → ti_W n t fl hs xs ys lf sy co (r_b1 (r_okB n xr yr x y z) (n + 1) n) (r_b1 (r_okB n xr yr x y z) ((r_adS n t xr yr tb sg x y).1) t) fl (r_b1 (r_okB n xr yr x y z) (m_ac n hr z) hr) (r_b1 (r_okB n xr yr x y z) (m_ac n xr x) xr) (r_b1 (r_okB n xr yr x y z) (m_ac n yr y) yr) (r_b1 (r_okB n xr yr x y z) ((r_adS n t xr yr tb sg x y).2.1) tb) (r_b1 (r_okB n xr yr x y z) (r_adSg n t xr yr tb sg x y) sg)) := by
  have hb := Z_bd h
  obtain ⟨e, ek⟩ := okB_eq h x y z
  have ins : x_okBd n xs ys x y z = true → n < 16 ∧ ∃ p : g_P, tr_sq p ∧ x = iN p.1 ∧ y = iN p.2 ∧ ∀ P : Nat → g_P, (∀ i, i < n → tr_sq (P i)) → ti_X n P xs ys → ∀ i, i < n → P i ≠ p := by
    intro q
    unfold x_okBd at q
    split at q
    · rename_i q1
      split at q
      · split at q
        · rename_i q3
          split at q
          · cases q
          · rename_i q4
            obtain ⟨p, p1, rfl, rfl⟩ := x_place_of q1
            refine ⟨(nI_ltI (a := n) (b := 16) (by omega) (by decide)).mp q3, p, p1, rfl, rfl, fun P hP hX => noCairn (by omega) hP hX p1 (by simpa using q4)⟩
        · cases q
      · cases q
    · cases q
  rw [e]
  refine ⟨fun q => ?_, ek, fun q => ?_, fun q => ?_⟩
  · obtain ⟨hn, p, p1, rfl, rfl, p2⟩ := ins q
    obtain ⟨P, L, St, f, h1, h2, h3, h4, h5, h6⟩ := h
    exact (insert_tie h1 h2 h3 h4 p1 (p2 P h1.sq h2.1)).1
  · obtain ⟨hn, p, p1, rfl, rfl, p2⟩ := ins q
    obtain ⟨P, L, St, f, h1, h2, h3, h4, h5, h6⟩ := h
    obtain ⟨-, t', P', L', St', f', k1, k2, k3, k4, k5, k6, k7⟩ := insert_tie h1 h2 h3 h4 p1 (p2 P h1.sq h2.1)
    rw [b1_t q, b1_t q, b1_t q, b1_t q, b1_t q, b1_t q, b1_t q, b1_t q]
    refine ⟨rfl, rfl, k6.trans k4.symm, rfl, ?_⟩
    unfold m_inLf2 at k4 k5
    unfold m_inSy2 at k5
    rw [k4]
    refine ⟨P', L', St', f', k3, k5, k7, by omega, by omega, fun i hi => ?_⟩
    rw [setH_nI hn, upd_if, ac_eq (by omega)]
    by_cases w : i = n
    · rw [if_pos w, if_pos w]
    · rw [if_neg w, if_neg w]; exact h6 i (by omega)
  · rw [b1_f q, b1_f q, b1_f q, b1_f q, b1_f q, b1_f q, b1_f q]
    exact W_of h
theorem op_raise (h : ti_Z n t hs xs ys lf sy co hr xr yr tb sg) (a z : Int32) : x_k (x_okRs n a z) (x_exRs n a) xIOB = r_b1 (r_isIn a 0 (nI n - 1)) (r_b1 (r_isIn z 0 99) 0 2) 1 ∧ (x_okRs n a z = true → x_hOf hs a = r_b2 (r_isIn a 0 (nI n - 1)) (r_isIn z 0 99) (hr a.toNatClampNeg) 0 ∧ ti_W n t fl (x_setH hs a z) xs ys lf sy co n t fl (r_b2 (r_isIn a 0 (nI n - 1)) (r_isIn z 0 99) (upd hr a.toNatClampNeg z) hr) xr yr tb sg) ∧ (x_okRs n a z = false → ti_W n t fl hs xs ys lf sy co n t fl (r_b2 (r_isIn a 0 (nI n - 1)) (r_isIn z 0 99) (upd hr a.toNatClampNeg z) hr) xr yr tb sg) := by
  have hb := Z_bd h
  have nIE : ¬ xIAE = xIOB := by decide
  rw [Z_cairn h, ← hgt_eq]
  unfold x_okRs x_exRs r_b2 r_b1 x_k
  cases e1 : m_isCairn n a with
  | false => exact ⟨by simp, fun q => by simp at q, fun _ => W_of h⟩
  | true =>
    cases e2 : x_hgt z with
    | false => exact ⟨by simp [nIE], fun q => by simp at q, fun _ => W_of h⟩
    | true =>
      refine ⟨by simp, fun _ => ?_, fun q => by simp at q⟩
      obtain ⟨P, L, St, f, h1, h2, h3, h4, h5, h6⟩ := h
      obtain ⟨i, hi, rfl⟩ := cairn_of (by omega) e1
      rw [if_pos rfl, if_pos rfl, if_pos rfl, if_pos rfl, x_hOf_nI (by omega), setH_nI (by omega), nI_clamp (by omega)]
      refine ⟨h6 i hi, rfl, rfl, rfl, P, L, St, f, h1, h2, h3, h4, h5, fun j hj => ?_⟩
      rw [upd_if, upd_if, h6 j hj]
theorem op_fix (h : ti_Z n t hs xs ys lf sy co hr xr yr tb sg) (a b z : Int32) (hz : z = 0 ∨ z = 1) : x_k (x_okFx n lf a b) (x_exFx n a b) xIOB = r_b2 (r_isIn a 0 (nI n - 1)) (r_isIn b 0 (nI n - 1)) (r_b1 (r_nz (r_sides t tb a b)) 0 2) 1 ∧ (x_okFx n lf a b = true → m_mustStay n sy a b = r_b3 (r_isIn a 0 (nI n - 1)) (r_isIn b 0 (nI n - 1)) (r_nz (r_sides t tb a b)) (r_nz (sg a.toNatClampNeg b.toNatClampNeg)) false ∧ ti_W n t fl hs xs ys lf (m_setSt n sy a b z) co n t fl hr xr yr tb (r_b3 (r_isIn a 0 (nI n - 1)) (r_isIn b 0 (nI n - 1)) (r_nz (r_sides t tb a b)) (r_let sg a b z) sg)) ∧ (x_okFx n lf a b = false → ti_W n t fl hs xs ys lf sy co n t fl hr xr yr tb (r_b3 (r_isIn a 0 (nI n - 1)) (r_isIn b 0 (nI n - 1)) (r_nz (r_sides t tb a b)) (r_let sg a b z) sg)) := by
  have hb := Z_bd h
  have nIE : ¬ xISE = xIOB := by decide
  rw [Z_cairn h, Z_cairn h]
  unfold x_okFx x_exFx r_b3 r_b2 r_b1 x_k
  cases e1 : m_isCairn n a with
  | false => exact ⟨by simp, fun q => by simp at q, fun _ => W_of h⟩
  | true =>
    cases e2 : m_isCairn n b with
    | false => exact ⟨by simp, fun q => by simp at q, fun _ => W_of h⟩
    | true =>
      obtain ⟨i, hi, rfl⟩ := cairn_of (by omega) e1
      obtain ⟨j, hj, rfl⟩ := cairn_of (by omega) e2
      have hH := h
      obtain ⟨P, L, St, f, h1, h2, h3, h4, h5, h6⟩ := h
      have e3 : r_nz (r_sides t tb (nI i) (nI j)) = m_isEdge lf (nI i) (nI j) := by
        rw [m_edge_eq h1 h2.2.1 (by omega) (by omega)]
        have i0 := r_sides_0 h1 h3.2.1 hi hj
        unfold r_nz
        cases e : eB L i j with
        | false => rw [if_pos (i0.mpr e)]
        | true => rw [if_neg (fun q => by rw [i0.mp q] at e; cases e)]
      rw [e3]
      cases e4 : m_isEdge lf (nI i) (nI j) with
      | false => exact ⟨by simp [nIE], fun q => by simp at q, fun _ => W_of hH⟩
      | true =>
        refine ⟨by simp, fun _ => ?_, fun q => by simp at q⟩
        have hE : tr_E L i j := eB_E.mp (by rw [← m_edge_eq h1 h2.2.1 (by omega) (by omega)]; exact e4)
        rw [if_pos rfl, if_pos rfl, if_pos rfl, if_pos rfl, if_pos rfl, if_pos rfl, m_stay_eq (by omega) h2.2.2.1 hi hj, nI_clamp (by omega), nI_clamp (by omega), h3.2.2 i j (by omega) (by omega)]
        refine ⟨by cases St i j <;> rfl, rfl, rfl, rfl, ?_⟩
        have hzv : ∃ v : Bool, z = bI v := by
          rcases hz with rfl | rfl
          · exact ⟨false, rfl⟩
          · exact ⟨true, rfl⟩
        obtain ⟨v, rfl⟩ := hzv
        refine ⟨P, L, st_set St i j v, f, ⟨h1.ok, h1.n4, h1.n17, h1.t2, h1.en, fun x y q => ?_, fun x y => ?_⟩, ⟨h2.1, h2.2.1, setSt_eq (by omega) h2.2.2.1 hi hj v, h2.2.2.2⟩, ⟨h3.1, h3.2.1, let_eq h3.2.2 (by omega) (by omega) v⟩, h4, h5, h6⟩
        · unfold st_set at q
          split at q
          · rename_i w
            rcases w with ⟨rfl, rfl⟩ | ⟨rfl, rfl⟩
            · exact hE
            · exact hE.symm
          · exact h1.ed x y q
        · unfold st_set
          have s := h1.sym x y
          by_cases w : (x = i ∧ y = j) ∨ (x = j ∧ y = i)
          · rw [if_pos w, if_pos (by omega)]
          · rw [if_neg w, if_neg (by omega)]; exact s
end Z

