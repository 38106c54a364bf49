/-! what both tell, over one triangulation -/
section TE
variable {n t : Nat} {P : Nat → g_P} {L : Nat → Nat → Option Nat} {St : Nat → Nat → Bool} {f : Nat → Nat} {xs ys lf sy co hs : Nat → Int32} {T C S : Nat → Nat → Int32} {nS : Nat}
theorem fa_n (h : ti_A n t P L St f) (hE : sv_E (tr_S L) t T) {a b : Nat} (ha : a < n) (hb : b < n) : (s_fa T (nI a) (nI b) t).1 = (if (L a b).isSome then 1 else 0) + (if (L b a).isSome then 1 else 0) := by
  have hV := (hE.rows h.en).1
  rw [(sv_fa h (fun _ _ => rfl) hV (nI a) (nI b) t (Nat.le_refl t)).1, sv_ct2 h (fun _ _ => rfl) hV ha hb]
  cases (L a b).isSome <;> cases (L b a).isSome <;> rfl
theorem isB_eq (h : ti_A n t P L St f) (hE : sv_E (tr_S L) t T) {a b : Nat} (ha : a < n) (hb : b < n) : s_isB t T (nI a) (nI b) = eB L a b := by
  unfold s_isB eB
  rw [fa_n h hE ha hb]
  cases (L a b).isSome <;> cases (L b a).isSome <;> rfl
theorem one_eq (h : ti_A n t P L St f) (hE : sv_E (tr_S L) t T) {a b : Nat} (ha : a < n) (hb : b < n) : s_one t T (nI a) (nI b) = bB L a b := by
  unfold s_one bB eB iB
  rw [fa_n h hE ha hb]
  cases (L a b).isSome <;> cases (L b a).isSome <;> rfl
theorem isS_eq (h : ti_A n t P L St f) (hE : sv_E (tr_S L) t T) (hL : sv_L (qS St) nS S) {a b : Nat} (ha : a < n) (hb : b < n) : s_isS t T nS S (nI a) (nI b) = St a b := by
  unfold s_isS
  rw [isB_eq h hE ha hb, stay_eq h hL a b ha hb]
  cases e : eB L a b with
  | true => exact if_pos rfl
  | false =>
    rw [if_neg (by decide)]
    cases e2 : St a b with
    | false => rfl
    | true => rw [(h.stlt e2).2.2.2] at e; cases e
theorem uB_eB {P : Nat → g_P} {L : Nat → Nat → Option Nat} {a b : Nat} (e : uB P L a b = true) : eB L a b = true := by
  unfold uB at e
  unfold eB
  cases e1 : L a b with
  | none => rw [e1] at e; cases e
  | some c => rfl
theorem tB_eB {P : Nat → g_P} {L : Nat → Nat → Option Nat} {St : Nat → Nat → Bool} {a b : Nat} (e : tB P L St a b = true) : eB L a b = true := by
  unfold tB at e
  unfold eB
  cases e1 : L a b with
  | none => rw [e1] at e; cases e
  | some c => rfl
theorem and_eB {p q : Bool} (h : p = true → q = true) : (if q = true then p else false) = p := by
  cases q
  · cases p
    · rfl
    · exact absurd (h rfl) (by decide)
  · rfl
/-- the class's five answers of an edge -/
theorem eThat (h : ti_A n t P L St f) (hm : ti_m n t P L St f xs ys lf sy co) {a b : Nat} (ha : a < n) (hb : b < n) : m_isEdgeThat n xs ys lf sy 0 (nI a) (nI b) = eB L a b ∧ m_isEdgeThat n xs ys lf sy 1 (nI a) (nI b) = bB L a b ∧ m_isEdgeThat n xs ys lf sy 2 (nI a) (nI b) = St a b ∧ m_isEdgeThat n xs ys lf sy 3 (nI a) (nI b) = uB P L a b ∧ m_isEdgeThat n xs ys lf sy 4 (nI a) (nI b) = tB P L St a b := by
  obtain ⟨hX, hL, hS, hC⟩ := hm
  have hn := h.n17
  have e := m_edge_eq h hL (a := a) (b := b) (by omega) (by omega)
  have i := m_inner_eq h hL (a := a) (b := b) (by omega) (by omega)
  have s := m_stay_eq hn hS ha hb
  have u := m_unfair_eq h hX hL ha hb
  have c := m_turnable_eq h hX hL hS ha hb
  unfold m_isEdgeThat
  rw [e, i, s, u, c]
  refine ⟨?_, ?_, ?_, ?_, ?_⟩
  · rw [if_neg (show ¬ (0 : Int32) = 1 by decide), if_neg (show ¬ (0 : Int32) = 2 by decide), if_neg (show ¬ (0 : Int32) = 3 by decide), if_neg (show ¬ (0 : Int32) = 4 by decide), if_pos (show (0 : Int32) = 0 from rfl)]
    cases eB L a b <;> rfl
  · rw [if_pos (show (1 : Int32) = 1 from rfl)]; unfold bB
    cases eB L a b <;> rfl
  · rw [if_neg (show ¬ (2 : Int32) = 1 by decide), if_pos (show (2 : Int32) = 2 from rfl)]
    exact and_eB (fun q => (h.stlt q).2.2.2)
  · rw [if_neg (show ¬ (3 : Int32) = 1 by decide), if_neg (show ¬ (3 : Int32) = 2 by decide), if_pos (show (3 : Int32) = 3 from rfl)]
    exact and_eB (fun q => uB_eB q)
  · rw [if_neg (show ¬ (4 : Int32) = 1 by decide), if_neg (show ¬ (4 : Int32) = 2 by decide), if_neg (show ¬ (4 : Int32) = 3 by decide), if_pos (show (4 : Int32) = 4 from rfl)]
    exact and_eB (fun q => tB_eB q)
theorem cnt_ext {p q : Nat → Nat → Bool} {n : Nat} (h : ∀ x y, x < n → y < n → p x y = q x y) : cnt p n = cnt q n := cnt_congr (fun x y h1 h2 => h x y (by omega) h2)
theorem edges0 (h : ti_A n t P L St f) (hm : ti_m n t P L St f xs ys lf sy co) : m_edgesThat n xs ys lf sy 0 = nI (ecn L n) := congrArg nI (cnt_ext (p := fun a b => m_isEdgeThat n xs ys lf sy 0 (nI a) (nI b)) (fun x y hx hy => (eThat h hm hx hy).1))
theorem edges1 (h : ti_A n t P L St f) (hm : ti_m n t P L St f xs ys lf sy co) : m_edgesThat n xs ys lf sy 1 = nI (bcn L n) := congrArg nI (cnt_ext (p := fun a b => m_isEdgeThat n xs ys lf sy 1 (nI a) (nI b)) (fun x y hx hy => (eThat h hm hx hy).2.1))
theorem edges2 (h : ti_A n t P L St f) (hm : ti_m n t P L St f xs ys lf sy co) : m_edgesThat n xs ys lf sy 2 = nI (cnt St n) := congrArg nI (cnt_ext (p := fun a b => m_isEdgeThat n xs ys lf sy 2 (nI a) (nI b)) (fun x y hx hy => (eThat h hm hx hy).2.2.1))
theorem edges3 (h : ti_A n t P L St f) (hm : ti_m n t P L St f xs ys lf sy co) : m_edgesThat n xs ys lf sy 3 = nI (cnt (uB P L) n) := congrArg nI (cnt_ext (p := fun a b => m_isEdgeThat n xs ys lf sy 3 (nI a) (nI b)) (fun x y hx hy => (eThat h hm hx hy).2.2.2.1))
theorem cof (fl : Int32) : x_cntOf n t xs ys lf sy fl 0 = nI n ∧ x_cntOf n t xs ys lf sy fl 1 = nI t ∧ x_cntOf n t xs ys lf sy fl 2 = m_edgesThat n xs ys lf sy 0 ∧ x_cntOf n t xs ys lf sy fl 3 = m_edgesThat n xs ys lf sy 1 ∧ x_cntOf n t xs ys lf sy fl 4 = m_edgesThat n xs ys lf sy 2 ∧ x_cntOf n t xs ys lf sy fl 5 = m_edgesThat n xs ys lf sy 3 ∧ x_cntOf n t xs ys lf sy fl 6 = fl := ⟨rfl, rfl, rfl, rfl, rfl, rfl, rfl⟩
theorem uB_swap (h : ti_A n t P L St f) (a b : Nat) : uB P L a b = uB P L b a := by
  unfold uB
  cases e1 : L a b with
  | none =>
    cases e2 : L b a <;> rfl
  | some c =>
    cases e2 : L b a with
    | none => rfl
    | some d =>
      show decide (0 < gD (P a) (P b) (P c) (P d)) = decide (0 < gD (P b) (P a) (P d) (P c))
      rw [decide_eq_decide]
      have : gD (P b) (P a) (P d) (P c) = gD (P a) (P b) (P c) (P d) := by
        rw [gD_sw12]
        have e : gD (P a) (P b) (P d) (P c) = - gD (P a) (P b) (P c) (P d) := by unfold gD gO; grind
        rw [e, Int.neg_neg]
      rw [this]
theorem tB_swap (h : ti_A n t P L St f) (a b : Nat) : tB P L St a b = tB P L St b a := by
  unfold tB
  cases e1 : L a b with
  | none =>
    cases e2 : L b a <;> rfl
  | some c =>
    cases e2 : L b a with
    | none => rfl
    | some d =>
      show (!St a b && decide (gO (P c) (P d) (P a) < 0) && decide (0 < gO (P c) (P d) (P b))) = (!St b a && decide (gO (P d) (P c) (P b) < 0) && decide (0 < gO (P d) (P c) (P a)))
      have s1 := gO_swap (P c) (P d) (P a)
      have s2 := gO_swap (P c) (P d) (P b)
      rw [h.sym b a, Bool.and_assoc, Bool.and_assoc, Bool.and_comm (decide (gO (P d) (P c) (P b) < 0))]
      congr 2
      · rw [decide_eq_decide]; omega
      · rw [decide_eq_decide]; omega
theorem hasN_eq (h : ti_A n t P L St f) (hE : sv_E (tr_S L) t T) {i : Nat} (hi : i < n) : s_hasN C t T nS S i n = nI (rg_ct (eB L i) n) := by
  unfold s_hasN
  rw [s_acc_congr (f := fun b => s_eRow C t T nS S (nI i) (nI b) 0) (g := fun b => bI (eB L i b)) (fun b hb => congrArg bI (isB_eq h hE hi hb)), show (0 : Int32) = nI 0 from rfl, s_acc_ct, Nat.zero_add]
theorem eO_eq (h : ti_A n t P L St f) (hE : sv_E (tr_S L) t T) : s_eO n C t T nS S n = nI (2 * ecn L n) := by
  unfold s_eO
  rw [s_acc_congr (g := fun i => nI (rg_ct (eB L i) n)) (fun i hi => hasN_eq h hE hi), s_acc_nI, cnt_full (eB_swap L) (fun a => by unfold eB; rw [h.irr a]; rfl)]; rfl
theorem bdO_eq (h : ti_A n t P L St f) (hE : sv_E (tr_S L) t T) : ∀ k, k ≤ n → s_bdO n C t T nS S k = nI (rg_sum (fun i => rg_ct (bB L i) n) k)
  | 0, _ => rfl
  | k + 1, hk => by
    show s_acc (fun b => s_eRow C t T nS S (nI k) (nI b) 1) (s_bdO n C t T nS S k) n = nI (rg_sum (fun i => rg_ct (bB L i) n) k + rg_ct (bB L k) n)
    rw [bdO_eq h hE k (by omega), s_acc_congr (f := fun b => s_eRow C t T nS S (nI k) (nI b) 1) (g := fun b => bI (bB L k b)) (fun b hb => congrArg bI (one_eq h hE (by omega) hb)), s_acc_ct]
theorem bd_full (h : ti_A n t P L St f) : rg_sum (fun i => rg_ct (bB L i) n) n = 2 * bcn L n := cnt_full (bB_swap L) (fun a => by unfold bB eB; rw [h.irr a]; rfl) n
theorem uN_eq (h : ti_A n t P L St f) (hE : sv_E (tr_S L) t T) (hC : sv_C n P C) : s_uN C t T n = cnt (uB P L) n := by
  rw [← cnt_low (uB_swap h) n]
  refine rg_sum_congr fun i hi => rg_ct_congr fun j hj => ?_
  exact sv_unf h (fun _ _ => rfl) (hE.rows h.en).1 hC hi (by omega)
end TE
theorem dv_cmp : (List.range 80).all (fun a => (List.range 17).all (fun b => decide (Op.cmpValue (FP.dcmp (FP.ddiv (FP.i2d (2 * nI a)) (FP.i2d (nI (b + 1)))) (FP.ddiv (FP.i2d (2 * nI a)) (FP.i2d (nI (b + 1))))) .l = 0))) = true := by decide +kernel
theorem dv_cmp0 {a n : Nat} (ha : a < 80) (h1 : 1 ≤ n) (hn : n ≤ 17) : Op.cmpValue (FP.dcmp (FP.ddiv (FP.i2d (2 * nI a)) (FP.i2d (nI n))) (FP.ddiv (FP.i2d (2 * nI a)) (FP.i2d (nI n)))) .l = 0 := by
  have h := List.all_eq_true.mp (List.all_eq_true.mp dv_cmp a (List.mem_range.mpr (by omega))) (n - 1) (List.mem_range.mpr (by omega))
  rw [show n - 1 + 1 = n by omega] at h
  exact of_decide_eq_true h
