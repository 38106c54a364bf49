/-! the class's mesh and the reference, over one triangulation -/
def lo (o : Option Nat) : Int32 := match o with
  | some c => nI c
  | none => -1
abbrev ti_L (L : Nat → Nat → Option Nat) (lf : Nat → Int32) : Prop := ∀ a b, a < 17 → b < 17 → lf (a * 17 + b) = lo (L a b)
abbrev ti_S (St : Nat → Nat → Bool) (sy : Nat → Int32) : Prop := ∀ a b, a < 17 → b < 17 → sy (a * 17 + b) = bI (St a b)
abbrev ti_C (t : Nat) (f : Nat → Nat) (co : Nat → Int32) : Prop := ∀ k, k < t → co (3 * k) = nI (f k / 32 / 32) ∧ co (3 * k + 1) = nI (f k / 32 % 32) ∧ co (3 * k + 2) = nI (f k % 32)
abbrev ti_G (St : Nat → Nat → Bool) (sg : Nat → Nat → Int32) : Prop := ∀ a b, a < 17 → b < 17 → sg a b = bI (St a b)
/-- the triangulation, its list, its edges that stay -/
abbrev ti_A (n t : Nat) (P : Nat → g_P) (L : Nat → Nat → Option Nat) (St : Nat → Nat → Bool) (f : Nat → Nat) : Prop := tr_Ok n P L ∧ 4 ≤ n ∧ n ≤ 17 ∧ t + 6 ≤ 2 * n ∧ en_ (tr_S L) t f ∧ (∀ a b, St a b = true → tr_E L a b) ∧ ∀ a b, St a b = St b a
section A
variable {n t : Nat} {P : Nat → g_P} {L : Nat → Nat → Option Nat} {St : Nat → Nat → Bool} {f : Nat → Nat}
theorem ti_A.ok (h : ti_A n t P L St f) : tr_Ok n P L := h.1
theorem ti_A.n4 (h : ti_A n t P L St f) : 4 ≤ n := h.2.1
theorem ti_A.n17 (h : ti_A n t P L St f) : n ≤ 17 := h.2.2.1
theorem ti_A.t2 (h : ti_A n t P L St f) : t + 6 ≤ 2 * n := h.2.2.2.1
theorem ti_A.en (h : ti_A n t P L St f) : en_ (tr_S L) t f := h.2.2.2.2.1
theorem ti_A.ed (h : ti_A n t P L St f) : ∀ a b, St a b = true → tr_E L a b := h.2.2.2.2.2.1
theorem ti_A.sym (h : ti_A n t P L St f) : ∀ a b, St a b = St b a := h.2.2.2.2.2.2
theorem ti_A.sq (h : ti_A n t P L St f) : ∀ i, i < n → tr_sq (P i) := fun i hi => h.ok.pos.1 i hi
theorem ti_A.R (h : ti_A n t P L St f) {tb : Nat → Int32} (hT : ti_T t f tb) : ti_R n P L t f tb := ⟨h.ok.tri, h.n17, by have := h.t2; have := h.n17; omega, h.en, hT⟩
end A
/-- the class's mesh -/
abbrev ti_m (n t : Nat) (P : Nat → g_P) (L : Nat → Nat → Option Nat) (St : Nat → Nat → Bool) (f : Nat → Nat) (xs ys lf sy co : Nat → Int32) : Prop := ti_X n P xs ys ∧ ti_L L lf ∧ ti_S St sy ∧ ti_C t f co
/-- the reference -/
abbrev ti_r (n t : Nat) (P : Nat → g_P) (St : Nat → Nat → Bool) (f : Nat → Nat) (xs ys tb : Nat → Int32) (sg : Nat → Nat → Int32) : Prop := ti_X n P xs ys ∧ ti_T t f tb ∧ ti_G St sg
theorem nI_in17 {a : Nat} (ha : a < 17) : ¬ nI a < 0 ∧ ¬ (17 : Int32) ≤ nI a := ⟨nI_pos (by omega), fun q => absurd ((nI_leI (a := 17) (by decide) (by omega)).mp q) (by omega)⟩
theorem row_nI {a b : Nat} (ha : a < 17) (hb : b < 17) : (nI a * 17 + nI b).toNatClampNeg = a * 17 + b := by
  rw [show (17 : Int32) = nI 17 from rfl, pk_mul, nI_add, nI_clamp (by omega)]
theorem lo_eq (o : Option Nat) (h : ∀ c, o = some c → c < 17) : lo o = -1 ↔ o = none := by
  cases o with
  | none => exact ⟨fun _ => rfl, fun _ => rfl⟩
  | some c => exact ⟨fun q => absurd q (nI_m19w (by have := h c rfl; omega)), fun q => by cases q⟩
theorem m_left_eq {L : Nat → Nat → Option Nat} {lf : Nat → Int32} (hL : ti_L L lf) {a b : Nat} (ha : a < 17) (hb : b < 17) : m_leftOf lf (nI a) (nI b) = lo (L a b) := by
  unfold m_leftOf
  rw [if_neg (nI_in17 ha).1, if_neg (nI_in17 ha).2, if_neg (nI_in17 hb).1, if_neg (nI_in17 hb).2, row_nI ha hb, hL a b ha hb]
theorem m_cairn_eq {n a : Nat} (hn : n ≤ 17) (ha : a < 2 ^ 31) : m_isCairn n (nI a) = decide (a < n) := by
  unfold m_isCairn
  rw [if_neg (nI_pos ha)]
  by_cases h : a < n
  · rw [if_neg (nI_in17 (by omega)).2, if_neg (fun q => absurd ((nI_leI (by omega) ha).mp q) (by omega))]
    exact (decide_eq_true h).symm
  · rw [decide_eq_false h]
    split
    · rfl
    · rw [if_pos ((nI_leI (by omega) ha).mpr (by omega))]
def eB (L : Nat → Nat → Option Nat) (a b : Nat) : Bool := (L a b).isSome || (L b a).isSome
def iB (L : Nat → Nat → Option Nat) (a b : Nat) : Bool := (L a b).isSome && (L b a).isSome
def uB (P : Nat → g_P) (L : Nat → Nat → Option Nat) (a b : Nat) : Bool := match L a b, L b a with
  | some c, some d => decide (0 < gD (P a) (P b) (P c) (P d))
  | _, _ => false
def tB (P : Nat → g_P) (L : Nat → Nat → Option Nat) (St : Nat → Nat → Bool) (a b : Nat) : Bool := match L a b, L b a with
  | some c, some d => !St a b && decide (gO (P c) (P d) (P a) < 0) && decide (0 < gO (P c) (P d) (P b))
  | _, _ => false
section Q
variable {n t : Nat} {P : Nat → g_P} {L : Nat → Nat → Option Nat} {St : Nat → Nat → Bool} {f : Nat → Nat} {xs ys lf sy co : Nat → Int32} {xr yr tb : Nat → Int32} {sg : Nat → Nat → Int32}
theorem ti_A.lt (h : ti_A n t P L St f) {a b c : Nat} (e : L a b = some c) : a < n ∧ b < n ∧ c < n := by
  obtain ⟨h1, h2, h3, -⟩ := h.ok.tri a b c e
  exact ⟨h1, h2, h3⟩
theorem left_none (h : ti_A n t P L St f) (hL : ti_L L lf) {a b : Nat} (ha : a < 17) (hb : b < 17) : m_leftOf lf (nI a) (nI b) = -1 ↔ L a b = none := by
  rw [m_left_eq hL ha hb]
  exact lo_eq _ (fun c e => by have := (h.lt e).2.2; have := h.n17; omega)
theorem m_edge_eq (h : ti_A n t P L St f) (hL : ti_L L lf) {a b : Nat} (ha : a < 17) (hb : b < 17) : m_isEdge lf (nI a) (nI b) = eB L a b := by
  unfold m_isEdge eB
  have i1 := left_none h hL ha hb
  have i2 := left_none h hL hb ha
  cases e1 : L a b with
  | none =>
    rw [if_pos (i1.mpr e1)]
    cases e2 : L b a with
    | none => rw [if_pos (i2.mpr e2)]; rfl
    | some d => rw [if_neg (fun q => by rw [i2.mp q] at e2; cases e2)]; rfl
  | some c => rw [if_neg (fun q => by rw [i1.mp q] at e1; cases e1)]; rfl
theorem m_inner_eq (h : ti_A n t P L St f) (hL : ti_L L lf) {a b : Nat} (ha : a < 17) (hb : b < 17) : m_isInner lf (nI a) (nI b) = iB L a b := by
  unfold m_isInner iB
  have i1 := left_none h hL ha hb
  have i2 := left_none h hL hb ha
  cases e1 : L a b with
  | none => rw [if_pos (i1.mpr e1)]; rfl
  | some c =>
    rw [if_neg (fun q => by rw [i1.mp q] at e1; cases e1)]
    cases e2 : L b a with
    | none => rw [if_pos (i2.mpr e2)]; rfl
    | some d => rw [if_neg (fun q => by rw [i2.mp q] at e2; cases e2)]; rfl
theorem m_stay_eq (hn : n ≤ 17) (hS : ti_S St sy) {a b : Nat} (ha : a < n) (hb : b < n) : m_mustStay n sy (nI a) (nI b) = St a b := by
  unfold m_mustStay
  rw [m_cairn_eq hn (by omega), m_cairn_eq hn (by omega), decide_eq_true ha, decide_eq_true hb, if_pos rfl, if_pos rfl, row_nI (by omega) (by omega), hS a b (by omega) (by omega)]
  cases St a b <;> rfl
theorem r_sides_eq (h : ti_A n t P L St f) (hT : ti_T t f tb) {a b : Nat} (ha : a < n) (hb : b < n) : r_sides t tb (nI a) (nI b) = nI ((if (L a b).isSome then 1 else 0) + (if (L b a).isSome then 1 else 0)) := by
  have hR := h.R hT
  cases e1 : L a b with
  | none =>
    cases e2 : L b a with
    | none => rw [sides0 hR ha hb e1 e2]; rfl
    | some d => rw [sides_swap, sides1 hR hb ha e2 e1]; rfl
  | some c =>
    cases e2 : L b a with
    | none => rw [sides1 hR ha hb e1 e2]; rfl
    | some d => rw [sides2 hR ha hb e1 e2]; rfl
theorem r_sides_le (h : ti_A n t P L St f) (hT : ti_T t f tb) {a b : Nat} (ha : a < n) (hb : b < n) : r_sides t tb (nI a) (nI b) ≤ 0 ↔ eB L a b = false := by
  rw [r_sides_eq h hT ha hb]
  unfold eB
  generalize (L a b).isSome = u
  generalize (L b a).isSome = v
  cases u <;> cases v <;> decide
theorem r_sides_0 (h : ti_A n t P L St f) (hT : ti_T t f tb) {a b : Nat} (ha : a < n) (hb : b < n) : r_sides t tb (nI a) (nI b) = 0 ↔ eB L a b = false := by
  rw [r_sides_eq h hT ha hb]
  unfold eB
  generalize (L a b).isSome = u
  generalize (L b a).isSome = v
  cases u <;> cases v <;> decide
theorem r_sides_1 (h : ti_A n t P L St f) (hT : ti_T t f tb) {a b : Nat} (ha : a < n) (hb : b < n) : r_sides t tb (nI a) (nI b) = 1 ↔ eB L a b = true ∧ iB L a b = false := by
  rw [r_sides_eq h hT ha hb]
  unfold eB iB
  generalize (L a b).isSome = u
  generalize (L b a).isSome = v
  cases u <;> cases v <;> decide
theorem r_sides_2 (h : ti_A n t P L St f) (hT : ti_T t f tb) {a b : Nat} (ha : a < n) (hb : b < n) : r_sides t tb (nI a) (nI b) = 2 ↔ iB L a b = true := by
  rw [r_sides_eq h hT ha hb]
  unfold iB
  generalize (L a b).isSome = u
  generalize (L b a).isSome = v
  cases u <;> cases v <;> decide
theorem iB_some {L : Nat → Nat → Option Nat} {a b : Nat} (h : iB L a b = true) : ∃ c d, L a b = some c ∧ L b a = some d := by
  unfold iB at h
  cases e1 : L a b with
  | none => rw [e1] at h; cases h
  | some c =>
    cases e2 : L b a with
    | none => rw [e1, e2] at h; cases h
    | some d => exact ⟨c, d, rfl, rfl⟩
theorem uB_f {P : Nat → g_P} {L : Nat → Nat → Option Nat} {a b : Nat} (h : iB L a b = false) : uB P L a b = false := by
  unfold iB at h
  unfold uB
  cases e1 : L a b with
  | none => rfl
  | some c =>
    cases e2 : L b a with
    | none => rfl
    | some d => rw [e1, e2] at h; cases h
theorem tB_f {P : Nat → g_P} {L : Nat → Nat → Option Nat} {St : Nat → Nat → Bool} {a b : Nat} (h : iB L a b = false) : tB P L St a b = false := by
  unfold iB at h
  unfold tB
  cases e1 : L a b with
  | none => rfl
  | some c =>
    cases e2 : L b a with
    | none => rfl
    | some d => rw [e1, e2] at h; cases h
theorem gW_pos {a b c d : g_P} (h : 0 < gO a b c) : gW a b c d = decide (0 < gD a b c d) := by
  unfold gW; rw [if_neg (by omega)]
theorem gW_swap {a b c d : g_P} (h : 0 < gO b a d) : gW a b d c = decide (0 < gD a b c d) := by
  have s := gO_swap b a d
  unfold gW; rw [if_pos (by omega)]
  have e : gD a b d c = - gD a b c d := by unfold gD gO; grind
  rw [e]
  by_cases q : 0 < gD a b c d
  · rw [decide_eq_true q]; exact decide_eq_true (by omega)
  · rw [decide_eq_false q]; exact decide_eq_false (by omega)
theorem m_unfair_eq (h : ti_A n t P L St f) (hX : ti_X n P xs ys) (hL : ti_L L lf) {a b : Nat} (ha : a < n) (hb : b < n) : m_isUnfair xs ys lf (nI a) (nI b) = uB P L a b := by
  have hn := h.n17
  unfold m_isUnfair
  rw [m_inner_eq h hL (by omega) (by omega)]
  cases e : iB L a b with
  | false => rw [uB_f e]; rfl
  | true =>
    obtain ⟨c, d, e1, e2⟩ := iB_some e
    have hc := (h.lt e1).2.2
    have hd := (h.lt e2).2.2
    rw [if_pos rfl, m_left_eq hL (by omega) (by omega), m_left_eq hL (by omega) (by omega), e1, e2]
    show m_circleHolds xs ys (nI a) (nI b) (nI c) (m_xOf xs (nI d)) (m_xOf ys (nI d)) = _
    rw [m_xOf_nI (by omega), m_xOf_nI (by omega), (hX d hd).1, (hX d hd).2, m_circle_eq hX hn h.sq ha hb hc (h.sq d hd), gW_pos (h.ok.tri _ _ _ e1).2.2.2.1]
    unfold uB; rw [e1, e2]
theorem r_unfair_eq (h : ti_A n t P L St f) (hX : ti_X n P xr yr) (hT : ti_T t f tb) {a b : Nat} (ha : a < n) (hb : b < n) : r_isUnfair t xr yr tb (nI a) (nI b) = uB P L a b := by
  have hn := h.n17
  unfold r_isUnfair
  cases e : iB L a b with
  | false =>
    rw [if_neg (fun q => by rw [(r_sides_2 h hT ha hb).mp q] at e; cases e), uB_f e]
  | true =>
    obtain ⟨c, d, e1, e2⟩ := iB_some e
    have hc := (h.lt e1).2.2
    have hd := (h.lt e2).2.2
    rw [if_pos ((r_sides_2 h hT ha hb).mpr e)]
    have u : uB P L a b = decide (0 < gD (P a) (P b) (P c) (P d)) := by unfold uB; rw [e1, e2]
    rw [u]
    rcases fr2 (h.R hT) ha hb e1 e2 with ⟨q1, q2⟩ | ⟨q1, q2⟩
    · rw [q1, q2, nI_clamp (by omega), (hX d hd).1, (hX d hd).2, r_within_eq hX hn h.sq ha hb hc (h.sq d hd), gW_pos (h.ok.tri _ _ _ e1).2.2.2.1]
    · rw [q1, q2, nI_clamp (by omega), (hX c hc).1, (hX c hc).2, r_within_eq hX hn h.sq ha hb hd (h.sq c hc), gW_swap (h.ok.tri _ _ _ e2).2.2.2.1]
theorem m_turnable_eq (h : ti_A n t P L St f) (hX : ti_X n P xs ys) (hL : ti_L L lf) (hS : ti_S St sy) {a b : Nat} (ha : a < n) (hb : b < n) : m_isTurnable n xs ys lf sy (nI a) (nI b) = tB P L St a b := by
  have hn := h.n17
  unfold m_isTurnable
  rw [m_inner_eq h hL (by omega) (by omega), m_stay_eq hn hS ha hb]
  cases e : iB L a b with
  | false => rw [tB_f e]; rfl
  | true =>
    obtain ⟨c, d, e1, e2⟩ := iB_some e
    have hc := (h.lt e1).2.2
    have hd := (h.lt e2).2.2
    have u : tB P L St a b = (!St a b && decide (gO (P c) (P d) (P a) < 0) && decide (0 < gO (P c) (P d) (P b))) := by unfold tB; rw [e1, e2]
    rw [u, if_pos rfl]
    cases es : St a b with
    | true => rfl
    | false =>
      rw [if_neg (by decide), m_left_eq hL (by omega) (by omega), m_left_eq hL (by omega) (by omega), e1, e2]
      show (if 0 ≤ m_turn xs ys (nI c) (nI d) (m_xOf xs (nI a)) (m_xOf ys (nI a)) then false else (if m_turn xs ys (nI c) (nI d) (m_xOf xs (nI b)) (m_xOf ys (nI b)) ≤ 0 then false else true)) = _
      rw [m_xOf_nI (by omega), m_xOf_nI (by omega), m_xOf_nI (by omega), m_xOf_nI (by omega), (hX a ha).1, (hX a ha).2, (hX b hb).1, (hX b hb).2, m_turn_eq hX hn hc hd, m_turn_eq hX hn hc hd]
      have b1 := gO_bd (h.sq c hc) (h.sq d hd) (h.sq a ha)
      have b2 := gO_bd (h.sq c hc) (h.sq d hd) (h.sq b hb)
      have i1 : 0 ≤ iN (gO (P c) (P d) (P a)) ↔ 0 ≤ gO (P c) (P d) (P a) := iN_le (a := 0) (by decide) (by omega)
      have i2 : iN (gO (P c) (P d) (P b)) ≤ 0 ↔ gO (P c) (P d) (P b) ≤ 0 := iN_le (b := 0) (by omega) (by decide)
      by_cases q1 : 0 ≤ gO (P c) (P d) (P a)
      · rw [if_pos (i1.mpr q1), decide_eq_false (p := gO (P c) (P d) (P a) < 0) (by omega)]; rfl
      · rw [if_neg (fun z => q1 (i1.mp z)), decide_eq_true (p := gO (P c) (P d) (P a) < 0) (by omega)]
        by_cases q2 : gO (P c) (P d) (P b) ≤ 0
        · rw [if_pos (i2.mpr q2), decide_eq_false (p := 0 < gO (P c) (P d) (P b)) (by omega)]; rfl
        · rw [if_neg (fun z => q2 (i2.mp z)), decide_eq_true (p := 0 < gO (P c) (P d) (P b)) (by omega)]; rfl
theorem r_opp_eq {p q : Int} (hp : p.natAbs < 2 ^ 31) (hq : q.natAbs < 2 ^ 31) : r_opp (iN p) (iN q) = (decide (0 < p) && decide (q < 0) || decide (p < 0) && decide (0 < q)) := by
  have i1 : iN p ≤ 0 ↔ p ≤ 0 := iN_le (b := 0) hp (by decide)
  have i2 : 0 ≤ iN p ↔ 0 ≤ p := iN_le (a := 0) (by decide) hp
  have i3 : iN q ≤ 0 ↔ q ≤ 0 := iN_le (b := 0) hq (by decide)
  have i4 : iN q < 0 ↔ q < 0 := iN_lt (b := 0) hq (by decide)
  unfold r_opp
  simp only [i1, i2, i3, i4]
  by_cases a1 : p ≤ 0
  · rw [if_pos a1, decide_eq_false (p := 0 < p) (by omega)]
    by_cases a2 : 0 ≤ p
    · rw [if_pos a2, decide_eq_false (p := p < 0) (by omega)]; rfl
    · rw [if_neg a2, decide_eq_true (p := p < 0) (by omega)]
      by_cases a3 : q ≤ 0
      · rw [if_pos a3, decide_eq_false (p := 0 < q) (by omega)]; rfl
      · rw [if_neg a3, decide_eq_true (p := 0 < q) (by omega)]; rfl
  · rw [if_neg a1, decide_eq_true (p := 0 < p) (by omega), decide_eq_false (p := p < 0) (by omega)]
    by_cases a4 : q < 0
    · rw [if_pos a4, decide_eq_true a4]; rfl
    · rw [if_neg a4, if_pos (by omega), decide_eq_false a4]; rfl
theorem r_canFlip_eq (h : ti_A n t P L St f) (hX : ti_X n P xr yr) (hT : ti_T t f tb) (hG : ti_G St sg) {a b : Nat} (ha : a < n) (hb : b < n) : r_canFlip t xr yr tb sg (nI a) (nI b) = tB P L St a b := by
  have hn := h.n17
  unfold r_canFlip
  cases e : iB L a b with
  | false =>
    rw [if_neg (fun q => by rw [(r_sides_2 h hT ha hb).mp q] at e; cases e), tB_f e]
  | true =>
    obtain ⟨c, d, e1, e2⟩ := iB_some e
    have hc := (h.lt e1).2.2
    have hd := (h.lt e2).2.2
    have p1 := (h.ok.tri _ _ _ e1).2.2.2.1
    have p2 := (h.ok.tri _ _ _ e2).2.2.2.1
    rw [if_pos ((r_sides_2 h hT ha hb).mpr e), nI_clamp (by omega), nI_clamp (by omega), hG a b (by omega) (by omega)]
    have u : tB P L St a b = (!St a b && decide (gO (P c) (P d) (P a) < 0) && decide (0 < gO (P c) (P d) (P b))) := by unfold tB; rw [e1, e2]
    rw [u]
    cases es : St a b with
    | true => rfl
    | false =>
      rw [if_pos (by rfl), (hX a ha).1, (hX a ha).2, (hX b hb).1, (hX b hb).2]
      have b1 := gO_bd (h.sq c hc) (h.sq d hd) (h.sq a ha)
      have b2 := gO_bd (h.sq c hc) (h.sq d hd) (h.sq b hb)
      have s1 := gO_swap (P c) (P d) (P a)
      have s2 := gO_swap (P c) (P d) (P b)
      have df : gO (P c) (P d) (P b) - gO (P c) (P d) (P a) = gO (P a) (P b) (P c) + gO (P b) (P a) (P d) := by unfold gO; grind
      have fin : (decide (0 < gO (P c) (P d) (P a)) && decide (gO (P c) (P d) (P b) < 0) || decide (gO (P c) (P d) (P a) < 0) && decide (0 < gO (P c) (P d) (P b))) = (!false && decide (gO (P c) (P d) (P a) < 0) && decide (0 < gO (P c) (P d) (P b))) := by
        by_cases q1 : gO (P c) (P d) (P a) < 0
        · rw [decide_eq_true q1, decide_eq_false (p := 0 < gO (P c) (P d) (P a)) (by omega)]; rfl
        · rw [decide_eq_false q1, decide_eq_false (p := gO (P c) (P d) (P b) < 0) (by omega), Bool.and_false]; rfl
      rcases fr2 (h.R hT) ha hb e1 e2 with ⟨q1, q2⟩ | ⟨q1, q2⟩
      · rw [q1, q2, r_area_eq hX hn hc hd, r_area_eq hX hn hc hd, r_opp_eq (by omega) (by omega)]
        exact fin
      · rw [q1, q2, r_area_eq hX hn hd hc, r_area_eq hX hn hd hc, r_opp_eq (by omega) (by omega), s1, s2, ← fin]
        rw [Bool.or_comm]
        congr 1
        · congr 1
          · rw [decide_eq_decide]; omega
          · rw [decide_eq_decide]; omega
        · congr 1
          · rw [decide_eq_decide]; omega
          · rw [decide_eq_decide]; omega
end Q

