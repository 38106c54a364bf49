/-! triangulations: L a b is the third corner of the triangle on the left of the way from a to b -/
def tr_Tri (n : Nat) (P : Nat → g_P) (L : Nat → Nat → Option Nat) : Prop := ∀ a b c : Nat, L a b = some c → a < n ∧ b < n ∧ c < n ∧ 0 < gO (P a) (P b) (P c) ∧ L b c = some a
def tr_Pos (n : Nat) (P : Nat → g_P) : Prop := (∀ i, i < n → 0 ≤ (P i).1 ∧ (P i).1 ≤ 30 ∧ 0 ≤ (P i).2 ∧ (P i).2 ≤ 30) ∧ ∀ i j, i < n → j < n → P i = P j → i = j
def tr_Gen (n : Nat) (P : Nat → g_P) (Q : g_P) : Prop := ∀ a b, a < n → b < n → a ≠ b → gO (g_S (P a)) (g_S (P b)) Q ≠ 0
def tr_In (P : Nat → g_P) (L : Nat → Nat → Option Nat) (a b c : Nat) (Q : g_P) : Prop := L a b = some c ∧ gIn (g_S (P a)) (g_S (P b)) (g_S (P c)) Q
def tr_Sq (Q : g_P) : Prop := 0 < Q.1 ∧ Q.1 < 30 * gK ∧ 0 < Q.2 ∧ Q.2 < 30 * gK
def tr_Ex (n : Nat) (P : Nat → g_P) (L : Nat → Nat → Option Nat) : Prop := ∀ Q, tr_Sq Q → tr_Gen n P Q → ∃ a b c, tr_In P L a b c Q
def tr_Un (n : Nat) (P : Nat → g_P) (L : Nat → Nat → Option Nat) : Prop := ∀ Q, tr_Gen n P Q → ∀ a b c a' b' c', tr_In P L a b c Q → tr_In P L a' b' c' Q → (a' = a ∧ b' = b) ∨ (a' = b ∧ b' = c) ∨ (a' = c ∧ b' = a)
theorem tr_Tri.rot {n : Nat} {P : Nat → g_P} {L : Nat → Nat → Option Nat} (h : tr_Tri n P L) {a b c : Nat} (e : L a b = some c) : L b c = some a := (h a b c e).2.2.2.2
theorem tr_Tri.rot2 {n : Nat} {P : Nat → g_P} {L : Nat → Nat → Option Nat} (h : tr_Tri n P L) {a b c : Nat} (e : L a b = some c) : L c a = some b := h.rot (h.rot e)
theorem tr_In.rot {n : Nat} {P : Nat → g_P} {L : Nat → Nat → Option Nat} (h : tr_Tri n P L) {a b c : Nat} {Q : g_P} (e : tr_In P L a b c Q) : tr_In P L b c a Q := ⟨h.rot e.1, gIn_rot e.2⟩
theorem tr_ne {P : Nat → g_P} {a b c : Nat} (h : 0 < gO (P a) (P b) (P c)) : a ≠ b ∧ b ≠ c ∧ c ≠ a := by
  refine ⟨?_, ?_, ?_⟩
  · intro e; subst e; rw [gO_aa] at h; omega
  · intro e; subst e; rw [gO_ab] at h; omega
  · intro e; subst e; rw [gO_aba] at h; omega
/-- the flip of the edge between a and b to c and d -/
def tr_flip (L : Nat → Nat → Option Nat) (a b c d : Nat) : Nat → Nat → Option Nat := fun x y =>
  if x = a ∧ y = b then none else if x = b ∧ y = a then none else
  if x = d ∧ y = c then some a else if x = c ∧ y = a then some d else if x = a ∧ y = d then some c else
  if x = c ∧ y = d then some b else if x = d ∧ y = b then some c else if x = b ∧ y = c then some d else L x y
/-- what is asked of the edge between a and b -/
def tr_Quad (n : Nat) (P : Nat → g_P) (L : Nat → Nat → Option Nat) (a b c d : Nat) : Prop := L a b = some c ∧ L b a = some d ∧ gO (P c) (P d) (P a) < 0 ∧ 0 < gO (P c) (P d) (P b)
theorem tr_flip_tri {n : Nat} {P : Nat → g_P} {L : Nat → Nat → Option Nat} {a b c d : Nat} (h : tr_Tri n P L) (q : tr_Quad n P L a b c d) (h1 : L c d = none) (h2 : L d c = none) : tr_Tri n P (tr_flip L a b c d) := by
  obtain ⟨qab, qba, q1, q2⟩ := q
  obtain ⟨ha, hb, hc, hp, e1⟩ := h a b c qab
  obtain ⟨-, -, hd, hp2, e2⟩ := h b a d qba
  have e3 := h.rot2 qab
  have e4 := h.rot2 qba
  obtain ⟨n1, n2, n3⟩ := tr_ne hp
  obtain ⟨n4, n5, n6⟩ := tr_ne hp2
  obtain ⟨n7, -, -⟩ := tr_ne q2
  intro x y z hz
  by_cases k1 : x = a ∧ y = b
  · simp [tr_flip, k1] at hz
  by_cases k2 : x = b ∧ y = a
  · obtain ⟨rfl, rfl⟩ := k2
    simp [tr_flip, n1, n1.symm] at hz
  by_cases k3 : x = d ∧ y = c
  · obtain ⟨rfl, rfl⟩ := k3
    have : z = a := by simp [tr_flip, n2, n3, n5, n6, n7, n6.symm, n3.symm, n5.symm, n2.symm, n7.symm] at hz; omega
    subst this
    refine ⟨hd, hc, ha, ?_, ?_⟩
    · rw [gO_swap]; omega
    · simp [tr_flip, n1, n1.symm, n2, n3, n5, n6, n7, n6.symm, n3.symm, n5.symm, n2.symm, n7.symm]
  by_cases k4 : x = c ∧ y = a
  · obtain ⟨rfl, rfl⟩ := k4
    have : z = d := by simp [tr_flip, n1, n1.symm, n2, n3, n5, n6, n7, n6.symm, n3.symm, n5.symm, n2.symm, n7.symm] at hz; omega
    subst this
    refine ⟨hc, ha, hd, ?_, ?_⟩
    · have := gO_swap2 (P x) (P y) (P z); omega
    · simp [tr_flip, n1, n1.symm, n2, n3, n5, n6, n7, n6.symm, n3.symm, n5.symm, n2.symm, n7.symm]
  by_cases k5 : x = a ∧ y = d
  · obtain ⟨rfl, rfl⟩ := k5
    have : z = c := by simp [tr_flip, n1, n1.symm, n2, n3, n5, n6, n7, n6.symm, n3.symm, n5.symm, n2.symm, n7.symm] at hz; omega
    subst this
    refine ⟨ha, hd, hc, ?_, ?_⟩
    · have := gO_swap3 (P z) (P y) (P x); omega
    · simp [tr_flip, n1, n1.symm, n2, n3, n5, n6, n7, n6.symm, n3.symm, n5.symm, n2.symm, n7.symm]
  by_cases k6 : x = c ∧ y = d
  · obtain ⟨rfl, rfl⟩ := k6
    have : z = b := by simp [tr_flip, n1, n1.symm, n2, n3, n5, n6, n7, n6.symm, n3.symm, n5.symm, n2.symm, n7.symm] at hz; omega
    subst this
    refine ⟨hc, hd, hb, q2, ?_⟩
    simp [tr_flip, n1, n1.symm, n2, n3, n5, n6, n7, n6.symm, n3.symm, n5.symm, n2.symm, n7.symm]
  by_cases k7 : x = d ∧ y = b
  · obtain ⟨rfl, rfl⟩ := k7
    have : z = c := by simp [tr_flip, n1, n1.symm, n2, n3, n5, n6, n7, n6.symm, n3.symm, n5.symm, n2.symm, n7.symm] at hz; omega
    subst this
    refine ⟨hd, hb, hc, ?_, ?_⟩
    · rw [gO_rot]; exact q2
    · simp [tr_flip, n1, n1.symm, n2, n3, n5, n6, n7, n6.symm, n3.symm, n5.symm, n2.symm, n7.symm]
  by_cases k8 : x = b ∧ y = c
  · obtain ⟨rfl, rfl⟩ := k8
    have : z = d := by simp [tr_flip, n1, n1.symm, n2, n3, n5, n6, n7, n6.symm, n3.symm, n5.symm, n2.symm, n7.symm] at hz; omega
    subst this
    refine ⟨hb, hc, hd, ?_, ?_⟩
    · have := gO_rot (P x) (P y) (P z); omega
    · simp [tr_flip, n1, n1.symm, n2, n3, n5, n6, n7, n6.symm, n3.symm, n5.symm, n2.symm, n7.symm]
  have hL : L x y = some z := by
    unfold tr_flip at hz
    rw [if_neg k1, if_neg k2, if_neg k3, if_neg k4, if_neg k5, if_neg k6, if_neg k7, if_neg k8] at hz
    exact hz
  obtain ⟨hx, hy, hz', hpz, er⟩ := h x y z hL
  refine ⟨hx, hy, hz', hpz, ?_⟩
  have m1 : ¬ (y = a ∧ z = b) := by rintro ⟨rfl, rfl⟩; rw [qab] at er; exact k4 ⟨(Option.some.inj er).symm, rfl⟩
  have m2 : ¬ (y = b ∧ z = a) := by rintro ⟨rfl, rfl⟩; rw [qba] at er; exact k7 ⟨(Option.some.inj er).symm, rfl⟩
  have m3 : ¬ (y = d ∧ z = c) := by rintro ⟨rfl, rfl⟩; rw [h2] at er; cases er
  have m4 : ¬ (y = c ∧ z = a) := by rintro ⟨rfl, rfl⟩; rw [e3] at er; exact k8 ⟨(Option.some.inj er).symm, rfl⟩
  have m5 : ¬ (y = a ∧ z = d) := by rintro ⟨rfl, rfl⟩; rw [e2] at er; exact k2 ⟨(Option.some.inj er).symm, rfl⟩
  have m6 : ¬ (y = c ∧ z = d) := by rintro ⟨rfl, rfl⟩; rw [h1] at er; cases er
  have m7 : ¬ (y = d ∧ z = b) := by rintro ⟨rfl, rfl⟩; rw [e4] at er; exact k5 ⟨(Option.some.inj er).symm, rfl⟩
  have m8 : ¬ (y = b ∧ z = c) := by rintro ⟨rfl, rfl⟩; rw [e1] at er; exact k1 ⟨(Option.some.inj er).symm, rfl⟩
  unfold tr_flip
  rw [if_neg m1, if_neg m2, if_neg m3, if_neg m4, if_neg m5, if_neg m6, if_neg m7, if_neg m8]
  exact er
/-! places beside a place -/
theorem g_crb {a b u : g_P} {U : Nat} (ha : 0 ≤ a.1 ∧ a.1 ≤ 30 ∧ 0 ≤ a.2 ∧ a.2 ≤ 30) (hb : 0 ≤ b.1 ∧ b.1 ≤ 30 ∧ 0 ≤ b.2 ∧ b.2 ≤ 30) (h1 : u.1.natAbs ≤ U) (h2 : u.2.natAbs ≤ U) : (g_cr a b u).natAbs ≤ 60 * U := by
  unfold g_cr
  have p1 := g_bd (x := b.1 - a.1) (y := u.2) (A := 30) (B := U) (by omega) h2
  have p2 := g_bd (x := b.2 - a.2) (y := u.1) (A := 30) (B := U) (by omega) h1
  omega
def g_v (s : Bool) : g_P := if s then (1, 31) else (-1, -31)
theorem g_v_b (s : Bool) : (g_v s).1.natAbs ≤ 31 ∧ (g_v s).2.natAbs ≤ 31 := by cases s <;> decide
theorem g_cr_v {a b : g_P} (s : Bool) (ha : 0 ≤ a.1 ∧ a.1 ≤ 30 ∧ 0 ≤ a.2 ∧ a.2 ≤ 30) (hb : 0 ≤ b.1 ∧ b.1 ≤ 30 ∧ 0 ≤ b.2 ∧ b.2 ≤ 30) (h : a ≠ b) : g_cr a b (g_v s) ≠ 0 := by
  intro e
  apply h
  unfold g_cr g_v at e
  obtain ⟨a1, a2⟩ := a
  obtain ⟨b1, b2⟩ := b
  cases s <;> simp at e ha hb <;> rw [Prod.mk.injEq] <;> omega
theorem g_v_pos (a b : g_P) (ha : 0 ≤ a.1 ∧ a.1 ≤ 30 ∧ 0 ≤ a.2 ∧ a.2 ≤ 30) (hb : 0 ≤ b.1 ∧ b.1 ≤ 30 ∧ 0 ≤ b.2 ∧ b.2 ≤ 30) (h : a ≠ b) : ∃ s, 0 < g_cr a b (g_v s) := by
  have h1 := g_cr_v true ha hb h
  rcases g_lg 0 (g_cr a b (g_v true)) with q | q
  · exact ⟨true, q⟩
  · refine ⟨false, ?_⟩
    unfold g_cr g_v at *
    simp at *
    omega
/-- greater than 0 at a place beside p, towards u first, then a little to one side -/
def g_lx (a b p u : g_P) (s : Bool) : Prop := 0 < gO a b p ∨ (gO a b p = 0 ∧ (0 < g_cr a b u ∨ (g_cr a b u = 0 ∧ 0 < g_cr a b (g_v s))))
theorem g_lx_pos {a b p u : g_P} {s : Bool} (ha : 0 ≤ a.1 ∧ a.1 ≤ 30 ∧ 0 ≤ a.2 ∧ a.2 ≤ 30) (hb : 0 ≤ b.1 ∧ b.1 ≤ 30 ∧ 0 ≤ b.2 ∧ b.2 ≤ 30) (h1 : u.1.natAbs ≤ 100) (h2 : u.2.natAbs ≤ 100) (h : g_lx a b p u s) : 0 < gO (g_S a) (g_S b) (g_G p u (g_v s)) := by
  rw [gO_G]
  have b1 := g_crb ha hb h1 h2
  have b2 := g_crb ha hb (g_v_b s).1 (g_v_b s).2
  exact Int.mul_pos gK_pos (g_lexP (by omega) (by omega) h)
theorem g_lx_neg {a b p u : g_P} {s : Bool} (ha : 0 ≤ a.1 ∧ a.1 ≤ 30 ∧ 0 ≤ a.2 ∧ a.2 ≤ 30) (hb : 0 ≤ b.1 ∧ b.1 ≤ 30 ∧ 0 ≤ b.2 ∧ b.2 ≤ 30) (h1 : u.1.natAbs ≤ 100) (h2 : u.2.natAbs ≤ 100) (hne : a ≠ b) (h : ¬ g_lx a b p u s) : gO (g_S a) (g_S b) (g_G p u (g_v s)) < 0 := by
  rw [gO_G]
  have b1 := g_crb ha hb h1 h2
  have b2 := g_crb ha hb (g_v_b s).1 (g_v_b s).2
  have n0 := g_cr_v s ha hb hne
  refine Int.mul_neg_of_pos_of_neg gK_pos (g_lexN (by omega) (by omega) ?_)
  unfold g_lx at h
  omega
theorem g_gen {n : Nat} {P : Nat → g_P} (hP : tr_Pos n P) {p u : g_P} (s : Bool) (h1 : u.1.natAbs ≤ 100) (h2 : u.2.natAbs ≤ 100) : tr_Gen n P (g_G p u (g_v s)) := by
  intro a b ha hb hab
  have hne : P a ≠ P b := fun e => hab (hP.2 a b ha hb e)
  by_cases h : g_lx (P a) (P b) p u s
  · have := g_lx_pos (hP.1 a ha) (hP.1 b hb) h1 h2 h
    omega
  · have := g_lx_neg (hP.1 a ha) (hP.1 b hb) h1 h2 hne h
    omega
theorem g_inG {n : Nat} {P : Nat → g_P} {L : Nat → Nat → Option Nat} (hP : tr_Pos n P) (h : tr_Tri n P L) {a b c : Nat} (e : L a b = some c) {p u : g_P} {s : Bool} (h1 : u.1.natAbs ≤ 100) (h2 : u.2.natAbs ≤ 100) (k1 : g_lx (P a) (P b) p u s) (k2 : g_lx (P b) (P c) p u s) (k3 : g_lx (P c) (P a) p u s) : tr_In P L a b c (g_G p u (g_v s)) := by
  obtain ⟨ha, hb, hc, -, -⟩ := h a b c e
  exact ⟨e, g_lx_pos (hP.1 a ha) (hP.1 b hb) h1 h2 k1, g_lx_pos (hP.1 b hb) (hP.1 c hc) h1 h2 k2, g_lx_pos (hP.1 c hc) (hP.1 a ha) h1 h2 k3⟩
/-- no edge lies across the one that is flipped -/
theorem tr_noedge {n : Nat} {P : Nat → g_P} {L : Nat → Nat → Option Nat} (hP : tr_Pos n P) (h : tr_Tri n P L) (hu : tr_Un n P L) {a b c d : Nat} (q : tr_Quad n P L a b c d) : L c d = none ∧ L d c = none := by
  obtain ⟨qab, qba, q1, q2⟩ := q
  obtain ⟨ha, hb, hc, hp, e1⟩ := h a b c qab
  obtain ⟨-, -, hd, hp2, e2⟩ := h b a d qba
  obtain ⟨n1, n2, n3⟩ := tr_ne hp
  obtain ⟨n4, n5, n6⟩ := tr_ne hp2
  obtain ⟨n7, -, -⟩ := tr_ne q2
  have e3 := h.rot2 qab
  have bc := hP.1 c hc
  have bd := hP.1 d hd
  have hcd : P c ≠ P d := fun e => n7 (hP.2 c d hc hd e)
  have b1 : ((P d).1 - (P c).1).natAbs ≤ 100 := by omega
  have b2 : ((P d).2 - (P c).2).natAbs ≤ 100 := by omega
  have key : ∀ s : Bool, tr_In P L c a b (g_G (P c) ((P d).1 - (P c).1, (P d).2 - (P c).2) (g_v s)) := by
    intro s
    refine g_inG hP h e3 b1 b2 (Or.inr ⟨gO_aba _ _, Or.inl ?_⟩) (Or.inl ?_) (Or.inr ⟨gO_ab _ _, Or.inl ?_⟩)
    · have := gO_swap2 (P c) (P d) (P a)
      show 0 < gO (P c) (P a) (P d)
      omega
    · exact hp
    · have e9 : g_cr (P b) (P c) ((P d).1 - (P c).1, (P d).2 - (P c).2) = gO (P b) (P c) (P d) := by unfold g_cr gO; grind
      rw [e9]
      have := gO_rot (P b) (P c) (P d)
      omega
  have fin : ∀ (s : Bool) (x y z : Nat), (x = c ∧ y = d ∨ x = d ∧ y = c) → tr_In P L x y z (g_G (P c) ((P d).1 - (P c).1, (P d).2 - (P c).2) (g_v s)) → False := by
    intro s x y z hxy hin
    have := hu _ (g_gen hP s b1 b2) c a b x y z (key s) hin
    omega
  constructor
  · cases hh : L c d with
    | none => rfl
    | some e =>
      exfalso
      obtain ⟨-, -, he, hpe, er⟩ := h c d e hh
      obtain ⟨s, hs⟩ := g_v_pos (P c) (P d) bc bd hcd
      refine fin s c d e (Or.inl ⟨rfl, rfl⟩) (g_inG hP h hh b1 b2 (Or.inr ⟨gO_aba _ _, Or.inr ⟨?_, hs⟩⟩) (Or.inl ?_) (Or.inr ⟨gO_ab _ _, Or.inl ?_⟩))
      · unfold g_cr; grind
      · rw [gO_rot]; exact hpe
      · have e9 : g_cr (P e) (P c) ((P d).1 - (P c).1, (P d).2 - (P c).2) = gO (P e) (P c) (P d) := by unfold g_cr gO; grind
        rw [e9]
        have := gO_rot (P e) (P c) (P d)
        omega
  · cases hh : L d c with
    | none => rfl
    | some e =>
      exfalso
      obtain ⟨-, -, he, hpe, er⟩ := h d c e hh
      obtain ⟨s, hs⟩ := g_v_pos (P d) (P c) bd bc hcd.symm
      refine fin s d c e (Or.inr ⟨rfl, rfl⟩) (g_inG hP h hh b1 b2 (Or.inr ⟨gO_ab _ _, Or.inr ⟨?_, hs⟩⟩) (Or.inr ⟨gO_aba _ _, Or.inl ?_⟩) (Or.inl ?_))
      · unfold g_cr; grind
      · have e9 : g_cr (P c) (P e) ((P d).1 - (P c).1, (P d).2 - (P c).2) = gO (P c) (P e) (P d) := by unfold g_cr gO; grind
        rw [e9]
        have := gO_rot (P d) (P c) (P e)
        omega
      · have := gO_rot (P e) (P d) (P c)
        have := gO_rot (P d) (P c) (P e)
        omega
