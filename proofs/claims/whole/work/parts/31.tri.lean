/-! triangulations: L a b is the third corner of the triangle on the left of the way from a to b -/
def t_Tri (n : Nat) (P : Nat → g_P) (L : Nat → Nat → Option Nat) : Prop := ∀ a b c : Nat, L a b = some c → a < n ∧ b < n ∧ c < n ∧ 0 < gO (P a) (P b) (P c) ∧ L b c = some a
def t_Pos (n : Nat) (P : Nat → g_P) : Prop := (∀ i, i < n → 0 ≤ (P i).1 ∧ (P i).1 ≤ 30 ∧ 0 ≤ (P i).2 ∧ (P i).2 ≤ 30) ∧ ∀ i j, i < n → j < n → P i = P j → i = j
def t_Gen (n : Nat) (P : Nat → g_P) (Q : g_P) : Prop := ∀ a b, a < n → b < n → a ≠ b → gO (g_S (P a)) (g_S (P b)) Q ≠ 0
def t_In (P : Nat → g_P) (L : Nat → Nat → Option Nat) (a b c : Nat) (Q : g_P) : Prop := L a b = some c ∧ gIn (g_S (P a)) (g_S (P b)) (g_S (P c)) Q
def t_Sq (Q : g_P) : Prop := 0 < Q.1 ∧ Q.1 < 30 * gK ∧ 0 < Q.2 ∧ Q.2 < 30 * gK
def t_Ex (n : Nat) (P : Nat → g_P) (L : Nat → Nat → Option Nat) : Prop := ∀ Q, t_Sq Q → t_Gen n P Q → ∃ a b c, t_In P L a b c Q
def t_Un (n : Nat) (P : Nat → g_P) (L : Nat → Nat → Option Nat) : Prop := ∀ Q, t_Gen n P Q → ∀ a b c a' b' c', t_In P L a b c Q → t_In P L a' b' c' Q → (a' = a ∧ b' = b) ∨ (a' = b ∧ b' = c) ∨ (a' = c ∧ b' = a)
theorem t_Tri.rot {n : Nat} {P : Nat → g_P} {L : Nat → Nat → Option Nat} (h : t_Tri n P L) {a b c : Nat} (e : L a b = some c) : L b c = some a := (h a b c e).2.2.2.2
theorem t_Tri.rot2 {n : Nat} {P : Nat → g_P} {L : Nat → Nat → Option Nat} (h : t_Tri n P L) {a b c : Nat} (e : L a b = some c) : L c a = some b := h.rot (h.rot e)
theorem t_In.rot {n : Nat} {P : Nat → g_P} {L : Nat → Nat → Option Nat} (h : t_Tri n P L) {a b c : Nat} {Q : g_P} (e : t_In P L a b c Q) : t_In P L b c a Q := ⟨h.rot e.1, gIn_rot e.2⟩
theorem t_ne {P : Nat → g_P} {a b c : Nat} (h : 0 < gO (P a) (P b) (P c)) : a ≠ b ∧ b ≠ c ∧ c ≠ a := by
  refine ⟨?_, ?_, ?_⟩
  · intro e; subst e; rw [gO_aa] at h; omega
  · intro e; subst e; rw [gO_ab] at h; omega
  · intro e; subst e; rw [gO_aba] at h; omega
/-- the flip of the edge between a and b to c and d -/
def t_flip (L : Nat → Nat → Option Nat) (a b c d : Nat) : Nat → Nat → Option Nat := fun x y =>
  if x = a ∧ y = b then none else if x = b ∧ y = a then none else
  if x = d ∧ y = c then some a else if x = c ∧ y = a then some d else if x = a ∧ y = d then some c else
  if x = c ∧ y = d then some b else if x = d ∧ y = b then some c else if x = b ∧ y = c then some d else L x y
/-- what is asked of the edge between a and b -/
def t_Quad (n : Nat) (P : Nat → g_P) (L : Nat → Nat → Option Nat) (a b c d : Nat) : Prop := L a b = some c ∧ L b a = some d ∧ gO (P c) (P d) (P a) < 0 ∧ 0 < gO (P c) (P d) (P b)
theorem t_flip_tri {n : Nat} {P : Nat → g_P} {L : Nat → Nat → Option Nat} {a b c d : Nat} (h : t_Tri n P L) (q : t_Quad n P L a b c d) (h1 : L c d = none) (h2 : L d c = none) : t_Tri n P (t_flip L a b c d) := by
  obtain ⟨qab, qba, q1, q2⟩ := q
  obtain ⟨ha, hb, hc, hp, e1⟩ := h a b c qab
  obtain ⟨-, -, hd, hp2, e2⟩ := h b a d qba
  have e3 := h.rot2 qab
  have e4 := h.rot2 qba
  obtain ⟨n1, n2, n3⟩ := t_ne hp
  obtain ⟨n4, n5, n6⟩ := t_ne hp2
  obtain ⟨n7, -, -⟩ := t_ne q2
  intro x y z hz
  by_cases k1 : x = a ∧ y = b
  · simp [t_flip, k1] at hz
  by_cases k2 : x = b ∧ y = a
  · obtain ⟨rfl, rfl⟩ := k2
    simp [t_flip, n1, n1.symm] at hz
  by_cases k3 : x = d ∧ y = c
  · obtain ⟨rfl, rfl⟩ := k3
    have : z = a := by simp [t_flip, n2, n3, n5, n6, n7, n6.symm, n3.symm, n5.symm, n2.symm, n7.symm] at hz; omega
    subst this
    refine ⟨hd, hc, ha, ?_, ?_⟩
    · rw [gO_swap]; omega
    · simp [t_flip, n1, n1.symm, n2, n3, n5, n6, n7, n6.symm, n3.symm, n5.symm, n2.symm, n7.symm]
  by_cases k4 : x = c ∧ y = a
  · obtain ⟨rfl, rfl⟩ := k4
    have : z = d := by simp [t_flip, n1, n1.symm, n2, n3, n5, n6, n7, n6.symm, n3.symm, n5.symm, n2.symm, n7.symm] at hz; omega
    subst this
    refine ⟨hc, ha, hd, ?_, ?_⟩
    · have := gO_swap2 (P x) (P y) (P z); omega
    · simp [t_flip, n1, n1.symm, n2, n3, n5, n6, n7, n6.symm, n3.symm, n5.symm, n2.symm, n7.symm]
  by_cases k5 : x = a ∧ y = d
  · obtain ⟨rfl, rfl⟩ := k5
    have : z = c := by simp [t_flip, n1, n1.symm, n2, n3, n5, n6, n7, n6.symm, n3.symm, n5.symm, n2.symm, n7.symm] at hz; omega
    subst this
    refine ⟨ha, hd, hc, ?_, ?_⟩
    · have := gO_swap3 (P z) (P y) (P x); omega
    · simp [t_flip, n1, n1.symm, n2, n3, n5, n6, n7, n6.symm, n3.symm, n5.symm, n2.symm, n7.symm]
  by_cases k6 : x = c ∧ y = d
  · obtain ⟨rfl, rfl⟩ := k6
    have : z = b := by simp [t_flip, n1, n1.symm, n2, n3, n5, n6, n7, n6.symm, n3.symm, n5.symm, n2.symm, n7.symm] at hz; omega
    subst this
    refine ⟨hc, hd, hb, q2, ?_⟩
    simp [t_flip, n1, n1.symm, n2, n3, n5, n6, n7, n6.symm, n3.symm, n5.symm, n2.symm, n7.symm]
  by_cases k7 : x = d ∧ y = b
  · obtain ⟨rfl, rfl⟩ := k7
    have : z = c := by simp [t_flip, n1, n1.symm, n2, n3, n5, n6, n7, n6.symm, n3.symm, n5.symm, n2.symm, n7.symm] at hz; omega
    subst this
    refine ⟨hd, hb, hc, ?_, ?_⟩
    · rw [gO_rot]; exact q2
    · simp [t_flip, n1, n1.symm, n2, n3, n5, n6, n7, n6.symm, n3.symm, n5.symm, n2.symm, n7.symm]
  by_cases k8 : x = b ∧ y = c
  · obtain ⟨rfl, rfl⟩ := k8
    have : z = d := by simp [t_flip, n1, n1.symm, n2, n3, n5, n6, n7, n6.symm, n3.symm, n5.symm, n2.symm, n7.symm] at hz; omega
    subst this
    refine ⟨hb, hc, hd, ?_, ?_⟩
    · have := gO_rot (P x) (P y) (P z); omega
    · simp [t_flip, n1, n1.symm, n2, n3, n5, n6, n7, n6.symm, n3.symm, n5.symm, n2.symm, n7.symm]
  have hL : L x y = some z := by
    unfold t_flip at hz
    rw [if_neg k1, if_neg k2, if_neg k3, if_neg k4, if_neg k5, if_neg k6, if_neg k7, if_neg k8] at hz
    exact hz
  obtain ⟨hx, hy, hz', hpz, er⟩ := h x y z hL
  refine ⟨hx, hy, hz', hpz, ?_⟩
  have m1 : ¬ (y = a ∧ z = b) := by rintro ⟨rfl, rfl⟩; rw [qab] at er; exact k4 ⟨(Option.some.inj er).symm, rfl⟩
  have m2 : ¬ (y = b ∧ z = a) := by rintro ⟨rfl, rfl⟩; rw [qba] at er; exact k7 ⟨(Option.some.inj er).symm, rfl⟩
  have m3 : ¬ (y = d ∧ z = c) := by rintro ⟨rfl, rfl⟩; rw [h2] at er; cases er
  have m4 : ¬ (y = c ∧ z = a) := by rintro ⟨rfl, rfl⟩; rw [e3] at er; exact k8 ⟨(Option.some.inj er).symm, rfl⟩
  have m5 : ¬ (y = a ∧ z = d) := by rintro ⟨rfl, rfl⟩; rw [e2] at er; exact k2 ⟨(Option.some.inj er).symm, rfl⟩
  have m6 : ¬ (y = c ∧ z = d) := by rintro ⟨rfl, rfl⟩; rw [h1] at er; cases er
  have m7 : ¬ (y = d ∧ z = b) := by rintro ⟨rfl, rfl⟩; rw [e4] at er; exact k5 ⟨(Option.some.inj er).symm, rfl⟩
  have m8 : ¬ (y = b ∧ z = c) := by rintro ⟨rfl, rfl⟩; rw [e1] at er; exact k1 ⟨(Option.some.inj er).symm, rfl⟩
  unfold t_flip
  rw [if_neg m1, if_neg m2, if_neg m3, if_neg m4, if_neg m5, if_neg m6, if_neg m7, if_neg m8]
  exact er
