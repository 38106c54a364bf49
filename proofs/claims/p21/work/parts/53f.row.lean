/-! one row that has the place -/
theorem sc_perm {a b c : Nat} (ha : a < 32) (hb : b < 32) (hc : c < 32) : (sc a b c / 32 / 32 = a ∧ sc a b c / 32 % 32 = b ∧ sc a b c % 32 = c) ∨ (sc a b c / 32 / 32 = a ∧ sc a b c / 32 % 32 = c ∧ sc a b c % 32 = b) ∨ (sc a b c / 32 / 32 = b ∧ sc a b c / 32 % 32 = a ∧ sc a b c % 32 = c) ∨ (sc a b c / 32 / 32 = b ∧ sc a b c / 32 % 32 = c ∧ sc a b c % 32 = a) ∨ (sc a b c / 32 / 32 = c ∧ sc a b c / 32 % 32 = a ∧ sc a b c % 32 = b) ∨ (sc a b c / 32 / 32 = c ∧ sc a b c / 32 % 32 = b ∧ sc a b c % 32 = a) := by
  obtain ⟨d0, d1, d2⟩ := sc_d ha hb hc
  rw [d0, d1, d2]
  rcases Nat.le_total a b with u | u <;> rcases Nat.le_total b c with v | v <;> rcases Nat.le_total a c with w | w
  · exact Or.inl ⟨by omega, by omega, by omega⟩
  · exact Or.inl ⟨by omega, by omega, by omega⟩
  · exact Or.inr (Or.inl ⟨by omega, by omega, by omega⟩)
  · exact Or.inr (Or.inr (Or.inr (Or.inr (Or.inl ⟨by omega, by omega, by omega⟩))))
  · exact Or.inr (Or.inr (Or.inl ⟨by omega, by omega, by omega⟩))
  · exact Or.inr (Or.inr (Or.inr (Or.inl ⟨by omega, by omega, by omega⟩)))
  · exact Or.inr (Or.inr (Or.inr (Or.inr (Or.inr ⟨by omega, by omega, by omega⟩))))
  · exact Or.inr (Or.inr (Or.inr (Or.inr (Or.inr ⟨by omega, by omega, by omega⟩))))
theorem cut_swap {St : Nat → Nat → Bool} (hs : ∀ i j, St i j = St j i) (n a b : Nat) : cutSt St n b a = cutSt St n a b := by
  unfold cutSt
  rw [hs b a]
  by_cases e : St a b = true
  · rw [if_pos e, if_pos e]
    funext i j
    unfold st_set
    by_cases w1 : (i = b ∧ j = n) ∨ (i = n ∧ j = b) <;> by_cases w2 : (i = a ∧ j = n) ∨ (i = n ∧ j = a) <;> by_cases w3 : (i = a ∧ j = b) ∨ (i = b ∧ j = a)
    all_goals
      have w3' : ((i = b ∧ j = a) ∨ (i = a ∧ j = b)) = ((i = a ∧ j = b) ∨ (i = b ∧ j = a)) := propext Or.comm
      simp only [w3']
      simp only [w1, w2, w3, if_true, if_false]
  · rw [if_neg e, if_neg e]
theorem sc_n {x y z w n : Nat} (hx : x < n) (hy : y < n) (hz : z < n) (hw : w < n) (hn : n < 32) (h : ¬ ((x = z ∧ y = w) ∨ (x = w ∧ y = z))) : sc x y n ≠ sc z w n := fun e => by
  have := sc_inj (by omega) (by omega) (by omega) (by omega) (by omega) (by omega) e
  omega
section RW
variable {K : Nat → Prop} {St : Nat → Nat → Bool} {st : s_St} {r : Nat → Int32} {n d0 d1 d2 a b c : Nat} {on : Int32}
theorem run_in (h : sv_B K St st) (e0 : r 0 = nI d0) (e1 : r 1 = nI d1) (e2 : r 2 = nI d2) (h0 : d0 < n) (h1 : d1 < n) (h2 : d2 < n) (n01 : d0 ≠ d1) (n12 : d1 ≠ d2) (n20 : d2 ≠ d0) (hn : n < 17) (k0 : ¬ K (sc d0 d1 n)) (k1 : ¬ K (sc d1 d2 n)) (k2 : ¬ K (sc d2 d0 n)) : (s_bK r 3 (nI n) st 3).1 = st.1 + 3 ∧ sv_B (fun v => ((K v ∨ v = sc d0 d1 n) ∨ v = sc d1 d2 n) ∨ v = sc d2 d0 n) St (s_bK r 3 (nI n) st 3) := by
  obtain ⟨c1, b1⟩ := bK_put (k := 0) (r := r) (on := 3) (n := n) (st := st) h (by decide) e0 e1 (by omega) (by omega) (by omega) k0
  obtain ⟨c2, b2⟩ := bK_put b1 (by decide) e1 e2 (by omega) (by omega) (by omega) (fun w => w.elim k1 (fun w => sc_n h1 h2 h0 h1 (by omega) (by omega) w))
  obtain ⟨c3, b3⟩ := bK_put b2 (by decide) e2 e0 (by omega) (by omega) (by omega) (fun w => w.elim (fun w => w.elim k2 (fun w => sc_n h2 h0 h0 h1 (by omega) (by omega) w)) (fun w => sc_n h2 h0 h1 h2 (by omega) (by omega) w))
  exact ⟨by rw [c3, c2, c1]; rfl, b3⟩
theorem run_0 (h : sv_B K St st) (e0 : r 0 = nI d0) (e1 : r 1 = nI d1) (e2 : r 2 = nI d2) (h0 : d0 < n) (h1 : d1 < n) (h2 : d2 < n) (n01 : d0 ≠ d1) (n12 : d1 ≠ d2) (n20 : d2 ≠ d0) (hn : n < 17) (hs : ∀ i j, St i j = St j i) (hno : St d0 d1 = true → ∀ i, i < 17 → St i n = false) (k1 : ¬ K (sc d1 d2 n)) (k2 : ¬ K (sc d2 d0 n)) : (s_bK r 0 (nI n) st 3).1 = st.1 + 2 ∧ sv_B (fun v => (K v ∨ v = sc d1 d2 n) ∨ v = sc d2 d0 n) (cutSt St n d0 d1) (s_bK r 0 (nI n) st 3) := by
  obtain ⟨c1, b1⟩ := bK_cut (k := 0) (r := r) (on := 0) (n := n) (st := st) h rfl e0 e1 hs hn h0 h1 n01 hno
  obtain ⟨c2, b2⟩ := bK_put b1 (by decide) e1 e2 (by omega) (by omega) (by omega) k1
  obtain ⟨c3, b3⟩ := bK_put b2 (by decide) e2 e0 (by omega) (by omega) (by omega) (fun w => w.elim k2 (fun w => sc_n h2 h0 h1 h2 (by omega) (by omega) w))
  exact ⟨by rw [c3, c2, c1]; rfl, b3⟩
theorem run_1 (h : sv_B K St st) (e0 : r 0 = nI d0) (e1 : r 1 = nI d1) (e2 : r 2 = nI d2) (h0 : d0 < n) (h1 : d1 < n) (h2 : d2 < n) (n01 : d0 ≠ d1) (n12 : d1 ≠ d2) (n20 : d2 ≠ d0) (hn : n < 17) (hs : ∀ i j, St i j = St j i) (hno : St d1 d2 = true → ∀ i, i < 17 → St i n = false) (k0 : ¬ K (sc d0 d1 n)) (k2 : ¬ K (sc d2 d0 n)) : (s_bK r 1 (nI n) st 3).1 = st.1 + 2 ∧ sv_B (fun v => (K v ∨ v = sc d0 d1 n) ∨ v = sc d2 d0 n) (cutSt St n d1 d2) (s_bK r 1 (nI n) st 3) := by
  obtain ⟨c1, b1⟩ := bK_put (k := 0) (r := r) (on := 1) (n := n) (st := st) h (by decide) e0 e1 (by omega) (by omega) (by omega) k0
  obtain ⟨c2, b2⟩ := bK_cut b1 rfl e1 e2 hs hn h1 h2 n12 hno
  obtain ⟨c3, b3⟩ := bK_put b2 (by decide) e2 e0 (by omega) (by omega) (by omega) (fun w => w.elim k2 (fun w => sc_n h2 h0 h0 h1 (by omega) (by omega) w))
  exact ⟨by rw [c3, c2, c1]; rfl, b3⟩
theorem run_2 (h : sv_B K St st) (e0 : r 0 = nI d0) (e1 : r 1 = nI d1) (e2 : r 2 = nI d2) (h0 : d0 < n) (h1 : d1 < n) (h2 : d2 < n) (n01 : d0 ≠ d1) (n12 : d1 ≠ d2) (n20 : d2 ≠ d0) (hn : n < 17) (hs : ∀ i j, St i j = St j i) (hno : St d2 d0 = true → ∀ i, i < 17 → St i n = false) (k0 : ¬ K (sc d0 d1 n)) (k1 : ¬ K (sc d1 d2 n)) : (s_bK r 2 (nI n) st 3).1 = st.1 + 2 ∧ sv_B (fun v => (K v ∨ v = sc d0 d1 n) ∨ v = sc d1 d2 n) (cutSt St n d2 d0) (s_bK r 2 (nI n) st 3) := by
  obtain ⟨c1, b1⟩ := bK_put (k := 0) (r := r) (on := 2) (n := n) (st := st) h (by decide) e0 e1 (by omega) (by omega) (by omega) k0
  obtain ⟨c2, b2⟩ := bK_put b1 (by decide) e1 e2 (by omega) (by omega) (by omega) (fun w => w.elim k1 (fun w => sc_n h1 h2 h0 h1 (by omega) (by omega) w))
  obtain ⟨c3, b3⟩ := bK_cut b2 rfl e2 e0 hs hn h2 h0 n20 hno
  exact ⟨by rw [c3, c2, c1]; rfl, b3⟩
/-- a row that has the place within -/
theorem row_in (h : sv_B K St st) (hz : K (sc a b c)) (hr : sr_z (sc a b c) r) (ha : a < n) (hb : b < n) (hc : c < n) (nab : a ≠ b) (nbc : b ≠ c) (nca : c ≠ a) (hn : n < 17) (k0 : ¬ K (sc a b n)) (k1 : ¬ K (sc b c n)) (k2 : ¬ K (sc c a n)) : (s_bK r 3 (nI n) (s_b1 r st) 3).1 = st.1 + 2 ∧ sv_B (fun v => (((K v ∧ v ≠ sc a b c) ∨ v = sc a b n) ∨ v = sc b c n) ∨ v = sc c a n) St (s_bK r 3 (nI n) (s_b1 r st) 3) := by
  obtain ⟨c1, b1⟩ := sv_b1 h hz hr
  obtain ⟨r0, r1, r2⟩ := hr
  have s1 := sc_swap a b n
  have s2 := sc_swap b c n
  have s3 := sc_swap c a n
  have k0' : ¬ K (sc b a n) := by rw [s1]; exact k0
  have k1' : ¬ K (sc c b n) := by rw [s2]; exact k1
  have k2' : ¬ K (sc a c n) := by rw [s3]; exact k2
  have fin : ∀ x y z : Nat, sc a b c / 32 / 32 = x → sc a b c / 32 % 32 = y → sc a b c % 32 = z → x < n → y < n → z < n → x ≠ y → y ≠ z → z ≠ x → ¬ K (sc x y n) → ¬ K (sc y z n) → ¬ K (sc z x n) → (∀ v, ((v = sc a b n ∨ v = sc b c n) ∨ v = sc c a n) ↔ ((v = sc x y n ∨ v = sc y z n) ∨ v = sc z x n)) → (s_bK r 3 (nI n) (s_b1 r st) 3).1 = st.1 + 2 ∧ sv_B (fun v => (((K v ∧ v ≠ sc a b c) ∨ v = sc a b n) ∨ v = sc b c n) ∨ v = sc c a n) St (s_bK r 3 (nI n) (s_b1 r st) 3) := by
    intro x y z q0 q1 q2 hx hy hz' nxy nyz nzx g0 g1 g2 e
    rw [q0] at r0
    rw [q1] at r1
    rw [q2] at r2
    obtain ⟨c2, b2, b3⟩ := run_in b1 r0 r1 r2 hx hy hz' nxy nyz nzx hn (fun w => g0 w.1) (fun w => g1 w.1) (fun w => g2 w.1)
    refine ⟨by omega, b2.congr fun v => ?_, b3⟩
    have := e v
    constructor
    · rintro (((w | w) | w) | w)
      · exact Or.inl (Or.inl (Or.inl w))
      · have := this.mp (Or.inl (Or.inl w)); omega
      · have := this.mp (Or.inl (Or.inr w)); omega
      · have := this.mp (Or.inr w); omega
    · rintro (((w | w) | w) | w)
      · exact Or.inl (Or.inl (Or.inl w))
      · have := this.mpr (Or.inl (Or.inl w)); omega
      · have := this.mpr (Or.inl (Or.inr w)); omega
      · have := this.mpr (Or.inr w); omega
  rcases sc_perm (a := a) (b := b) (c := c) (by omega) (by omega) (by omega) with ⟨q0, q1, q2⟩ | ⟨q0, q1, q2⟩ | ⟨q0, q1, q2⟩ | ⟨q0, q1, q2⟩ | ⟨q0, q1, q2⟩ | ⟨q0, q1, q2⟩
  · exact fin a b c q0 q1 q2 ha hb hc nab nbc nca k0 k1 k2 (fun v => Iff.rfl)
  · exact fin a c b q0 q1 q2 ha hc hb (by omega) (by omega) (by omega) k2' k1' k0' (fun v => by rw [s1, s2, s3]; omega)
  · exact fin b a c q0 q1 q2 hb ha hc (by omega) (by omega) (by omega) k0' k2' k1' (fun v => by rw [s1, s2, s3]; omega)
  · exact fin b c a q0 q1 q2 hb hc ha (by omega) (by omega) (by omega) k1 k2 k0 (fun v => by omega)
  · exact fin c a b q0 q1 q2 hc ha hb (by omega) (by omega) (by omega) k2 k0 k1 (fun v => by omega)
  · exact fin c b a q0 q1 q2 hc hb ha (by omega) (by omega) (by omega) k1' k0' k2' (fun v => by rw [s1, s2, s3]; omega)
/-- a row that has the place on its edge a, b; on: which of its sides that is -/
theorem row_on (h : sv_B K St st) (hz : K (sc a b c)) (hr : sr_z (sc a b c) r) (ha : a < n) (hb : b < n) (hc : c < n) (nab : a ≠ b) (nbc : b ≠ c) (nca : c ≠ a) (hn : n < 17) (hs : ∀ i j, St i j = St j i) (hno : St a b = true → ∀ i, i < 17 → St i n = false) (k1 : ¬ K (sc a c n)) (k2 : ¬ K (sc b c n)) (hon : on = if sc a b c % 32 = c then 0 else if sc a b c / 32 / 32 = c then 1 else 2) : (s_bK r on (nI n) (s_b1 r st) 3).1 = st.1 + 1 ∧ sv_B (fun v => ((K v ∧ v ≠ sc a b c) ∨ v = sc a c n) ∨ v = sc b c n) (cutSt St n a b) (s_bK r on (nI n) (s_b1 r st) 3) := by
  obtain ⟨c1, b1⟩ := sv_b1 h hz hr
  obtain ⟨r0, r1, r2⟩ := hr
  have s1 := sc_swap a c n
  have s2 := sc_swap b c n
  have k1' : ¬ K (sc c a n) := by rw [s1]; exact k1
  have k2' : ¬ K (sc c b n) := by rw [s2]; exact k2
  have sw := cut_swap hs n a b
  have hno' : St b a = true → ∀ i, i < 17 → St i n = false := fun w => hno (by rw [hs]; exact w)
  have fin : ∀ {K1 K2 : Nat → Prop} {m : Nat} {S1 : Nat → Nat → Bool} {s9 : s_St}, s9.1 = (s_b1 r st).1 + 2 → sv_B K1 S1 s9 → S1 = cutSt St n a b → (∀ v, K2 v ↔ K1 v) → s9.1 = st.1 + 1 ∧ sv_B K2 (cutSt St n a b) s9 := by
    intro K1 K2 m S1 s9 e1 e2 e3 e4
    subst e3
    exact ⟨by omega, e2.1.congr e4, e2.2⟩
  rcases sc_perm (a := a) (b := b) (c := c) (by omega) (by omega) (by omega) with ⟨q0, q1, q2⟩ | ⟨q0, q1, q2⟩ | ⟨q0, q1, q2⟩ | ⟨q0, q1, q2⟩ | ⟨q0, q1, q2⟩ | ⟨q0, q1, q2⟩ <;> rw [q0] at r0 hon <;> rw [q1] at r1 <;> rw [q2] at r2 hon
  · rw [if_pos rfl] at hon; subst hon
    obtain ⟨c2, b2⟩ := run_0 b1 r0 r1 r2 ha hb hc nab nbc nca hn hs hno (fun w => k2 w.1) (fun w => k1' w.1)
    exact fin (m := 0) c2 b2 rfl (fun v => by rw [s1]; exact or_right_comm)
  · rw [if_neg nbc, if_neg (fun w => nca w.symm)] at hon; subst hon
    obtain ⟨c2, b2⟩ := run_2 b1 r0 r1 r2 ha hc hb (by omega) (by omega) (by omega) hn hs hno' (fun w => k1 w.1) (fun w => k2' w.1)
    exact fin (m := 0) c2 b2 sw (fun v => by rw [s2])
  · rw [if_pos rfl] at hon; subst hon
    obtain ⟨c2, b2⟩ := run_0 b1 r0 r1 r2 hb ha hc (by omega) (by omega) (by omega) hn hs hno' (fun w => k1 w.1) (fun w => k2' w.1)
    exact fin (m := 0) c2 b2 sw (fun v => by rw [s2])
  · rw [if_neg (fun w => nca w.symm), if_neg nbc] at hon; subst hon
    obtain ⟨c2, b2⟩ := run_2 b1 r0 r1 r2 hb hc ha (by omega) (by omega) (by omega) hn hs hno (fun w => k2 w.1) (fun w => k1' w.1)
    exact fin (m := 0) c2 b2 rfl (fun v => by rw [s1]; exact or_right_comm)
  · rw [if_neg nbc, if_pos rfl] at hon; subst hon
    obtain ⟨c2, b2⟩ := run_1 b1 r0 r1 r2 hc ha hb (by omega) (by omega) (by omega) hn hs hno (fun w => k1' w.1) (fun w => k2 w.1)
    exact fin (m := 0) c2 b2 rfl (fun v => by rw [s1])
  · rw [if_neg (fun w => nca w.symm), if_pos rfl] at hon; subst hon
    obtain ⟨c2, b2⟩ := run_1 b1 r0 r1 r2 hc hb ha (by omega) (by omega) (by omega) hn hs hno' (fun w => k2' w.1) (fun w => k1 w.1)
    exact fin (m := 0) c2 b2 sw (fun v => by rw [s2]; exact or_right_comm)
end RW
