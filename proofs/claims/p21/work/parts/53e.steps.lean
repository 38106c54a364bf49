/-! the steps of building in the law's moor -/
theorem cut_L {St : Nat → Nat → Bool} {m n a b : Nat} {S : Nat → Nat → Int32} (h : sv_L (qS St) m S) (hs : ∀ i j, St i j = St j i) (hn : n < 17) (ha : a < n) (hb : b < n) (hab : a ≠ b) (hno : St a b = true → ∀ i, i < 17 → St i n = false) : sv_L (qS (cutSt St n a b)) (s_cutS m S (nI a) (nI b) (nI n)).1 (s_cutS m S (nI a) (nI b) (nI n)).2 := by
  by_cases q : St a b = true
  · have n1 : ¬ qS St (pc a n) := fun w => by rw [qS_iff hs (by omega) hn, hno q a (by omega)] at w; cases w
    have n2 : ¬ qS St (pc b n) := fun w => by rw [qS_iff hs (by omega) hn, hno q b (by omega)] at w; cases w
    obtain ⟨-, h2⟩ := h.cut (a := a) (b := b) (c := n) (by omega) (by omega) (by omega) hab ((qS_iff hs (by omega) (by omega)).mpr q) n1 n2
    refine h2.congr fun x => ?_
    have e : cutSt St n a b = st_set (st_set (st_set St a b false) a n true) b n true := by
      funext i j
      unfold cutSt; rw [if_pos q]
    have s1 := st_set_sym hs a b false
    have s2 := st_set_sym s1 a n true
    rw [e, qS_set s2 (by omega) hn, qS_set s1 (by omega) hn, qS_set hs (by omega) (by omega)]
    by_cases w1 : x = pc b n
    · rw [if_pos w1]; exact ⟨fun _ => Or.inr w1, fun _ => rfl⟩
    · rw [if_neg w1]
      by_cases w2 : x = pc a n
      · rw [if_pos w2]; exact ⟨fun _ => Or.inl (Or.inr w2), fun _ => rfl⟩
      · rw [if_neg w2]
        by_cases w3 : x = pc a b
        · rw [if_pos w3]
          exact ⟨fun y => absurd y (by decide), fun y => y.elim (fun y => y.elim (fun y => absurd w3 y.2) (fun y => absurd y w2)) (fun y => absurd y w1)⟩
        · rw [if_neg w3]
          exact ⟨fun y => Or.inl (Or.inl ⟨y, w3⟩), fun y => y.elim (fun y => y.elim (fun y => y.1) (fun y => absurd y w2)) (fun y => absurd y w1)⟩
  · rw [h.cut0 (a := a) (b := b) (c := n) (by omega) (by omega) (fun w => q ((qS_iff hs (by omega) (by omega)).mp w))]
    refine h.congr fun x => ?_
    have e : cutSt St n a b = St := by
      funext i j
      unfold cutSt; rw [if_neg q]
    rw [e]
abbrev sv_B (K : Nat → Prop) (St : Nat → Nat → Bool) (st : s_St) : Prop := sv_E K st.1 st.2.1 ∧ sv_L (qS St) st.2.2.1 st.2.2.2
section BS
variable {K : Nat → Prop} {St : Nat → Nat → Bool} {st : s_St} {r : Nat → Int32} {n x y z k : Nat} {on : Int32}
theorem sv_b1 (h : sv_B K St st) {w : Nat} (hw : K w) (hr : sr_z w r) : (s_b1 r st).1 + 1 = st.1 ∧ sv_B (fun v => K v ∧ v ≠ w) St (s_b1 r st) := by
  obtain ⟨hE, hL⟩ := h
  obtain ⟨u, hu⟩ : ∃ u, st.1 = u + 1 := by
    obtain ⟨-, f, h1, -⟩ := hE
    obtain ⟨i, hi, -⟩ := h1.2.2 w hw
    exact ⟨st.1 - 1, by omega⟩
  rw [hu] at hE
  obtain ⟨e1, e2⟩ := hE.take hw hr
  unfold s_b1
  rw [hu, e1]
  exact ⟨rfl, e2, hL⟩
theorem bK_put (h : sv_B K St (s_bK r on (nI n) st k)) (hk : ¬ nI k = on) (e1 : r k = nI x) (e2 : r ((k + 1) % 3) = nI y) (hx : x < 32) (hy : y < 32) (hn : n < 32) (no : ¬ K (sc x y n)) : (s_bK r on (nI n) st (k + 1)).1 = (s_bK r on (nI n) st k).1 + 1 ∧ sv_B (fun v => K v ∨ v = sc x y n) St (s_bK r on (nI n) st (k + 1)) := by
  obtain ⟨hE, hL⟩ := h
  have u : s_bK r on (nI n) st (k + 1) = ((s_bK r on (nI n) st k).1 + 1, s_put (s_bK r on (nI n) st k).1 (s_bK r on (nI n) st k).2.1 (s_three (r k) (r ((k + 1) % 3)) (nI n)), (s_bK r on (nI n) st k).2.2.1, (s_bK r on (nI n) st k).2.2.2) := by
    show (if nI k = on then _ else _) = _
    rw [if_neg hk]
  rw [u, e1, e2]
  exact ⟨rfl, hE.put hx hy hn no, hL⟩
theorem bK_cut (h : sv_B K St (s_bK r on (nI n) st k)) (hk : nI k = on) (e1 : r k = nI x) (e2 : r ((k + 1) % 3) = nI y) (hs : ∀ i j, St i j = St j i) (hn : n < 17) (hx : x < n) (hy : y < n) (hxy : x ≠ y) (hno : St x y = true → ∀ i, i < 17 → St i n = false) : (s_bK r on (nI n) st (k + 1)).1 = (s_bK r on (nI n) st k).1 ∧ sv_B K (cutSt St n x y) (s_bK r on (nI n) st (k + 1)) := by
  obtain ⟨hE, hL⟩ := h
  have u : s_bK r on (nI n) st (k + 1) = ((s_bK r on (nI n) st k).1, (s_bK r on (nI n) st k).2.1, (s_cutS (s_bK r on (nI n) st k).2.2.1 (s_bK r on (nI n) st k).2.2.2 (r k) (r ((k + 1) % 3)) (nI n)).1, (s_cutS (s_bK r on (nI n) st k).2.2.1 (s_bK r on (nI n) st k).2.2.2 (r k) (r ((k + 1) % 3)) (nI n)).2) := by
    show (if nI k = on then _ else _) = _
    rw [if_pos hk]
  rw [u, e1, e2]
  exact ⟨rfl, hE, cut_L hL hs hn hx hy hxy hno⟩
theorem bO_same {C : Nat → Nat → Int32} {px py its : Int32} {T0 : Nat → Nat → Int32} {i : Nat} : ∀ m, i ≤ m → (∀ j, i ≤ j → j < m → ¬ 0 ≤ s_side C (T0 j) px py) → s_bO C px py its T0 st m = s_bO C px py its T0 st i
  | 0, h, _ => by rw [Nat.le_zero.mp h]
  | m + 1, h, hs => by
    rcases Nat.lt_or_ge i (m + 1) with w | w
    · show (if 0 ≤ s_side C (T0 m) px py then _ else s_bO C px py its T0 st m) = _
      rw [if_neg (hs m (by omega) (by omega))]
      exact bO_same m (by omega) (fun j h1 h2 => hs j h1 (by omega))
    · rw [show m + 1 = i by omega]
theorem bO_step {C : Nat → Nat → Int32} {px py its : Int32} {T0 : Nat → Nat → Int32} {i : Nat} (h : 0 ≤ s_side C (T0 i) px py) : s_bO C px py its T0 st (i + 1) = s_bK (T0 i) (s_side C (T0 i) px py) its (s_b1 (T0 i) (s_bO C px py its T0 st i)) 3 := if_pos h
end BS
