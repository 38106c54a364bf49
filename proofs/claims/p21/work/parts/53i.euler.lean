/-! edges and border behind a new cairn -/
theorem sm_iff {L : Nat → Nat → Option Nat} {x y : Nat} : (L x y).isSome = true ↔ ∃ z, L x y = some z := Option.isSome_iff_exists
theorem rg_ct_in {q : Nat → Bool} {m a : Nat} (ha : a < m) (h : q a = true) : rg_ct q m = rg_ct (fun x => if x = a then false else q x) m + 1 := rg_ct_del h m ha
section EU
variable {n t : Nat} {P : Nat → g_P} {L L' : Nat → Nat → Option Nat} {St St' : Nat → Nat → Bool} {f : Nat → Nat} {t' a b c d : Nat}
theorem in3_some (h : tr_Tri n P L) (e : L a b = some c) (hiff : ∀ x y z, L' x y = some z ↔ (tr_rot a b n x y z ∨ tr_rot b c n x y z ∨ tr_rot c a n x y z) ∨ (L x y = some z ∧ ¬ tr_rot a b c x y z)) (x y : Nat) : (L' x y).isSome = if (x = n ∧ (y = a ∨ y = b ∨ y = c)) ∨ (y = n ∧ (x = a ∨ x = b ∨ x = c)) then true else (L x y).isSome := by
  have e1 := h.rot e
  have e2 := h.rot2 e
  rw [Bool.eq_iff_iff, sm_iff]
  by_cases w : (x = n ∧ (y = a ∨ y = b ∨ y = c)) ∨ (y = n ∧ (x = a ∨ x = b ∨ x = c))
  · rw [if_pos w]
    refine ⟨fun _ => rfl, fun _ => ?_⟩
    rcases w with ⟨rfl, rfl | rfl | rfl⟩ | ⟨rfl, rfl | rfl | rfl⟩
    · exact ⟨b, (hiff _ _ _).mpr (Or.inl (Or.inl (Or.inr (Or.inr ⟨rfl, rfl, rfl⟩))))⟩
    · exact ⟨c, (hiff _ _ _).mpr (Or.inl (Or.inr (Or.inl (Or.inr (Or.inr ⟨rfl, rfl, rfl⟩)))))⟩
    · exact ⟨a, (hiff _ _ _).mpr (Or.inl (Or.inr (Or.inr (Or.inr (Or.inr ⟨rfl, rfl, rfl⟩)))))⟩
    · exact ⟨c, (hiff _ _ _).mpr (Or.inl (Or.inr (Or.inr (Or.inr (Or.inl ⟨rfl, rfl, rfl⟩)))))⟩
    · exact ⟨a, (hiff _ _ _).mpr (Or.inl (Or.inl (Or.inr (Or.inl ⟨rfl, rfl, rfl⟩))))⟩
    · exact ⟨b, (hiff _ _ _).mpr (Or.inl (Or.inr (Or.inl (Or.inr (Or.inl ⟨rfl, rfl, rfl⟩)))))⟩
  · rw [if_neg w, sm_iff]
    constructor
    · rintro ⟨z, q⟩
      rcases (hiff _ _ _).mp q with r | ⟨q, -⟩
      · unfold tr_rot at r
        rcases (show (x = a ∧ y = b) ∨ (x = b ∧ y = c) ∨ (x = c ∧ y = a) by omega) with ⟨rfl, rfl⟩ | ⟨rfl, rfl⟩ | ⟨rfl, rfl⟩
        · exact ⟨_, e⟩
        · exact ⟨_, e1⟩
        · exact ⟨_, e2⟩
      · exact ⟨z, q⟩
    · rintro ⟨z, q⟩
      by_cases r : tr_rot a b c x y z
      · rcases r with ⟨rfl, rfl, -⟩ | ⟨rfl, rfl, -⟩ | ⟨rfl, rfl, -⟩
        · exact ⟨n, (hiff _ _ _).mpr (Or.inl (Or.inl (Or.inl ⟨rfl, rfl, rfl⟩)))⟩
        · exact ⟨n, (hiff _ _ _).mpr (Or.inl (Or.inr (Or.inl (Or.inl ⟨rfl, rfl, rfl⟩))))⟩
        · exact ⟨n, (hiff _ _ _).mpr (Or.inl (Or.inr (Or.inr (Or.inl ⟨rfl, rfl, rfl⟩))))⟩
      · exact ⟨z, (hiff _ _ _).mpr (Or.inr ⟨q, r⟩)⟩
theorem in2_some (h : tr_Tri n P L) (e : L a b = some c) (f : L b a = some d) (hiff : ∀ x y z, L' x y = some z ↔ ((tr_rot a n c x y z ∨ tr_rot n b c x y z) ∨ tr_rot b n d x y z ∨ tr_rot n a d x y z) ∨ (L x y = some z ∧ ¬ (tr_rot a b c x y z ∨ tr_rot b a d x y z))) (x y : Nat) : (L' x y).isSome = if (x = n ∧ (y = a ∨ y = b ∨ y = c ∨ y = d)) ∨ (y = n ∧ (x = a ∨ x = b ∨ x = c ∨ x = d)) then true else if (x = a ∧ y = b) ∨ (x = b ∧ y = a) then false else (L x y).isSome := by
  have e1 := h.rot e
  have e2 := h.rot2 e
  have f1 := h.rot f
  have f2 := h.rot2 f
  obtain ⟨ha, hb, hc, g, -⟩ := h _ _ _ e
  obtain ⟨-, -, hd, g', -⟩ := h _ _ _ f
  obtain ⟨n1, n2, n3⟩ := tr_ne g
  obtain ⟨n4, n5, n6⟩ := tr_ne g'
  rw [Bool.eq_iff_iff, sm_iff]
  by_cases w : (x = n ∧ (y = a ∨ y = b ∨ y = c ∨ y = d)) ∨ (y = n ∧ (x = a ∨ x = b ∨ x = c ∨ x = d))
  · rw [if_pos w]
    refine ⟨fun _ => rfl, fun _ => ?_⟩
    rcases w with ⟨rfl, rfl | rfl | rfl | rfl⟩ | ⟨rfl, rfl | rfl | rfl | rfl⟩
    · exact ⟨d, (hiff _ _ _).mpr (Or.inl (Or.inr (Or.inr (Or.inl ⟨rfl, rfl, rfl⟩))))⟩
    · exact ⟨c, (hiff _ _ _).mpr (Or.inl (Or.inl (Or.inr (Or.inl ⟨rfl, rfl, rfl⟩))))⟩
    · exact ⟨a, (hiff _ _ _).mpr (Or.inl (Or.inl (Or.inl (Or.inr (Or.inl ⟨rfl, rfl, rfl⟩)))))⟩
    · exact ⟨b, (hiff _ _ _).mpr (Or.inl (Or.inr (Or.inl (Or.inr (Or.inl ⟨rfl, rfl, rfl⟩)))))⟩
    · exact ⟨c, (hiff _ _ _).mpr (Or.inl (Or.inl (Or.inl (Or.inl ⟨rfl, rfl, rfl⟩))))⟩
    · exact ⟨d, (hiff _ _ _).mpr (Or.inl (Or.inr (Or.inl (Or.inl ⟨rfl, rfl, rfl⟩))))⟩
    · exact ⟨b, (hiff _ _ _).mpr (Or.inl (Or.inl (Or.inr (Or.inr (Or.inr ⟨rfl, rfl, rfl⟩)))))⟩
    · exact ⟨a, (hiff _ _ _).mpr (Or.inl (Or.inr (Or.inr (Or.inr (Or.inr ⟨rfl, rfl, rfl⟩)))))⟩
  · rw [if_neg w]
    by_cases w2 : (x = a ∧ y = b) ∨ (x = b ∧ y = a)
    · rw [if_pos w2]
      refine ⟨?_, fun q => by cases q⟩
      rintro ⟨z, q⟩
      exfalso
      rcases (hiff _ _ _).mp q with r | ⟨q, r⟩
      · unfold tr_rot at r; omega
      · rcases w2 with ⟨rfl, rfl⟩ | ⟨rfl, rfl⟩
        · rw [e] at q; cases q; exact r (Or.inl (Or.inl ⟨rfl, rfl, rfl⟩))
        · rw [f] at q; cases q; exact r (Or.inr (Or.inl ⟨rfl, rfl, rfl⟩))
    · rw [if_neg w2, sm_iff]
      constructor
      · rintro ⟨z, q⟩
        rcases (hiff _ _ _).mp q with r | ⟨q, -⟩
        · unfold tr_rot at r
          rcases (show (x = c ∧ y = a) ∨ (x = b ∧ y = c) ∨ (x = d ∧ y = b) ∨ (x = a ∧ y = d) by omega) with ⟨rfl, rfl⟩ | ⟨rfl, rfl⟩ | ⟨rfl, rfl⟩ | ⟨rfl, rfl⟩
          · exact ⟨_, e2⟩
          · exact ⟨_, e1⟩
          · exact ⟨_, f2⟩
          · exact ⟨_, f1⟩
        · exact ⟨z, q⟩
      · rintro ⟨z, q⟩
        by_cases r : tr_rot a b c x y z ∨ tr_rot b a d x y z
        · unfold tr_rot at r
          rcases (show (x = c ∧ y = a) ∨ (x = b ∧ y = c) ∨ (x = d ∧ y = b) ∨ (x = a ∧ y = d) by omega) with ⟨rfl, rfl⟩ | ⟨rfl, rfl⟩ | ⟨rfl, rfl⟩ | ⟨rfl, rfl⟩
          · exact ⟨n, (hiff _ _ _).mpr (Or.inl (Or.inl (Or.inl (Or.inr (Or.inr ⟨rfl, rfl, rfl⟩)))))⟩
          · exact ⟨n, (hiff _ _ _).mpr (Or.inl (Or.inl (Or.inr (Or.inr (Or.inl ⟨rfl, rfl, rfl⟩)))))⟩
          · exact ⟨n, (hiff _ _ _).mpr (Or.inl (Or.inr (Or.inl (Or.inr (Or.inr ⟨rfl, rfl, rfl⟩)))))⟩
          · exact ⟨n, (hiff _ _ _).mpr (Or.inl (Or.inr (Or.inr (Or.inr (Or.inl ⟨rfl, rfl, rfl⟩)))))⟩
        · exact ⟨z, (hiff _ _ _).mpr (Or.inr ⟨q, r⟩)⟩
theorem in1_some (h : tr_Tri n P L) (e : L a b = some c) (f : L b a = none) (hiff : ∀ x y z, L' x y = some z ↔ (tr_rot a n c x y z ∨ tr_rot n b c x y z) ∨ (L x y = some z ∧ ¬ tr_rot a b c x y z)) (x y : Nat) : (L' x y).isSome = if (x = n ∧ (y = b ∨ y = c)) ∨ (y = n ∧ (x = a ∨ x = c)) then true else if x = a ∧ y = b then false else (L x y).isSome := by
  have e1 := h.rot e
  have e2 := h.rot2 e
  obtain ⟨ha, hb, hc, g, -⟩ := h _ _ _ e
  obtain ⟨n1, n2, n3⟩ := tr_ne g
  rw [Bool.eq_iff_iff, sm_iff]
  by_cases w : (x = n ∧ (y = b ∨ y = c)) ∨ (y = n ∧ (x = a ∨ x = c))
  · rw [if_pos w]
    refine ⟨fun _ => rfl, fun _ => ?_⟩
    rcases w with ⟨rfl, rfl | rfl⟩ | ⟨rfl, rfl | rfl⟩
    · exact ⟨c, (hiff _ _ _).mpr (Or.inl (Or.inr (Or.inl ⟨rfl, rfl, rfl⟩)))⟩
    · exact ⟨a, (hiff _ _ _).mpr (Or.inl (Or.inl (Or.inr (Or.inl ⟨rfl, rfl, rfl⟩))))⟩
    · exact ⟨c, (hiff _ _ _).mpr (Or.inl (Or.inl (Or.inl ⟨rfl, rfl, rfl⟩)))⟩
    · exact ⟨b, (hiff _ _ _).mpr (Or.inl (Or.inr (Or.inr (Or.inr ⟨rfl, rfl, rfl⟩))))⟩
  · rw [if_neg w]
    by_cases w2 : x = a ∧ y = b
    · rw [if_pos w2]
      refine ⟨?_, fun q => by cases q⟩
      rintro ⟨z, q⟩
      exfalso
      rcases (hiff _ _ _).mp q with r | ⟨q, r⟩
      · unfold tr_rot at r; omega
      · obtain ⟨rfl, rfl⟩ := w2
        rw [e] at q; cases q; exact r (Or.inl ⟨rfl, rfl, rfl⟩)
    · rw [if_neg w2, sm_iff]
      constructor
      · rintro ⟨z, q⟩
        rcases (hiff _ _ _).mp q with r | ⟨q, -⟩
        · unfold tr_rot at r
          rcases (show (x = c ∧ y = a) ∨ (x = b ∧ y = c) by omega) with ⟨rfl, rfl⟩ | ⟨rfl, rfl⟩
          · exact ⟨_, e2⟩
          · exact ⟨_, e1⟩
        · exact ⟨z, q⟩
      · rintro ⟨z, q⟩
        by_cases r : tr_rot a b c x y z
        · unfold tr_rot at r
          rcases (show (x = c ∧ y = a) ∨ (x = b ∧ y = c) by omega) with ⟨rfl, rfl⟩ | ⟨rfl, rfl⟩
          · exact ⟨n, (hiff _ _ _).mpr (Or.inl (Or.inl (Or.inr (Or.inr ⟨rfl, rfl, rfl⟩))))⟩
          · exact ⟨n, (hiff _ _ _).mpr (Or.inl (Or.inr (Or.inr (Or.inl ⟨rfl, rfl, rfl⟩))))⟩
        · exact ⟨z, (hiff _ _ _).mpr (Or.inr ⟨q, r⟩)⟩
/-- what a new cairn does to both counts, and how many edges it has -/
theorem eu_how (h : ti_A n t P L St f) (how : ti_how n t P L L' St St' t') (hu : eu_ n t L) : eu_ (n + 1) t' L' ∧ 3 ≤ rg_ct (fun x => eB L' x n) n ∧ rg_ct (fun x => eB L' x n) n ≤ 4 := by
  have nw := tr_new h.ok.tri
  rcases how with ⟨a, b, c, e, z1, z2, z3, rfl, -, hiff⟩ | ⟨a, b, c, d, e1, e2, z1, z2, z3, rfl, -, hiff⟩ | ⟨a, b, c, e1, e2, z1, z2, z3, rfl, -, hiff⟩
  · obtain ⟨ha, hb, hc, g, -⟩ := h.ok.tri _ _ _ e
    obtain ⟨n1, n2, n3⟩ := tr_ne g
    have sm := in3_some h.ok.tri e hiff
    have lo : ∀ x y, x < n → y < n → (L' x y).isSome = (L x y).isSome := fun x y hx hy => by rw [sm, if_neg (by omega)]
    have hi : ∀ x, x < n → (L' x n).isSome = decide (x = a ∨ x = b ∨ x = c) ∧ (L' n x).isSome = decide (x = a ∨ x = b ∨ x = c) := fun x hx => by
      rw [sm, sm, (nw x).1, (nw x).2]
      by_cases w : x = a ∨ x = b ∨ x = c
      · rw [decide_eq_true w, if_pos (Or.inr ⟨rfl, w⟩), if_pos (Or.inl ⟨rfl, w⟩)]; exact ⟨rfl, rfl⟩
      · rw [decide_eq_false w, if_neg (by omega), if_neg (by omega)]; exact ⟨rfl, rfl⟩
    have eE : ∀ x, x < n → eB L' x n = decide (x = a ∨ x = b ∨ x = c) := fun x hx => by unfold eB; rw [(hi x hx).1, (hi x hx).2, Bool.or_self]
    have c3 : rg_ct (fun x => eB L' x n) n = 3 := by
      rw [rg_ct_congr (q := fun x => decide (x = a ∨ x = b ∨ x = c)) (fun x hx => eE x hx)]
      rw [rg_ct_in (a := a) ha (decide_eq_true (Or.inl rfl)), rg_ct_in (a := b) hb (by rw [if_neg (by omega)]; exact decide_eq_true (Or.inr (Or.inl rfl))), rg_ct_in (a := c) hc (by rw [if_neg (by omega), if_neg (by omega)]; exact decide_eq_true (Or.inr (Or.inr rfl)))]
      rw [rg_ct_0 (fun j hj => by
        by_cases w1 : j = c
        · rw [if_pos w1]
        · by_cases w2 : j = b
          · rw [if_neg w1, if_pos w2]
          · by_cases w3 : j = a
            · rw [if_neg w1, if_neg w2, if_pos w3]
            · rw [if_neg w1, if_neg w2, if_neg w3]; exact decide_eq_false (by omega))]
    have ec : ecn L' (n + 1) = ecn L n + 3 := by
      unfold ecn
      rw [cnt_succ, c3, cnt_congr (q := eB L) (fun x y hxy hy => by unfold eB; rw [lo x y (by omega) hy, lo y x hy (by omega)])]
    have bc : bcn L' (n + 1) = bcn L n := by
      unfold bcn
      rw [cnt_succ, cnt_congr (q := bB L) (fun x y hxy hy => by unfold bB eB iB; rw [lo x y (by omega) hy, lo y x hy (by omega)]), rg_ct_0 (fun x hx => by
        unfold bB eB iB
        rw [(hi x hx).1, (hi x hx).2]
        cases decide (x = a ∨ x = b ∨ x = c) <;> rfl)]; rfl
    obtain ⟨u1, u2⟩ := hu
    refine ⟨⟨by omega, by omega⟩, by omega, by omega⟩
  · obtain ⟨ha, hb, hc, g1, -⟩ := h.ok.tri _ _ _ e1
    obtain ⟨-, -, hd, g2, -⟩ := h.ok.tri _ _ _ e2
    obtain ⟨n1, n2, n3⟩ := tr_ne g1
    obtain ⟨n4, n5, n6⟩ := tr_ne g2
    have ncd : c ≠ d := by
      rintro rfl
      have := gO_swap (P a) (P b) (P c)
      omega
    have sm := in2_some h.ok.tri e1 e2 hiff
    have lo : ∀ x y, x < n → y < n → (L' x y).isSome = if (x = a ∧ y = b) ∨ (x = b ∧ y = a) then false else (L x y).isSome := fun x y hx hy => by rw [sm, if_neg (by omega)]
    have hi : ∀ x, x < n → (L' x n).isSome = decide (x = a ∨ x = b ∨ x = c ∨ x = d) ∧ (L' n x).isSome = decide (x = a ∨ x = b ∨ x = c ∨ x = d) := fun x hx => by
      rw [sm, sm, (nw x).1, (nw x).2]
      by_cases w : x = a ∨ x = b ∨ x = c ∨ x = d
      · rw [decide_eq_true w, if_pos (Or.inr ⟨rfl, w⟩), if_pos (Or.inl ⟨rfl, w⟩)]; exact ⟨rfl, rfl⟩
      · rw [decide_eq_false w, if_neg (by omega), if_neg (by omega), if_neg (by omega), if_neg (by omega)]; exact ⟨rfl, rfl⟩
    have eE : ∀ x, x < n → eB L' x n = decide (x = a ∨ x = b ∨ x = c ∨ x = d) := fun x hx => by unfold eB; rw [(hi x hx).1, (hi x hx).2, Bool.or_self]
    have c3 : rg_ct (fun x => eB L' x n) n = 4 := by
      rw [rg_ct_congr (q := fun x => decide (x = a ∨ x = b ∨ x = c ∨ x = d)) (fun x hx => eE x hx)]
      rw [rg_ct_in (a := a) ha (decide_eq_true (Or.inl rfl)), rg_ct_in (a := b) hb (by rw [if_neg (by omega)]; exact decide_eq_true (Or.inr (Or.inl rfl))), rg_ct_in (a := c) hc (by rw [if_neg (by omega), if_neg (by omega)]; exact decide_eq_true (Or.inr (Or.inr (Or.inl rfl)))), rg_ct_in (a := d) hd (by rw [if_neg (by omega), if_neg (by omega), if_neg (by omega)]; exact decide_eq_true (Or.inr (Or.inr (Or.inr rfl))))]
      rw [rg_ct_0 (fun j hj => by
        by_cases w0 : j = d
        · rw [if_pos w0]
        · by_cases w1 : j = c
          · rw [if_neg w0, if_pos w1]
          · by_cases w2 : j = b
            · rw [if_neg w0, if_neg w1, if_pos w2]
            · by_cases w3 : j = a
              · rw [if_neg w0, if_neg w1, if_neg w2, if_pos w3]
              · rw [if_neg w0, if_neg w1, if_neg w2, if_neg w3]; exact decide_eq_false (by omega))]
    have E0 : ∀ x y, (x = a ∧ y = b) ∨ (x = b ∧ y = a) → (L x y).isSome = true ∧ (L y x).isSome = true := fun x y w => by
      rcases w with ⟨rfl, rfl⟩ | ⟨rfl, rfl⟩ <;> rw [e1, e2] <;> exact ⟨rfl, rfl⟩
    have ec : ecn L n = cnt (eB L') n + 1 := by
      unfold ecn
      refine cnt_set2 (a := a) (b := b) n1 ha hb ?_ ?_ ?_ ?_ (fun x y hx hy w => ?_)
      · unfold eB; rw [e1, e2]; rfl
      · unfold eB; rw [e1, e2]; rfl
      · unfold eB; rw [lo a b ha hb, lo b a hb ha, if_pos (show (a = a ∧ b = b) ∨ (a = b ∧ b = a) from Or.inl ⟨rfl, rfl⟩), if_pos (show (b = a ∧ a = b) ∨ (b = b ∧ a = a) from Or.inr ⟨rfl, rfl⟩)]; rfl
      · unfold eB; rw [lo a b ha hb, lo b a hb ha, if_pos (show (a = a ∧ b = b) ∨ (a = b ∧ b = a) from Or.inl ⟨rfl, rfl⟩), if_pos (show (b = a ∧ a = b) ∨ (b = b ∧ a = a) from Or.inr ⟨rfl, rfl⟩)]; rfl
      · unfold eB; rw [lo x y hx hy, lo y x hy hx, if_neg w, if_neg (by omega)]
    have ec2 : ecn L' (n + 1) = cnt (eB L') n + 4 := by
      unfold ecn
      rw [cnt_succ, c3]
    have bc : bcn L' (n + 1) = bcn L n := by
      unfold bcn
      rw [cnt_succ, cnt_congr (q := bB L) (fun x y hxy hy => by
        unfold bB eB iB
        rw [lo x y (by omega) hy, lo y x hy (by omega)]
        by_cases w : (x = a ∧ y = b) ∨ (x = b ∧ y = a)
        · rw [if_pos w, if_pos (by omega), (E0 x y w).1, (E0 x y w).2]; rfl
        · rw [if_neg w, if_neg (by omega)]), rg_ct_0 (fun x hx => by
        unfold bB eB iB
        rw [(hi x hx).1, (hi x hx).2]
        cases decide (x = a ∨ x = b ∨ x = c ∨ x = d) <;> rfl)]; rfl
    obtain ⟨u1, u2⟩ := hu
    refine ⟨⟨by omega, by omega⟩, by omega, by omega⟩
  · obtain ⟨ha, hb, hc, g1, -⟩ := h.ok.tri _ _ _ e1
    obtain ⟨n1, n2, n3⟩ := tr_ne g1
    have sm := in1_some h.ok.tri e1 e2 hiff
    have lo : ∀ x y, x < n → y < n → (L' x y).isSome = if x = a ∧ y = b then false else (L x y).isSome := fun x y hx hy => by rw [sm, if_neg (by omega)]
    have hi : ∀ x, x < n → (L' x n).isSome = decide (x = a ∨ x = c) ∧ (L' n x).isSome = decide (x = b ∨ x = c) := fun x hx => by
      rw [sm, sm, (nw x).1, (nw x).2]
      constructor
      · by_cases w : x = a ∨ x = c
        · rw [decide_eq_true w, if_pos (Or.inr ⟨rfl, w⟩)]
        · rw [decide_eq_false w, if_neg (by omega), if_neg (by omega)]; rfl
      · by_cases w : x = b ∨ x = c
        · rw [decide_eq_true w, if_pos (Or.inl ⟨rfl, w⟩)]
        · rw [decide_eq_false w, if_neg (by omega), if_neg (by omega)]; rfl
    have eE : ∀ x, x < n → eB L' x n = decide (x = a ∨ x = b ∨ x = c) := fun x hx => by
      unfold eB; rw [(hi x hx).1, (hi x hx).2, ← Bool.decide_or, decide_eq_decide]; omega
    have bE : ∀ x, x < n → bB L' x n = decide (x = a ∨ x = b) := fun x hx => by
      unfold bB iB; rw [eE x hx, (hi x hx).1, (hi x hx).2, ← Bool.decide_and, ← decide_not, ← Bool.decide_and, decide_eq_decide]; omega
    have c3 : rg_ct (fun x => eB L' x n) n = 3 := by
      rw [rg_ct_congr (q := fun x => decide (x = a ∨ x = b ∨ x = c)) (fun x hx => eE x hx)]
      rw [rg_ct_in (a := a) ha (decide_eq_true (Or.inl rfl)), rg_ct_in (a := b) hb (by rw [if_neg (by omega)]; exact decide_eq_true (Or.inr (Or.inl rfl))), rg_ct_in (a := c) hc (by rw [if_neg (by omega), if_neg (by omega)]; exact decide_eq_true (Or.inr (Or.inr rfl)))]
      rw [rg_ct_0 (fun j hj => by
        by_cases w1 : j = c
        · rw [if_pos w1]
        · by_cases w2 : j = b
          · rw [if_neg w1, if_pos w2]
          · by_cases w3 : j = a
            · rw [if_neg w1, if_neg w2, if_pos w3]
            · rw [if_neg w1, if_neg w2, if_neg w3]; exact decide_eq_false (by omega))]
    have c2 : rg_ct (fun x => bB L' x n) n = 2 := by
      rw [rg_ct_congr (q := fun x => decide (x = a ∨ x = b)) (fun x hx => bE x hx)]
      rw [rg_ct_in (a := a) ha (decide_eq_true (Or.inl rfl)), rg_ct_in (a := b) hb (by rw [if_neg (by omega)]; exact decide_eq_true (Or.inr rfl))]
      rw [rg_ct_0 (fun j hj => by
        by_cases w2 : j = b
        · rw [if_pos w2]
        · by_cases w3 : j = a
          · rw [if_neg w2, if_pos w3]
          · rw [if_neg w2, if_neg w3]; exact decide_eq_false (by omega))]
    have ec : ecn L n = cnt (eB L') n + 1 := by
      unfold ecn
      refine cnt_set2 (a := a) (b := b) n1 ha hb ?_ ?_ ?_ ?_ (fun x y hx hy w => ?_)
      · unfold eB; rw [e1, e2]; rfl
      · unfold eB; rw [e1, e2]; rfl
      · unfold eB; rw [lo a b ha hb, lo b a hb ha, if_pos (show a = a ∧ b = b from ⟨rfl, rfl⟩), if_neg (show ¬ (b = a ∧ a = b) by omega), e2]; rfl
      · unfold eB; rw [lo a b ha hb, lo b a hb ha, if_pos (show a = a ∧ b = b from ⟨rfl, rfl⟩), if_neg (show ¬ (b = a ∧ a = b) by omega), e2]; rfl
      · unfold eB; rw [lo x y hx hy, lo y x hy hx, if_neg (by omega), if_neg (by omega)]
    have bc0 : bcn L n = cnt (bB L') n + 1 := by
      unfold bcn
      refine cnt_set2 (a := a) (b := b) n1 ha hb ?_ ?_ ?_ ?_ (fun x y hx hy w => ?_)
      · unfold bB eB iB; rw [e1, e2]; rfl
      · unfold bB eB iB; rw [e1, e2]; rfl
      · unfold bB eB iB; rw [lo a b ha hb, lo b a hb ha, if_pos (show a = a ∧ b = b from ⟨rfl, rfl⟩), if_neg (show ¬ (b = a ∧ a = b) by omega), e2]; rfl
      · unfold bB eB iB; rw [lo a b ha hb, lo b a hb ha, if_pos (show a = a ∧ b = b from ⟨rfl, rfl⟩), if_neg (show ¬ (b = a ∧ a = b) by omega), e2]; rfl
      · unfold bB eB iB; rw [lo x y hx hy, lo y x hy hx, if_neg (by omega), if_neg (by omega)]
    have ec2 : ecn L' (n + 1) = cnt (eB L') n + 3 := by
      unfold ecn
      rw [cnt_succ, c3]
    have bc2 : bcn L' (n + 1) = cnt (bB L') n + 2 := by
      unfold bcn
      rw [cnt_succ, c2]
    obtain ⟨u1, u2⟩ := hu
    refine ⟨⟨by omega, by omega⟩, by omega, by omega⟩
/-- the corners of a face that has the place are joined with the new cairn -/
theorem join_how (h : ti_A n t P L St f) (hP : tr_Pos (n + 1) P) (how : ti_how n t P L L' St St' t') {x y z : Nat} (e : L x y = some z) (q : gInW (P x) (P y) (P z) (P n)) : eB L' n x = true ∧ eB L' n y = true ∧ eB L' n z = true := by
  have nw := tr_new h.ok.tri
  have hp : tr_sq (P n) := hP.1 n (by omega)
  have fin : ∀ a b c : Nat, tr_rot a b c x y z → eB L' n a = true → eB L' n b = true → eB L' n c = true → eB L' n x = true ∧ eB L' n y = true ∧ eB L' n z = true := fun a b c r g1 g2 g3 => by
    rcases r with ⟨rfl, rfl, rfl⟩ | ⟨rfl, rfl, rfl⟩ | ⟨rfl, rfl, rfl⟩
    · exact ⟨g1, g2, g3⟩
    · exact ⟨g2, g3, g1⟩
    · exact ⟨g3, g1, g2⟩
  rcases how with ⟨a, b, c, e1, z1, z2, z3, rfl, -, hiff⟩ | ⟨a, b, c, d, e1, e2, z1, z2, z3, rfl, -, hiff⟩ | ⟨a, b, c, e1, e2, z1, z2, z3, rfl, -, hiff⟩
  · have sm := in3_some h.ok.tri e1 hiff
    refine fin a b c (tr_one h.ok hp e1 ⟨z1, z2, z3⟩ e q) ?_ ?_ ?_
    · unfold eB; rw [sm, if_pos (Or.inl ⟨rfl, Or.inl rfl⟩)]; rfl
    · unfold eB; rw [sm, if_pos (Or.inl ⟨rfl, Or.inr (Or.inl rfl)⟩)]; rfl
    · unfold eB; rw [sm, if_pos (Or.inl ⟨rfl, Or.inr (Or.inr rfl)⟩)]; rfl
  · have sm := in2_some h.ok.tri e1 e2 hiff
    have ja : eB L' n a = true := by unfold eB; rw [sm, if_pos (Or.inl ⟨rfl, Or.inl rfl⟩)]; rfl
    have jb : eB L' n b = true := by unfold eB; rw [sm, if_pos (Or.inl ⟨rfl, Or.inr (Or.inl rfl)⟩)]; rfl
    have jc : eB L' n c = true := by unfold eB; rw [sm, if_pos (Or.inl ⟨rfl, Or.inr (Or.inr (Or.inl rfl))⟩)]; rfl
    have jd : eB L' n d = true := by unfold eB; rw [sm, if_pos (Or.inl ⟨rfl, Or.inr (Or.inr (Or.inr rfl))⟩)]; rfl
    rcases tr_two h.ok hp e1 z1 z2 z3 e q with r | ⟨d', q2, r⟩
    · exact fin a b c r ja jb jc
    · rw [e2] at q2; cases q2
      exact fin b a d r jb ja jd
  · have sm := in1_some h.ok.tri e1 e2 hiff
    rcases tr_two h.ok hp e1 z1 z2 z3 e q with r | ⟨d', q2, r⟩
    · refine fin a b c r ?_ ?_ ?_
      · unfold eB; rw [sm a n, sm n a, if_pos (show (a = n ∧ (n = b ∨ n = c)) ∨ (n = n ∧ (a = a ∨ a = c)) from Or.inr ⟨rfl, Or.inl rfl⟩), Bool.or_true]
      · unfold eB; rw [sm n b, if_pos (Or.inl ⟨rfl, Or.inl rfl⟩)]; rfl
      · unfold eB; rw [sm n c, if_pos (Or.inl ⟨rfl, Or.inr rfl⟩)]; rfl
    · rw [e2] at q2; cases q2
end EU
