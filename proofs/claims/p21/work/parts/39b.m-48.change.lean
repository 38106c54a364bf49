/-! the class's changes -/
def tr_set3 (L : Nat → Nat → Option Nat) (a b c : Nat) (x y z : Option Nat) : Nat → Nat → Option Nat := fun i j => if i = c ∧ j = a then z else if i = b ∧ j = c then y else if i = a ∧ j = b then x else L i j
abbrev tr_put (L : Nat → Nat → Option Nat) (a b c : Nat) : Nat → Nat → Option Nat := tr_set3 L a b c (some c) (some a) (some b)
abbrev tr_del (L : Nat → Nat → Option Nat) (a b c : Nat) : Nat → Nat → Option Nat := tr_set3 L a b c none none none
theorem upd_if {g : Nat → Int32} {k j : Nat} {v : Int32} : upd g k v j = if j = k then v else g j := by
  by_cases e : j = k
  · subst e; rw [pk_us, if_pos rfl]
  · rw [pk_un e, if_neg e]
theorem setL_eq {n : Nat} (hn : n ≤ 17) {L : Nat → Nat → Option Nat} {lf : Nat → Int32} (hL : ti_L L lf) {a b c : Nat} (ha : a < n) (hb : b < n) (hc : c < n) (x y z : Option Nat) : ti_L (tr_set3 L a b c x y z) (m_setL n lf (nI a) (nI b) (nI c) (lo x) (lo y) (lo z)) := by
  intro i j hi hj
  unfold m_setL
  rw [m_cairn_eq hn (by omega), m_cairn_eq hn (by omega), m_cairn_eq hn (by omega), decide_eq_true ha, decide_eq_true hb, decide_eq_true hc, if_pos rfl, if_pos rfl, if_pos rfl, row_nI (by omega) (by omega), row_nI (by omega) (by omega), row_nI (by omega) (by omega), upd_if, upd_if, upd_if]
  unfold tr_set3
  by_cases e1 : i = c ∧ j = a
  · rw [if_pos e1, if_pos (by omega)]
  · rw [if_neg e1, if_neg (by omega)]
    by_cases e2 : i = b ∧ j = c
    · rw [if_pos e2, if_pos (by omega)]
    · rw [if_neg e2, if_neg (by omega)]
      by_cases e3 : i = a ∧ j = b
      · rw [if_pos e3, if_pos (by omega)]
      · rw [if_neg e3, if_neg (by omega)]
        exact hL i j hi hj
section C
variable {n : Nat} {P : Nat → g_P} {L : Nat → Nat → Option Nat} {xs ys lf : Nat → Int32}
theorem turn3 (hX : ti_X n P xs ys) (hn : n ≤ 17) {a b c : Nat} (ha : a < n) (hb : b < n) (hc : c < n) : m_turn xs ys (nI a) (nI b) (m_xOf xs (nI c)) (m_xOf ys (nI c)) = iN (gO (P a) (P b) (P c)) := by
  rw [m_xOf_nI (by omega), m_xOf_nI (by omega), (hX c hc).1, (hX c hc).2, m_turn_eq hX hn ha hb]
theorem turn3_le (hX : ti_X n P xs ys) (hn : n ≤ 17) (hP : ∀ i, i < n → tr_sq (P i)) {a b c : Nat} (ha : a < n) (hb : b < n) (hc : c < n) : m_turn xs ys (nI a) (nI b) (m_xOf xs (nI c)) (m_xOf ys (nI c)) ≤ 0 ↔ gO (P a) (P b) (P c) ≤ 0 := by
  rw [turn3 hX hn ha hb hc]
  have := gO_bd (hP a ha) (hP b hb) (hP c hc)
  exact iN_le (b := 0) (by omega) (by decide)
theorem addT_l (hX : ti_X n P xs ys) (hn : n ≤ 17) (hP : ∀ i, i < n → tr_sq (P i)) (hL : ti_L L lf) {a b c : Nat} (ha : a < n) (hb : b < n) (hc : c < n) (h : 0 < gO (P a) (P b) (P c)) : ti_L (tr_put L a b c) (m_addT n xs ys lf (nI a) (nI b) (nI c)) := by
  unfold m_addT
  rw [if_neg (fun q => by have := (turn3_le hX hn hP ha hb hc).mp q; omega)]
  exact setL_eq hn hL ha hb hc (some c) (some a) (some b)
theorem addT_r (hX : ti_X n P xs ys) (hn : n ≤ 17) (hP : ∀ i, i < n → tr_sq (P i)) (hL : ti_L L lf) {a b c : Nat} (ha : a < n) (hb : b < n) (hc : c < n) (h : gO (P a) (P b) (P c) < 0) : ti_L (tr_put L a c b) (m_addT n xs ys lf (nI a) (nI b) (nI c)) := by
  unfold m_addT
  rw [if_pos ((turn3_le hX hn hP ha hb hc).mpr (by omega))]
  exact setL_eq hn hL ha hc hb (some b) (some a) (some c)
theorem remT_l (hX : ti_X n P xs ys) (hn : n ≤ 17) (hP : ∀ i, i < n → tr_sq (P i)) (hL : ti_L L lf) {a b c : Nat} (ha : a < n) (hb : b < n) (hc : c < n) (h : 0 < gO (P a) (P b) (P c)) : ti_L (tr_del L a b c) (m_remT n xs ys lf (nI a) (nI b) (nI c)) := by
  unfold m_remT
  rw [if_neg (fun q => by have := (turn3_le hX hn hP ha hb hc).mp q; omega)]
  exact setL_eq hn hL ha hb hc none none none
theorem remT_r (hX : ti_X n P xs ys) (hn : n ≤ 17) (hP : ∀ i, i < n → tr_sq (P i)) (hL : ti_L L lf) {a b c : Nat} (ha : a < n) (hb : b < n) (hc : c < n) (h : gO (P a) (P b) (P c) < 0) : ti_L (tr_del L a c b) (m_remT n xs ys lf (nI a) (nI b) (nI c)) := by
  unfold m_remT
  rw [if_pos ((turn3_le hX hn hP ha hb hc).mpr (by omega))]
  exact setL_eq hn hL ha hc hb none none none
theorem flip_fun {a b c d : Nat} (n1 : a ≠ b) (n2 : b ≠ c) (n3 : c ≠ a) (n5 : a ≠ d) (n6 : d ≠ b) (n7 : c ≠ d) (x y : Nat) : tr_put (tr_put (tr_del (tr_del L a b c) a d b) c a d) c d b x y = tr_flip L a b c d x y := by
  unfold tr_put tr_del tr_set3 tr_flip
  grind (splits := 60)
theorem ti_L.congr {L' : Nat → Nat → Option Nat} (h : ti_L L lf) (e : ∀ x y, L x y = L' x y) : ti_L L' lf := fun a b ha hb => by rw [← e]; exact h a b ha hb
theorem tE_eq (h : tr_Ok n P L) (hn : n ≤ 17) (hX : ti_X n P xs ys) (hL : ti_L L lf) {a b c d : Nat} (q : tr_Quad n P L a b c d) : ti_L (tr_flip L a b c d) (m_tE n xs ys lf (nI a) (nI b)) := by
  obtain ⟨qab, qba, q1, q2⟩ := q
  obtain ⟨ha, hb, hc, hp, e1⟩ := h.tri a b c qab
  obtain ⟨-, -, hd, hp2, e2⟩ := h.tri b a d qba
  obtain ⟨n1, n2, n3⟩ := tr_ne hp
  obtain ⟨n4, n5, n6⟩ := tr_ne hp2
  obtain ⟨n7, -, -⟩ := tr_ne q2
  have hP : ∀ i, i < n → tr_sq (P i) := fun i hi => h.pos.1 i hi
  unfold m_tE
  rw [m_left_eq hL (by omega) (by omega), m_left_eq hL (by omega) (by omega), qab, qba]
  have s := gO_swap (P a) (P b) (P d)
  have k1 := remT_l hX hn hP hL ha hb hc hp
  have k2 := remT_r hX hn hP k1 ha hb hd (by omega)
  have k3 := addT_r hX hn hP k2 hc hd ha q1
  have k4 := addT_l hX hn hP k3 hc hd hb q2
  exact ti_L.congr k4 (flip_fun n1 n2 n3 n5 n6 n7)
end C
/-! the class's list -/
theorem tr_S_sorted {n : Nat} {P : Nat → g_P} {L : Nat → Nat → Option Nat} (h : tr_Tri n P L) (hn : n ≤ 17) {z : Nat} : tr_S L z ↔ ∃ a b c, a < b ∧ b < c ∧ c < n ∧ z = (a * 32 + b) * 32 + c ∧ (L a b = some c ∨ L b a = some c) := by
  constructor
  · rintro ⟨x, y, w, e, s⟩
    obtain ⟨h1, h2, h3, h4, h5⟩ := h x y w e
    have h6 := h.rot2 e
    obtain ⟨m1, m2, m3⟩ := tr_ne h4
    rcases Nat.lt_or_ge x y with p | p <;> rcases Nat.lt_or_ge y w with q | q <;> rcases Nat.lt_or_ge x w with r | r
    · exact ⟨x, y, w, p, q, h3, by rw [s]; unfold sc; omega, Or.inl e⟩
    · omega
    · exact ⟨x, w, y, r, by omega, h2, by rw [s]; unfold sc; omega, Or.inr h6⟩
    · exact ⟨w, x, y, by omega, p, h2, by rw [s]; unfold sc; omega, Or.inl h6⟩
    · exact ⟨y, x, w, by omega, r, h3, by rw [s]; unfold sc; omega, Or.inr e⟩
    · exact ⟨y, w, x, q, by omega, h1, by rw [s]; unfold sc; omega, Or.inl h5⟩
    · omega
    · exact ⟨w, y, x, by omega, by omega, h1, by rw [s]; unfold sc; omega, Or.inr h5⟩
  · rintro ⟨a, b, c, h1, h2, h3, s, e | e⟩
    · exact ⟨a, b, c, e, by rw [s]; unfold sc; omega⟩
    · exact ⟨b, a, c, e, by rw [s]; unfold sc; omega⟩
abbrev li_ (L : Nat → Nat → Option Nat) (bd : Nat) (st : Nat × (Nat → Int32)) : Prop := ∃ f', en_ (fun z => tr_S L z ∧ z < bd) st.1 f' ∧ ti_C st.1 f' st.2
theorem li_.skip {L : Nat → Nat → Option Nat} {bd bd' : Nat} {st : Nat × (Nat → Int32)} (h : li_ L bd st) (hb : bd ≤ bd') (hs : ∀ z, tr_S L z → bd ≤ z → bd' ≤ z) : li_ L bd' st := by
  obtain ⟨f', h1, h2⟩ := h
  refine ⟨f', h1.congr (fun z => ?_) (fun i _ => rfl), h2⟩
  refine ⟨fun q => ⟨q.1, ?_⟩, fun q => ⟨q.1, by have := q.2; omega⟩⟩
  rcases Nat.lt_or_ge z bd with w | w
  · exact w
  · have := hs z q.1 w
    have := q.2
    omega
theorem li_.app {L : Nat → Nat → Option Nat} {bd t : Nat} {f : Nat → Nat} {st : Nat × (Nat → Int32)} (h : li_ L bd st) (he : en_ (tr_S L) t f) (ht : t ≤ 28) {a b c : Nat} (ha : a < 32) (hb : b < 32) (hc : c < 32) (hbc : b < c) (hz : tr_S L ((a * 32 + b) * 32 + c)) (hge : bd ≤ (a * 32 + b) * 32 + c) (ho : ∀ z, tr_S L z → bd ≤ z → (a * 32 + b) * 32 + c ≤ z) : li_ L ((a * 32 + b) * 32 + c + 1) (m_lt1 st (nI a) (nI b) (nI c)) := by
  obtain ⟨f', h1, h2⟩ := h
  have h3 := h1.app (z := (a * 32 + b) * 32 + c) (fun x hx => by have := hx.2; omega)
  have h4 : en_ (fun z => tr_S L z ∧ z < (a * 32 + b) * 32 + c + 1) (st.1 + 1) (fun i => if i < st.1 then f' i else (a * 32 + b) * 32 + c) := by
    refine h3.congr (fun z => ?_) (fun i _ => rfl)
    constructor
    · rintro ⟨q1, q2⟩
      rcases Nat.lt_or_ge z bd with w | w
      · exact Or.inl ⟨q1, w⟩
      · have := ho z q1 w
        exact Or.inr (by omega)
    · rintro (⟨q1, q2⟩ | q)
      · exact ⟨q1, by omega⟩
      · exact ⟨by rw [q]; exact hz, by omega⟩
  have hst := he.sub h4 (fun z q => q.1)
  have h28 : nI st.1 < 28 := (nI_ltI (b := 28) (by omega) (by decide)).mpr (by omega)
  unfold m_lt1
  rw [if_neg (fun q => by have := (nI_leI (by omega) (by omega)).mp q; omega), if_pos h28]
  refine ⟨_, h4, fun k hk => ?_⟩
  have e3 : (3 : Int32) * nI st.1 = nI (3 * st.1) := by rw [show (3 : Int32) = nI 3 from rfl, pk_mul]
  have i0 : (3 * nI st.1).toNatClampNeg = 3 * st.1 := by rw [e3, nI_clamp (by omega)]
  have i1 : (3 * nI st.1 + 1).toNatClampNeg = 3 * st.1 + 1 := by rw [e3, nI_1, nI_clamp (by omega)]
  have i2 : (3 * nI st.1 + 2).toNatClampNeg = 3 * st.1 + 2 := by rw [e3, show (2 : Int32) = nI 2 from rfl, nI_add, nI_clamp (by omega)]
  rw [i0, i1, i2]
  show upd (upd (upd st.2 (3 * st.1) (nI a)) (3 * st.1 + 1) (nI b)) (3 * st.1 + 2) (nI c) (3 * k) = _ ∧ upd (upd (upd st.2 (3 * st.1) (nI a)) (3 * st.1 + 1) (nI b)) (3 * st.1 + 2) (nI c) (3 * k + 1) = _ ∧ upd (upd (upd st.2 (3 * st.1) (nI a)) (3 * st.1 + 1) (nI b)) (3 * st.1 + 2) (nI c) (3 * k + 2) = _
  simp only [upd_if]
  by_cases e : k < st.1
  · rw [if_pos e, if_neg (by omega), if_neg (by omega), if_neg (by omega), if_neg (by omega), if_neg (by omega), if_neg (by omega), if_neg (by omega), if_neg (by omega), if_neg (by omega)]
    exact h2 k e
  · have : k = st.1 := by
      have : k < st.1 + 1 := hk
      omega
    subst this
    rw [if_neg e, if_neg (by omega), if_neg (by omega), if_pos rfl, if_neg (by omega), if_pos rfl, if_pos rfl]
    refine ⟨by congr 1; omega, by congr 1; omega, by congr 1; omega⟩
theorem lt1_skip {st : Nat × (Nat → Int32)} {a b c : Int32} (h : c ≤ b) : m_lt1 st a b c = st := by unfold m_lt1; rw [if_pos h]
theorem m1_le {b : Nat} (hb : b < 2 ^ 31) : (-1 : Int32) ≤ nI b := by
  rw [Int32.le_iff_toInt_le, nI_toInt hb]
  have e1 : (-1 : Int32).toInt = -1 := rfl
  omega
theorem min_m1 {c : Nat} (hc : c < 2 ^ 31) : min32 (nI c) (-1) = -1 ∧ min32 (-1) (nI c) = -1 ∧ max32 (nI c) (-1) = nI c ∧ max32 (-1) (nI c) = nI c := by
  have h := m1_le hc
  have h2 : (-1 : Int32) < nI c := by
    rw [Int32.lt_iff_toInt_lt, nI_toInt hc]
    have e1 : (-1 : Int32).toInt = -1 := rfl
    omega
  have h3 : ¬ nI c < (-1 : Int32) := by
    rw [Int32.lt_iff_toInt_lt, nI_toInt hc]
    have e1 : (-1 : Int32).toInt = -1 := rfl
    omega
  unfold min32 max32
  exact ⟨if_pos h2, if_neg h3, if_neg h3, if_pos h2⟩
section C
variable {n t : Nat} {P : Nat → g_P} {L : Nat → Nat → Option Nat} {f : Nat → Nat} {lf : Nat → Int32}
theorem ltS_eq (h : tr_Tri n P L) (hn : n ≤ 17) (hL : ti_L L lf) (he : en_ (tr_S L) t f) (ht : t ≤ 28) {a b : Nat} (hab : a < b) (hb : b < n) {st : Nat × (Nat → Int32)} (hst : li_ L ((a * 32 + b) * 32) st) : li_ L ((a * 32 + (b + 1)) * 32) (m_ltS lf a b st) := by
  have el : ∀ z, tr_S L z → (a * 32 + b) * 32 ≤ z → z < (a * 32 + (b + 1)) * 32 → ∃ c, b < c ∧ c < n ∧ z = (a * 32 + b) * 32 + c ∧ (L a b = some c ∨ L b a = some c) := by
    intro z hz h1 h2
    obtain ⟨a', b', c', k1, k2, k3, k4, k5⟩ := (tr_S_sorted h hn).mp hz
    have : a' = a ∧ b' = b := by omega
    obtain ⟨rfl, rfl⟩ := this
    exact ⟨c', k2, k3, k4, k5⟩
  have inS : ∀ c, b < c → (L a b = some c ∨ L b a = some c) → tr_S L ((a * 32 + b) * 32 + c) := by
    intro c hc k
    have : c < n := by
      rcases k with k | k
      · exact (h _ _ _ k).2.2.1
      · exact (h _ _ _ k).2.2.1
    exact (tr_S_sorted h hn).mpr ⟨a, b, c, hab, hc, this, rfl, k⟩
  unfold m_ltS
  rw [m_left_eq hL (by omega) (by omega), m_left_eq hL (by omega) (by omega)]
  -- one way alone
  have one : ∀ c, c < n → (L a b = some c ∨ L b a = some c) → (∀ c', (L a b = some c' ∨ L b a = some c') → c' = c) → li_ L ((a * 32 + (b + 1)) * 32) (m_lt1 st (nI a) (nI b) (nI c)) := by
    intro c hc k ku
    rcases Nat.lt_or_ge b c with w | w
    · refine (hst.app he ht (by omega) (by omega) (by omega) w (inS c w k) (by omega) (fun z hz h1 => ?_)).skip (by omega) (fun z hz h1 => ?_)
      · rcases Nat.lt_or_ge z ((a * 32 + (b + 1)) * 32) with v | v
        · obtain ⟨c', k1, k2, k3, k4⟩ := el z hz h1 v
          have := ku c' k4
          omega
        · omega
      · rcases Nat.lt_or_ge z ((a * 32 + (b + 1)) * 32) with v | v
        · obtain ⟨c', k1, k2, k3, k4⟩ := el z hz (by omega) v
          have := ku c' k4
          omega
        · exact v
    · rw [lt1_skip ((nI_leI (by omega) (by omega)).mpr w)]
      refine hst.skip (by omega) (fun z hz h1 => ?_)
      rcases Nat.lt_or_ge z ((a * 32 + (b + 1)) * 32) with v | v
      · obtain ⟨c', k1, k2, k3, k4⟩ := el z hz h1 v
        have := ku c' k4
        omega
      · exact v
  have two : ∀ c d, c < d → d < n → (L a b = some c ∨ L b a = some c) → (L a b = some d ∨ L b a = some d) → (∀ c', (L a b = some c' ∨ L b a = some c') → c' = c ∨ c' = d) → li_ L ((a * 32 + (b + 1)) * 32) (m_lt1 (m_lt1 st (nI a) (nI b) (nI c)) (nI a) (nI b) (nI d)) := by
    intro c d hcd hd k k' ku
    rcases Nat.lt_or_ge b c with w | w
    · refine ((hst.app he ht (by omega) (by omega) (by omega) w (inS c w k) (by omega) (fun z hz h1 => ?_)).app he ht (by omega) (by omega) (by omega) (show b < d by omega) (inS d (by omega) k') (by omega) (fun z hz h1 => ?_)).skip (by omega) (fun z hz h1 => ?_)
      · rcases Nat.lt_or_ge z ((a * 32 + (b + 1)) * 32) with v | v
        · obtain ⟨c', k1, k2, k3, k4⟩ := el z hz h1 v
          have := ku c' k4
          omega
        · omega
      · rcases Nat.lt_or_ge z ((a * 32 + (b + 1)) * 32) with v | v
        · obtain ⟨c', k1, k2, k3, k4⟩ := el z hz (by omega) v
          have := ku c' k4
          omega
        · omega
      · rcases Nat.lt_or_ge z ((a * 32 + (b + 1)) * 32) with v | v
        · obtain ⟨c', k1, k2, k3, k4⟩ := el z hz (by omega) v
          have := ku c' k4
          omega
        · exact v
    · rw [lt1_skip (st := st) ((nI_leI (by omega) (by omega)).mpr w)]
      rcases Nat.lt_or_ge b d with w2 | w2
      · refine (hst.app he ht (by omega) (by omega) (by omega) w2 (inS d w2 k') (by omega) (fun z hz h1 => ?_)).skip (by omega) (fun z hz h1 => ?_)
        · rcases Nat.lt_or_ge z ((a * 32 + (b + 1)) * 32) with v | v
          · obtain ⟨c', k1, k2, k3, k4⟩ := el z hz h1 v
            have := ku c' k4
            omega
          · omega
        · rcases Nat.lt_or_ge z ((a * 32 + (b + 1)) * 32) with v | v
          · obtain ⟨c', k1, k2, k3, k4⟩ := el z hz (by omega) v
            have := ku c' k4
            omega
          · exact v
      · rw [lt1_skip ((nI_leI (by omega) (by omega)).mpr w2)]
        refine hst.skip (by omega) (fun z hz h1 => ?_)
        rcases Nat.lt_or_ge z ((a * 32 + (b + 1)) * 32) with v | v
        · obtain ⟨c', k1, k2, k3, k4⟩ := el z hz h1 v
          have := ku c' k4
          omega
        · exact v
  have s1 : ∀ st' : Nat × (Nat → Int32), m_lt1 st' (nI a) (nI b) (-1) = st' := fun st' => lt1_skip (m1_le (by omega))
  cases e1 : L a b with
  | none =>
    cases e2 : L b a with
    | none =>
      show li_ L _ (m_lt1 (m_lt1 st (nI a) (nI b) (-1)) (nI a) (nI b) (-1))
      rw [s1, s1]
      refine hst.skip (by omega) (fun z hz h1 => ?_)
      rcases Nat.lt_or_ge z ((a * 32 + (b + 1)) * 32) with v | v
      · obtain ⟨c', k1, k2, k3, k4⟩ := el z hz h1 v
        rw [e1, e2] at k4
        simp at k4
      · exact v
    | some d =>
      have hd := (h _ _ _ e2).2.2.1
      show li_ L _ (m_lt1 (m_lt1 st (nI a) (nI b) (min32 (-1) (nI d))) (nI a) (nI b) (max32 (-1) (nI d)))
      rw [(min_m1 (c := d) (by omega)).2.1, (min_m1 (c := d) (by omega)).2.2.2, s1]
      refine one d hd (Or.inr e2) (fun c' k => ?_)
      rw [e1, e2] at k
      simp at k; omega
  | some c =>
    have hc := (h _ _ _ e1).2.2.1
    cases e2 : L b a with
    | none =>
      show li_ L _ (m_lt1 (m_lt1 st (nI a) (nI b) (min32 (nI c) (-1))) (nI a) (nI b) (max32 (nI c) (-1)))
      rw [(min_m1 (c := c) (by omega)).1, (min_m1 (c := c) (by omega)).2.2.1, s1]
      refine one c hc (Or.inl e1) (fun c' k => ?_)
      rw [e1, e2] at k
      simp at k; omega
    | some d =>
      have hd := (h _ _ _ e2).2.2.1
      have ncd : c ≠ d := by
        rintro rfl
        have := (h _ _ _ e1).2.2.2.1
        have := (h _ _ _ e2).2.2.2.1
        have := gO_swap (P a) (P b) (P c)
        omega
      show li_ L _ (m_lt1 (m_lt1 st (nI a) (nI b) (min32 (nI c) (nI d))) (nI a) (nI b) (max32 (nI c) (nI d)))
      rw [min_nI (by omega) (by omega), max_nI (by omega) (by omega)]
      rcases Nat.lt_or_ge c d with w | w
      · rw [Nat.min_eq_left (by omega), Nat.max_eq_right (by omega)]
        refine two c d w hd (Or.inl e1) (Or.inr e2) (fun c' k => ?_)
        rw [e1, e2] at k
        simp at k; omega
      · rw [Nat.min_eq_right (by omega), Nat.max_eq_left (by omega)]
        refine two d c (by omega) hc (Or.inr e2) (Or.inl e1) (fun c' k => ?_)
        rw [e1, e2] at k
        simp at k; omega
theorem ltI_eq (h : tr_Tri n P L) (hn : n ≤ 17) (hL : ti_L L lf) (he : en_ (tr_S L) t f) (ht : t ≤ 28) {a : Nat} (ha : a < n) {st : Nat × (Nat → Int32)} (hst : li_ L ((a * 32) * 32) st) : ∀ b, b ≤ n → li_ L ((a * 32 + b) * 32) (m_ltI lf a st b)
  | 0, _ => hst
  | b + 1, hb => by
    have i := ltI_eq h hn hL he ht ha hst b (by omega)
    show li_ L _ (if b ≤ a then m_ltI lf a st b else m_ltS lf a b (m_ltI lf a st b))
    by_cases w : b ≤ a
    · rw [if_pos w]
      refine i.skip (by omega) (fun z hz h1 => ?_)
      obtain ⟨a', b', c', k1, k2, k3, k4, k5⟩ := (tr_S_sorted h hn).mp hz
      omega
    · rw [if_neg w]
      exact ltS_eq h hn hL he ht (by omega) (by omega) i
theorem ltO_eq (h : tr_Tri n P L) (hn : n ≤ 17) (hL : ti_L L lf) (he : en_ (tr_S L) t f) (ht : t ≤ 28) (co : Nat → Int32) : ∀ a, a ≤ n → li_ L ((a * 32) * 32) (m_ltO lf n (0, co) a)
  | 0, _ => ⟨fun _ => 0, ⟨fun i j _ hj => absurd hj (Nat.not_lt_zero _), fun i hi => absurd hi (Nat.not_lt_zero _), fun z hz => by have := hz.2; omega⟩, fun k hk => absurd hk (Nat.not_lt_zero _)⟩
  | a + 1, ha => by
    have i := ltI_eq h hn hL he ht (a := a) (by omega) (ltO_eq h hn hL he ht co a (by omega)) n (Nat.le_refl n)
    show li_ L _ (m_ltI lf a (m_ltO lf n (0, co) a) n)
    refine i.skip (by omega) (fun z hz h1 => ?_)
    obtain ⟨a', b', c', k1, k2, k3, k4, k5⟩ := (tr_S_sorted h hn).mp hz
    rcases Nat.lt_or_ge a a' with w | w
    · omega
    · have : a' * 1024 ≤ a * 1024 := by omega
      omega
/-- the class lists what the reference keeps -/
theorem list_eq (h : tr_Tri n P L) (hn : n ≤ 17) (hL : ti_L L lf) (he : en_ (tr_S L) t f) (ht : t ≤ 28) (co : Nat → Int32) : (m_list n lf co).1 = t ∧ ti_C t f (m_list n lf co).2 := by
  obtain ⟨f', h1, h2⟩ := ltO_eq h hn hL he ht co n (Nat.le_refl n)
  have h3 : en_ (tr_S L) (m_ltO lf n (0, co) n).1 f' := by
    refine h1.congr (fun z => ⟨fun q => ⟨q, ?_⟩, fun q => q.1⟩) (fun i _ => rfl)
    obtain ⟨a', b', c', k1, k2, k3, k4, k5⟩ := (tr_S_sorted h hn).mp q
    omega
  obtain ⟨e1, e2⟩ := he.uniq h3
  refine ⟨e1.symm, fun k hk => ?_⟩
  have := h2 k (by rw [← e1]; exact hk)
  rw [e2 k hk]; exact this
end C

