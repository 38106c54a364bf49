/-! the digest -/
theorem dgF_congr {f g : Nat → Int32} {d e : Int64} (hd : d = e) : ∀ {k : Nat}, (∀ j, j < k → f j = g j) → dgF f d k = dgF g e k
  | 0, _ => hd
  | k + 1, h => by
    have i := dgF_congr hd (k := k) (fun j hj => h j (by omega))
    simp only [dgF, i, h k (by omega)]
theorem dgO_congr {f g : Nat → Nat → Int32} {w : Nat} {d e : Int64} (hd : d = e) : ∀ {k : Nat}, (∀ i, i < k → ∀ j, j < w → f i j = g i j) → dgO f w d k = dgO g w e k
  | 0, _ => hd
  | k + 1, h => by
    have i := dgO_congr hd (k := k) (fun j hj => h j (by omega))
    exact dgF_congr i (h k (by omega))
theorem dgI_congr {hf hg : Nat → Nat → Bool} {f g : Nat → Nat → Nat → Int32} {i : Nat} {d e : Int64} (hd : d = e) : ∀ {k : Nat}, (∀ j, j < k → hf i j = hg i j) → (∀ j, j < k → ∀ m, m < 3 → f i j m = g i j m) → dgI hf f i d k = dgI hg g i e k
  | 0, _, _ => hd
  | k + 1, h1, h2 => by
    have q := dgI_congr (hf := hf) (hg := hg) (f := f) (g := g) (i := i) hd (k := k) (fun j hj => h1 j (by omega)) (fun j hj => h2 j (by omega))
    show (if k ≤ i then _ else if hf i k = true then _ else _) = (if k ≤ i then _ else if hg i k = true then _ else _)
    rw [h1 k (by omega)]
    by_cases a : k ≤ i
    · rw [if_pos a, if_pos a]; exact q
    · rw [if_neg a, if_neg a]
      by_cases b : hg i k = true
      · rw [if_pos b, if_pos b]
        exact dgF_congr (by rw [q]) (h2 k (by omega))
      · rw [if_neg b, if_neg b]; exact q
theorem dgE_congr {hf hg : Nat → Nat → Bool} {f g : Nat → Nat → Nat → Int32} {n : Nat} {d e : Int64} (hd : d = e) : ∀ {k : Nat}, (∀ i, i < k → ∀ j, j < n → hf i j = hg i j) → (∀ i, i < k → ∀ j, j < n → ∀ m, m < 3 → f i j m = g i j m) → dgE hf f n d k = dgE hg g n e k
  | 0, _, _ => hd
  | k + 1, h1, h2 => by
    have q := dgE_congr (hf := hf) (hg := hg) (f := f) (g := g) (n := n) hd (k := k) (fun j hj => h1 j (by omega)) (fun j hj => h2 j (by omega))
    exact dgI_congr q (h1 k (by omega)) (h2 k (by omega))
section Q
variable {n t : Nat} {P : Nat → g_P} {L : Nat → Nat → Option Nat} {St : Nat → Nat → Bool} {f : Nat → Nat} {xs ys lf sy co : Nat → Int32} {xr yr tb : Nat → Int32} {sg : Nat → Nat → Int32} {p : g_P}
theorem dgH_eq (h : ti_A n t P L St f) (hL : ti_L L lf) (hT : ti_T t f tb) {i j : Nat} (hi : i < n) (hj : j < n) : x_dgH lf i j = r_dgH t tb i j := by
  have hn := h.n17
  unfold x_dgH r_dgH r_nz
  rw [m_edge_eq h hL (by omega) (by omega)]
  have i0 := r_sides_0 h hT hi hj
  cases e : eB L i j with
  | false => rw [if_pos (i0.mpr e)]
  | true => rw [if_neg (fun q => by rw [i0.mp q] at e; cases e)]
theorem digest_eq (h : ti_A n t P L St f) (hm : ti_m n t P L St f xs ys lf sy co) (hr : ti_r n t P St f xr yr tb sg) {hs hr' : Nat → Int32} (hn : n ≤ 16) (hh : ∀ i, i < n → hs i = hr' i) (fl : Int32) : x_digest n t hs xs ys lf sy co fl = r_digest n t xr yr hr' tb sg fl := by
  unfold x_digest r_digest
  refine dgE_congr (dgO_congr (dgO_congr (dgF_congr rfl (fun w hw => cnt_eq h hm hr hw)) (fun c hc w hw => cFact_eq h hm hr hn hh hc hw)) (fun k hk w hw => tFact_eq h hm hr hk hw)) (fun i hi j hj => dgH_eq h hm.2.1 hr.2.1 hi hj) (fun i hi j hj k hk => ?_)
  unfold x_dg4 r_dg4 x_eFact
  rw [eT_eq h hm hr hi hj (by omega)]
end Q
/-! the way -/
def rcB (L : Nat → Nat → Option Nat) (n a : Nat) : Nat → Nat → Bool
  | 0 => fun b => decide (b = a)
  | k + 1 => fun b => rcB L n a k b || rg_any (fun c => rcB L n a k c && eB L c b) n
theorem rg_any_iff {p : Nat → Bool} : ∀ {k : Nat}, rg_any p k = true ↔ ∃ j, j < k ∧ p j = true
  | 0 => ⟨(fun q => nomatch q), fun ⟨j, hj, _⟩ => absurd hj (Nat.not_lt_zero _)⟩
  | k + 1 => by
    refine ⟨fun q => ?_, fun ⟨j, hj, e⟩ => rg_any_t e hj⟩
    unfold rg_any at q
    split at q
    · rename_i w
      obtain ⟨j, hj, e⟩ := rg_any_iff.mp w
      exact ⟨j, by omega, e⟩
    · exact ⟨k, by omega, q⟩
theorem rcB_succ {L : Nat → Nat → Option Nat} {n a k b : Nat} : rcB L n a (k + 1) b = true ↔ rcB L n a k b = true ∨ ∃ c, c < n ∧ rcB L n a k c = true ∧ eB L c b = true := by
  show (rcB L n a k b || rg_any (fun c => rcB L n a k c && eB L c b) n) = true ↔ _
  rw [Bool.or_eq_true, rg_any_iff]
  simp only [Bool.and_eq_true]
theorem rcB_mono {L : Nat → Nat → Option Nat} {n a b : Nat} {k : Nat} (h : rcB L n a k b = true) : ∀ j, rcB L n a (k + j) b = true
  | 0 => h
  | j + 1 => rcB_succ.mpr (Or.inl (rcB_mono h j))
theorem eB_E {L : Nat → Nat → Option Nat} {a b : Nat} : eB L a b = true ↔ tr_E L a b := by
  unfold eB tr_E
  cases e1 : L a b with
  | some c => exact ⟨fun _ => Or.inl ⟨c, rfl⟩, fun _ => rfl⟩
  | none =>
    cases e2 : L b a with
    | some d => exact ⟨fun _ => Or.inr ⟨d, rfl⟩, fun _ => rfl⟩
    | none => exact ⟨fun q => absurd q (by decide), fun q => by simp at q⟩
theorem rg_ct_all {p : Nat → Bool} : ∀ {k : Nat}, rg_ct p k = k → ∀ j, j < k → p j = true
  | 0, _, j, hj => absurd hj (Nat.not_lt_zero _)
  | k + 1, h, j, hj => by
    cases e : p k with
    | false =>
      rw [rg_ct_f e] at h
      have := rg_ct_le p k
      omega
    | true =>
      rw [rg_ct_t e] at h
      rcases Nat.lt_or_ge j k with z | z
      · exact rg_ct_all (k := k) (by omega) j z
      · have : j = k := by omega
        rw [this]; exact e
/-- every cairn is reached within n - 1 steps -/
theorem rcB_all {n : Nat} {P : Nat → g_P} {L : Nat → Nat → Option Nat} (h : tr_Ok n P L) {a : Nat} (ha : a < n) : ∀ k : Nat, (∀ b, b < n → rcB L n a k b = true) ∨ k + 1 ≤ rg_ct (rcB L n a k) n
  | 0 => by
    right
    have := rg_ct_one (p := rcB L n a 0) ha (fun j hj => by show decide (j = a) = true ↔ j = a; exact decide_eq_true_iff)
    omega
  | k + 1 => by
    rcases rcB_all h ha k with i | i
    · exact Or.inl (fun b hb => rcB_mono (i b hb) 1)
    · by_cases q : ∃ b, b < n ∧ rcB L n a k b = false ∧ rcB L n a (k + 1) b = true
      · obtain ⟨b, hb, q1, q2⟩ := q
        right
        have := tr_ct_lt (p := rcB L n a k) (q := rcB L n a (k + 1)) (fun e he => rcB_mono he 1) q1 q2 n hb
        omega
      · left
        refine fun b hb => rcB_mono (h.conn (fun x => rcB L n a k x = true) ⟨a, ha, ?_⟩ ?_ b hb) 1
        · have : rcB L n a (0 + k) a = true := rcB_mono (k := 0) (by show decide (a = a) = true; simp) k
          rw [Nat.zero_add] at this; exact this
        · intro x y hE hx
          have hxy : x < n ∧ y < n := by
            rcases hE with ⟨z, hz⟩ | ⟨z, hz⟩
            · have := h.tri _ _ _ hz; exact ⟨this.1, this.2.1⟩
            · have := h.tri _ _ _ hz; exact ⟨this.2.1, this.1⟩
          cases e : rcB L n a k y with
          | true => rfl
          | false => exact absurd ⟨y, hxy.2, e, rcB_succ.mpr (Or.inr ⟨x, hxy.1, hx, eB_E.mpr hE⟩)⟩ q
theorem rcB_K {n : Nat} {P : Nat → g_P} {L : Nat → Nat → Option Nat} (h : tr_Ok n P L) {a b : Nat} (ha : a < n) (hb : b < n) : ∃ K, K < n ∧ rcB L n a K b = true ∧ ∀ j, j < K → rcB L n a j b = false := by
  have hex : ∃ j, j < n ∧ rcB L n a j b = true := by
    rcases rcB_all h ha (n - 1) with i | i
    · exact ⟨n - 1, by omega, i b hb⟩
    · have := rg_ct_le (rcB L n a (n - 1)) n
      exact ⟨n - 1, by omega, rg_ct_all (by omega) b hb⟩
  obtain ⟨i, -, h1, h2, h3⟩ := rg_fst_ex (p := fun j => rcB L n a j b) hex
  exact ⟨i, h1, h2, h3⟩
/-! the way: the reference's rows of steps -/
section W
variable {n t : Nat} {P : Nat → g_P} {L : Nat → Nat → Option Nat} {St : Nat → Nat → Bool} {f : Nat → Nat} {lf tb : Nat → Int32}
theorem nI_next {q : Nat} (hq : q < 1000) : ¬ nI q + 1 = -1 ∧ ¬ nI q = -1 ∧ ¬ nI q + 1 = nI q := by
  rw [nI_1]
  exact ⟨nI_m19w (by omega), nI_m19w (by omega), fun e => by have := (nI_eq (by omega) (by omega)).mp e; omega⟩
theorem wfI_eq (h : ti_A n t P L St f) (hT : ti_T t f tb) {q c : Nat} (hq : q < 1000) (hc : c < n) {g : Nat → Int32} (x : Nat) : ∀ d, d ≤ n → r_wfI t tb q c g d x = if x < d ∧ g c = nI q ∧ g x = -1 ∧ eB L c x = true then nI q + 1 else g x
  | 0, _ => by show g x = _; rw [if_neg (by omega)]
  | d + 1, hd => by
    have i := fun x => wfI_eq h hT hq hc (g := g) x d (by omega)
    obtain ⟨n1, n2, n3⟩ := nI_next hq
    have ic : r_wfI t tb q c g d c = nI q ↔ g c = nI q := by
      rw [i c]
      split
      · rename_i w
        refine ⟨fun e => absurd e n3, fun e => ?_⟩
        rw [e] at w
        exact absurd w.2.2.1 n2
      · exact Iff.rfl
    have idd : r_wfI t tb q c g d d = g d := by rw [i d, if_neg (by omega)]
    have i0 := r_sides_le h hT hc (b := d) (by omega)
    show (if r_wfI t tb q c g d c = nI q then (if r_wfI t tb q c g d d = (-1) then (if r_sides t tb (nI c) (nI d) ≤ 0 then r_wfI t tb q c g d else upd (r_wfI t tb q c g d) d (nI q + 1)) else r_wfI t tb q c g d) else r_wfI t tb q c g d) x = _
    rw [idd]
    by_cases a1 : g c = nI q
    · rw [if_pos (ic.mpr a1)]
      by_cases a2 : g d = -1
      · rw [if_pos a2]
        by_cases a3 : eB L c d = true
        · rw [if_neg (fun z => by rw [i0.mp z] at a3; cases a3)]
          by_cases e : x = d
          · subst e
            rw [pk_us, if_pos ⟨by omega, a1, a2, a3⟩]
          · rw [pk_un e, i x]
            by_cases w : x < d ∧ g c = nI q ∧ g x = -1 ∧ eB L c x = true
            · rw [if_pos w, if_pos ⟨by omega, w.2⟩]
            · rw [if_neg w, if_neg (fun z => w ⟨by omega, z.2⟩)]
        · rw [if_pos (i0.mpr (by simpa using a3)), i x]
          by_cases w : x < d ∧ g c = nI q ∧ g x = -1 ∧ eB L c x = true
          · rw [if_pos w, if_pos ⟨by omega, w.2⟩]
          · rw [if_neg w, if_neg (fun z => by
              by_cases e : x = d
              · subst e; exact a3 z.2.2.2
              · exact w ⟨by omega, z.2⟩)]
      · rw [if_neg a2, i x]
        by_cases w : x < d ∧ g c = nI q ∧ g x = -1 ∧ eB L c x = true
        · rw [if_pos w, if_pos ⟨by omega, w.2⟩]
        · rw [if_neg w, if_neg (fun z => by
            by_cases e : x = d
            · subst e; exact a2 z.2.2.1
            · exact w ⟨by omega, z.2⟩)]
    · rw [if_neg (fun z => a1 (ic.mp z)), i x, if_neg (fun z => a1 z.2.1), if_neg (fun z => a1 z.2.1)]
theorem wfO_eq (h : ti_A n t P L St f) (hT : ti_T t f tb) {q : Nat} (hq : q < 1000) {g : Nat → Int32} (x : Nat) : ∀ c, c ≤ n → ((x < n ∧ g x = -1 ∧ ∃ c', c' < c ∧ g c' = nI q ∧ eB L c' x = true) → r_wfO t tb n q g c x = nI q + 1) ∧ (¬ (x < n ∧ g x = -1 ∧ ∃ c', c' < c ∧ g c' = nI q ∧ eB L c' x = true) → r_wfO t tb n q g c x = g x)
  | 0, _ => ⟨fun ⟨_, _, c', hc, _⟩ => absurd hc (Nat.not_lt_zero _), fun _ => rfl⟩
  | c + 1, hc => by
    have i := fun x => wfO_eq h hT hq (g := g) x c (by omega)
    obtain ⟨n1, n2, n3⟩ := nI_next hq
    have ic : ∀ y, r_wfO t tb n q g c y = nI q ↔ g y = nI q := by
      intro y
      by_cases w : y < n ∧ g y = -1 ∧ ∃ c', c' < c ∧ g c' = nI q ∧ eB L c' y = true
      · rw [(i y).1 w]
        refine ⟨fun e => absurd e n3, fun e => ?_⟩
        rw [e] at w
        exact absurd w.2.1 n2
      · rw [(i y).2 w]
    have e : r_wfO t tb n q g (c + 1) x = r_wfI t tb q c (r_wfO t tb n q g c) n x := rfl
    rw [e, wfI_eq h hT hq (by omega) x n (Nat.le_refl n)]
    by_cases w : x < n ∧ g x = -1 ∧ ∃ c', c' < c ∧ g c' = nI q ∧ eB L c' x = true
    · rw [(i x).1 w, if_neg (fun z => n1 z.2.2.1)]
      exact ⟨fun _ => rfl, fun z => absurd ⟨w.1, w.2.1, w.2.2.choose, by have := w.2.2.choose_spec.1; omega, w.2.2.choose_spec.2⟩ z⟩
    · rw [(i x).2 w]
      by_cases v : x < n ∧ r_wfO t tb n q g c c = nI q ∧ g x = -1 ∧ eB L c x = true
      · rw [if_pos v]
        exact ⟨fun _ => rfl, fun z => absurd ⟨v.1, v.2.2.1, c, by omega, (ic c).mp v.2.1, v.2.2.2⟩ z⟩
      · rw [if_neg v]
        refine ⟨fun ⟨z1, z2, c', z3, z4, z5⟩ => ?_, fun _ => rfl⟩
        exfalso
        by_cases e2 : c' = c
        · subst e2; exact v ⟨z1, (ic c').mpr z4, z2, z5⟩
        · exact w ⟨z1, z2, c', by omega, z4, z5⟩
theorem wf0_eq {a : Int32} : ∀ (k : Nat) {x : Nat}, x < k → r_wf0 a k x = if nI x = a then 0 else -1
  | 0, x, h => absurd h (Nat.not_lt_zero _)
  | k + 1, x, h => by
    show upd (r_wf0 a k) k (if nI k = a then 0 else (-1)) x = _
    by_cases e : x = k
    · subst e; rw [pk_us]
    · rw [pk_un e]; exact wf0_eq k (by omega)
theorem wf_eq (h : ti_A n t P L St f) (hT : ti_T t f tb) (hn : n ≤ 16) {a : Nat} (ha : a < n) : ∀ q, q < 1000 → ∀ x, x < n → (rcB L n a q x = false ∧ r_wf t tb n (r_wf0 (nI a) 16) q x = -1) ∨ ∃ d, d ≤ q ∧ rcB L n a d x = true ∧ (∀ j, j < d → rcB L n a j x = false) ∧ r_wf t tb n (r_wf0 (nI a) 16) q x = nI d
  | 0, _, x, hx => by
    show (rcB L n a 0 x = false ∧ r_wf0 (nI a) 16 x = -1) ∨ _
    rw [wf0_eq 16 (by omega)]
    by_cases e : x = a
    · subst e
      refine Or.inr ⟨0, by omega, by show decide (x = x) = true; simp, fun j hj => absurd hj (Nat.not_lt_zero _), ?_⟩
      show r_wf0 (nI x) 16 x = _
      rw [wf0_eq 16 (by omega), if_pos rfl]; rfl
    · rw [if_neg (fun z => e ((nI_eq (by omega) (by omega)).mp z))]
      exact Or.inl ⟨by show decide (x = a) = false; simp [e], rfl⟩
  | q + 1, hq, x, hx => by
    have i := wf_eq h hT hn ha q (by omega)
    obtain ⟨n1, n2, n3⟩ := nI_next (q := q) (by omega)
    have o := wfO_eq h hT (q := q) (by omega) (g := r_wf t tb n (r_wf0 (nI a) 16) q) x n (Nat.le_refl n)
    have e : r_wf t tb n (r_wf0 (nI a) 16) (q + 1) = r_wfO t tb n q (r_wf t tb n (r_wf0 (nI a) 16) q) n := rfl
    rw [e]
    rcases i x hx with ⟨i1, i2⟩ | ⟨d, d1, d2, d3, d4⟩
    · by_cases w : ∃ c, c < n ∧ rcB L n a q c = true ∧ eB L c x = true
      · obtain ⟨c, c1, c2, c3⟩ := w
        have hcq : r_wf t tb n (r_wf0 (nI a) 16) q c = nI q := by
          rcases i c c1 with ⟨j1, -⟩ | ⟨d, d1, d2, d3, d4⟩
          · rw [j1] at c2; cases c2
          · have : d = q := by
              rcases Nat.lt_or_ge d q with z | z
              · exfalso
                have : rcB L n a (d + 1) x = true := rcB_succ.mpr (Or.inr ⟨c, c1, d2, c3⟩)
                have := rcB_mono this (q - (d + 1))
                rw [show d + 1 + (q - (d + 1)) = q from by omega] at this
                rw [this] at i1; cases i1
              · omega
            subst this; exact d4
        refine Or.inr ⟨q + 1, by omega, rcB_succ.mpr (Or.inr ⟨c, c1, c2, c3⟩), fun j hj => ?_, ?_⟩
        · cases e2 : rcB L n a j x with
          | false => rfl
          | true =>
            have := rcB_mono e2 (q - j)
            rw [show j + (q - j) = q from by omega] at this
            rw [this] at i1; cases i1
        · rw [o.1 ⟨hx, i2, c, c1, hcq, c3⟩, nI_1]
      · refine Or.inl ⟨?_, ?_⟩
        · cases e2 : rcB L n a (q + 1) x with
          | false => rfl
          | true =>
            rcases rcB_succ.mp e2 with z | z
            · rw [z] at i1; cases i1
            · exact absurd z w
        · rw [o.2 (fun ⟨_, _, c, c1, c2, c3⟩ => by
            rcases i c c1 with ⟨j1, j2⟩ | ⟨d, d1, d2, d3, d4⟩
            · rw [j2] at c2; exact n2 c2.symm
            · apply w
              refine ⟨c, c1, ?_, c3⟩
              have := rcB_mono d2 (q - d)
              rwa [show d + (q - d) = q from by omega] at this)]
          exact i2
    · refine Or.inr ⟨d, by omega, d2, d3, ?_⟩
      rw [o.2 (fun z => by rw [d4] at z; exact nI_m19w (by omega) z.2.1)]
      exact d4
/-- the reference's way -/
theorem r_way_ok (h : ti_A n t P L St f) (hT : ti_T t f tb) (hn : n ≤ 16) {a b K : Nat} (ha : a < n) (hb : b < n) (hK : K < n) (h1 : rcB L n a K b = true) (h2 : ∀ j, j < K → rcB L n a j b = false) : r_okW n t tb (nI a) (nI b) K ∧ r_wf t tb n (r_wf0 (nI a) 16) K (nI b).toNatClampNeg = nI K := by
  have e : (nI b).toNatClampNeg = b := nI_clamp (by omega)
  unfold r_okW
  rw [e]
  have v : r_wf t tb n (r_wf0 (nI a) 16) K b = nI K := by
    rcases wf_eq h hT hn ha K (by omega) b hb with ⟨i1, -⟩ | ⟨d, d1, d2, d3, d4⟩
    · rw [i1] at h1; cases h1
    · have : d = K := by
        rcases Nat.lt_or_ge d K with z | z
        · rw [h2 d z] at d2; cases d2
        · omega
      subst this; exact d4
  refine ⟨⟨by omega, by rw [v]; exact nI_m19w (by omega), fun q hq => ?_⟩, v⟩
  rcases wf_eq h hT hn ha q (by omega) b hb with ⟨i1, i2⟩ | ⟨d, d1, d2, d3, d4⟩
  · exact i2
  · rw [h2 d (by omega)] at d2; cases d2
end W
/-! the way: the class's bits -/
theorem bit_pos {j : Nat} (hj : j < 32) : ((nI j &&& 31).toBitVec.smod 32).toNat = j := by
  rw [pk_andN (by omega) 5 (by decide), Nat.mod_eq_of_lt (by omega)]
  have : ∀ j : Fin 32, ((nI j.val).toBitVec.smod 32).toNat = j.val := by decide
  exact this ⟨j, hj⟩
theorem m_bit_iff {r : Int32} {j : Nat} (hj : j < 31) : m_bit r (nI j) = 1 ↔ r.toBitVec.getLsbD j = true := by
  unfold m_bit
  have e : ((r >>> (nI j &&& 31)) &&& 1).toBitVec = (r.toBitVec.sshiftRight j) &&& 1#32 := by
    rw [Int32.toBitVec_and, Int32.toBitVec_shiftRight]
    rw [BitVec.sshiftRight', bit_pos (by omega)]
    rfl
  have e2 : ((r >>> (nI j &&& 31)) &&& 1) = 1 ↔ (r.toBitVec.sshiftRight j) &&& 1#32 = 1#32 := by
    rw [← Int32.toBitVec_inj, e]; exact Iff.rfl
  rw [e2]
  have e3 : (r.toBitVec.sshiftRight j).getLsbD 0 = r.toBitVec.getLsbD j := by
    rw [BitVec.getLsbD_sshiftRight]
    simp
    omega
  constructor
  · intro q
    have := congrArg (fun z : BitVec 32 => z.getLsbD 0) q
    simp only [BitVec.getLsbD_and] at this
    rw [e3] at this
    simpa using this
  · intro q
    apply BitVec.eq_of_getLsbD_eq
    intro i hi
    rw [BitVec.getLsbD_and]
    by_cases z : i = 0
    · subst z; rw [e3, q]; rfl
    · have : (1#32).getLsbD i = false := by
        rw [BitVec.getLsbD_one]; simp [z]
      rw [this, Bool.and_false]
theorem or_bit {w : Int32} {b j : Nat} (hb : b < 31) (hj : j < 31) : (w ||| (1 <<< (nI b &&& 31))).toBitVec.getLsbD j = (w.toBitVec.getLsbD j || decide (j = b)) := by
  rw [Int32.toBitVec_or, Int32.toBitVec_shiftLeft, BitVec.getLsbD_or]
  congr 1
  rw [BitVec.shiftLeft_eq', bit_pos (by omega), BitVec.getLsbD_shiftLeft]
  show (decide (j < 32) && !decide (j < b) && (1#32).getLsbD (j - b)) = _
  rw [BitVec.getLsbD_one]
  by_cases e : j = b
  · subst e; simp; omega
  · simp [e]; omega
abbrev gB (r : Int32) (j : Nat) : Bool := r.toBitVec.getLsbD j
section W
variable {n t : Nat} {P : Nat → g_P} {L : Nat → Nat → Option Nat} {St : Nat → Nat → Bool} {f : Nat → Nat} {lf tb : Nat → Int32}
theorem wnS_eq (h : ti_A n t P L St f) (hL : ti_L L lf) {r w : Int32} {a b j : Nat} (ha : a < n) (hb : b < n) (hj : j < n) : gB (m_wnS lf r a b w) j = (gB w j || (gB r a && eB L a b && decide (j = b))) := by
  have hn := h.n17
  have i := m_bit_iff (r := r) (j := a) (by omega)
  unfold m_wnS
  rw [m_edge_eq h hL (by omega) (by omega)]
  cases e : gB r a with
  | false =>
    rw [if_neg (fun q => by rw [show gB r a = true from i.mp q] at e; cases e)]; simp
  | true =>
    rw [if_pos (i.mpr e)]
    cases e2 : eB L a b with
    | false => simp
    | true => rw [if_pos rfl]; show ((w ||| (1 <<< (nI b &&& 31))).toBitVec.getLsbD j) = _; rw [or_bit (by omega) (by omega)]; simp
theorem wnI_eq (h : ti_A n t P L St f) (hL : ti_L L lf) {r w : Int32} {a j : Nat} (ha : a < n) (hj : j < n) : ∀ b, b ≤ n → gB (m_wnI lf r a w b) j = (gB w j || (gB r a && eB L a j && decide (j < b)))
  | 0, _ => by show gB w j = _; simp
  | b + 1, hb => by
    show gB (m_wnS lf r a b (m_wnI lf r a w b)) j = _
    rw [wnS_eq h hL ha (by omega) hj, wnI_eq h hL ha hj b (by omega)]
    by_cases e : j = b
    · subst e
      simp
    · have : decide (j < b + 1) = decide (j < b) := by rw [decide_eq_decide]; omega
      rw [this]; simp [e]
theorem wnO_eq (h : ti_A n t P L St f) (hL : ti_L L lf) {r : Int32} {j : Nat} (hj : j < n) : ∀ a, a ≤ n → gB (m_wnO lf n r a) j = (gB r j || rg_any (fun c => gB r c && eB L c j) a)
  | 0, _ => by show gB r j = _; simp [rg_any]
  | a + 1, ha => by
    show gB (m_wnI lf r a (m_wnO lf n r a) n) j = _
    rw [wnI_eq h hL (by omega) hj n (Nat.le_refl n), wnO_eq h hL hj a (by omega)]
    have : rg_any (fun c => gB r c && eB L c j) (a + 1) = (rg_any (fun c => gB r c && eB L c j) a || (gB r a && eB L a j)) := by
      show (if rg_any (fun c => gB r c && eB L c j) a = true then true else _) = _
      cases rg_any (fun c => gB r c && eB L c j) a <;> simp
    rw [this, decide_eq_true hj, Bool.and_true, Bool.or_assoc]
theorem stR_eq (h : ti_A n t P L St f) (hL : ti_L L lf) {a : Nat} (ha : a < n) : ∀ k j, j < n → gB (m_stR n lf (m_st0 n (nI a)) k) j = rcB L n a k j
  | 0, j, hj => by
    have hn := h.n17
    show gB (m_st0 n (nI a)) j = decide (j = a)
    unfold m_st0
    rw [m_cairn_eq hn (by omega), decide_eq_true ha, if_pos rfl]
    have := or_bit (w := 0) (b := a) (j := j) (by omega) (by omega)
    rw [Int32.zero_or] at this
    show (1 <<< (nI a &&& 31) : Int32).toBitVec.getLsbD j = _
    rw [this]
    simp
  | k + 1, j, hj => by
    have hn := h.n17
    show gB (m_wnO lf n (m_stR n lf (m_st0 n (nI a)) k) n) j = (rcB L n a k j || rg_any (fun c => rcB L n a k c && eB L c j) n)
    rw [wnO_eq h hL hj n (Nat.le_refl n), stR_eq h hL ha k j hj]
    congr 1
    exact rg_any_congr (fun c hc => by rw [stR_eq h hL ha k c hc])
theorem m_way_eq (h : ti_A n t P L St f) (hL : ti_L L lf) {a b K : Nat} (ha : a < n) (hb : b < n) (hK : K < n) (h1 : rcB L n a K b = true) (h2 : ∀ j, j < K → rcB L n a j b = false) : m_steps n lf (nI a) (nI b) = nI K := by
  have hn := h.n17
  have e : ∀ k, m_pSt n lf (m_st0 n (nI a)) (nI b) k = rcB L n a k b := by
    intro k
    have i := m_bit_iff (r := m_stR n lf (m_st0 n (nI a)) k) (j := b) (by omega)
    have i2 := stR_eq h hL ha k b hb
    unfold m_pSt
    rw [m_cairn_eq hn (by omega), decide_eq_true hb, if_pos rfl]
    cases q : rcB L n a k b with
    | true => rw [if_pos (i.mpr (by rw [q] at i2; exact i2))]
    | false =>
      rw [q] at i2
      rw [if_neg (fun z => by have := i.mp z; rw [show gB (m_stR n lf (m_st0 n (nI a)) k) b = (m_stR n lf (m_st0 n (nI a)) k).toBitVec.getLsbD b from rfl, this] at i2; cases i2)]
  unfold m_steps
  rw [rg_fst_some (i := K) (by rw [e]; exact h1) (fun j hj => by rw [e]; exact h2 j hj) hK]
  rfl
end W

