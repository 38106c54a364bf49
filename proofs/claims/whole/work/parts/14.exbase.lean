/-! a cell beside the reference's world -/
section EX
variable {cI cZ cY : ClassId} {h qx qy qh qt qs : Nat} {rw : Nat → Nat} {th : Int32} {n : Nat} {xs ys hs : Nat → Int32} {t : Nat} {tb : Nat → Int32} {sg : Nat → Nat → Int32} {fl : Int32} {ex : va_W} {x y : Nat × va_E}
theorem wR_len : (wR cI cZ cY h qx qy qh qt qs rw th n xs ys hs t tb sg fl).length = 23 := rfl
theorem wR_ex : (wR cI cZ cY h qx qy qh qt qs rw th n xs ys hs t tb sg fl ++ [x])[23]? = some x := by
  rw [List.getElem?_append_right (Nat.le_of_eq wR_len), wR_len]; rfl
theorem wR_exset : (wR cI cZ cY h qx qy qh qt qs rw th n xs ys hs t tb sg fl ++ [x]).set 23 y = wR cI cZ cY h qx qy qh qt qs rw th n xs ys hs t tb sg fl ++ [y] := by
  rw [List.set_append_right _ _ (Nat.le_of_eq wR_len), wR_len]; rfl
theorem wR_rowE {i : Nat} (hi : i < 17) : (wR cI cZ cY h qx qy qh qt qs rw th n xs ys hs t tb sg fl ++ ex)[6 + i]? = some (rw i, .inl (cZ, 17, .inl (sg i))) := by
  rw [List.getElem?_append_left (show 6 + i < 23 by omega)]; exact wR_row hi
theorem wR_setE {i : Nat} {f : Nat → Int32} (hi : i < 17) : (wR cI cZ cY h qx qy qh qt qs rw th n xs ys hs t tb sg fl ++ ex).set (6 + i) (rw i, .inl (cZ, 17, .inl f)) = wR cI cZ cY h qx qy qh qt qs rw th n xs ys hs t tb (r_up sg i f) fl ++ ex := by
  rw [List.set_append_left _ _ (show 6 + i < 23 by omega), wR_set hi]
end EX
section NW
variable {p : Program} {l : Launch} {e : Env} {R : Room} {s : State} {m : MethodId} {args : Array Value} {below : List Frame} {meth : Method} {c : Code} {H : Heap} {locs : List Loc} {cells slots : Nat} {Q : State → Prop}
variable {cc : ByteArray} {pc : Nat} {ls : Array Slot} {rest : List Value} {D : va_G} {cl : List vw_C} {A : Nat → Prop} {a : Nat} {tys : List (ClassId × FieldType)} {ws : va_W} {H0 : Heap}
/-- new int[n], of the class of int arrays that is known -/
theorem rg_newi (hexec : p.tables.exec = Jvm.exec) (hb : c.code = cc) (harr : (Cond.arrayClass .int).before args s = true) {cA : ClassId} (hK : va_K D cl tys s) (t0 : Nat) (ht : tys[t0]? = some (cA, .int)) (hP : va_P D cl ws H) (hD : va_D A ws) (hS : va_S A H0 H locs) (hA : ∀ q, H0.size ≤ q → A q)
    {n : Int32} {N' : Nat} (hn : ¬ n < 0) (hN : n.toNatClampNeg = N') (hbytes : N' * 4 ≤ 536870912) (hcells : cells + 1 ≤ R.cells) (hslots : slots + N' ≤ R.slots) (hdg : decode cc pc = .ok (.newarray .int, 2))
    (kk : ∀ (q : Nat) (H1 : Heap), va_P D cl (ws ++ [(q, .inl (cA, N', .inl (fun _ => 0)))]) H1 → va_D A (ws ++ [(q, .inl (cA, N', .inl (fun _ => 0)))]) → va_S A H0 H1 locs → W p l e R s m args below meth c H1 locs (cells + 1) (slots + N') Q (F0 m (pc + 2) ls (.ref q :: rest))) : W p l e R s m args below meth c H locs cells slots Q (F0 m pc ls (.int n :: rest)) := by
  refine va_newa (atype := .int) (ty := .int) (a0 := (N', .inl (fun _ => 0))) hexec hb harr rfl hK hP hD hS hA (fun _ => rfl) hn hN hbytes hcells hslots hdg (fun q cB H1 hK1 hP1 hD1 hS1 => ?_)
  have e1 : s.vm.findClass ("[" ++ (FieldType.int).toString) = some cA := (hK.2 t0 _ ht).2
  have e2 : s.vm.findClass ("[" ++ (FieldType.int).toString) = some cB := (hK1.2 tys.length (cB, .int) (by rw [List.getElem?_append_right (Nat.le_refl _), Nat.sub_self]; rfl)).2
  have e3 : cB = cA := Option.some.inj (e2.symm.trans e1)
  subst e3
  exact kk q H1 hP1 hD1 hS1
end NW
/-! models -/
def r_cf (z : Int32) : Nat → Int32 := upd (upd (upd (fun _ => 0) (0 : Int32).toNatClampNeg (z / 32 / 32)) (1 : Int32).toNatClampNeg (z / 32 - z / 32 / 32 * 32)) (2 : Int32).toNatClampNeg (z - z / 32 * 32)
theorem r_cf0 (z : Int32) : r_cf z 0 = z / 32 / 32 := rfl
theorem r_cf1 (z : Int32) : r_cf z 1 = z / 32 - z / 32 / 32 * 32 := rfl
theorem r_cf2 (z : Int32) : r_cf z 2 = z - z / 32 * 32 := rfl
abbrev r_S3 : Type := Nat × (Nat → Int32) × (Nat → Nat → Int32)
/-- a new cairn n at x, y: what becomes of the edge a, b of a triangle that covers it -/
def r_spS (n : Nat) (xs ys : Nat → Int32) (x y a b : Int32) (st : r_S3) : r_S3 := if r_area xs ys a b x y = 0 then (if st.2.2 a.toNatClampNeg b.toNatClampNeg = 0 then st else (st.1, st.2.1, r_let (r_let st.2.2 a (nI n) 1) b (nI n) 1)) else (st.1 + 1, r_put st.1 st.2.1 a b (nI n), st.2.2)
def r_spK (n : Nat) (xs ys : Nat → Int32) (x y : Int32) (cf : Nat → Int32) (st : r_S3) : Nat → r_S3
  | 0 => st
  | k + 1 => r_spS n xs ys x y (cf k) (cf ((k + 1) % 3)) (r_spK n xs ys x y cf st k)
theorem r_spS_le {n : Nat} {xs ys : Nat → Int32} {x y a b : Int32} {st : r_S3} : (r_spS n xs ys x y a b st).1 ≤ st.1 + 1 := by
  unfold r_spS
  split
  · split
    · exact Nat.le_succ _
    · exact Nat.le_succ _
  · exact Nat.le_refl _
theorem r_spK_le {n : Nat} {xs ys : Nat → Int32} {x y : Int32} {cf : Nat → Int32} {st : r_S3} : ∀ k, (r_spK n xs ys x y cf st k).1 ≤ st.1 + k
  | 0 => Nat.le_refl _
  | k + 1 => by
    have h1 := r_spK_le (n := n) (xs := xs) (ys := ys) (x := x) (y := y) (cf := cf) (st := st) k
    have h2 := r_spS_le (n := n) (xs := xs) (ys := ys) (x := x) (y := y) (a := cf k) (b := cf ((k + 1) % 3)) (st := r_spK n xs ys x y cf st k)
    show (r_spS n xs ys x y (cf k) (cf ((k + 1) % 3)) (r_spK n xs ys x y cf st k)).1 ≤ _
    omega
/-- the triangle of the code z is cut at the new cairn -/
def r_split (n : Nat) (xs ys : Nat → Int32) (z x y : Int32) (st : r_S3) : r_S3 := r_spK n xs ys x y (r_cf z) (st.1 - 1, r_take (st.1 - 1) (r_pos st.1 st.2.1 z) st.2.1, st.2.2) 3
theorem nI_mod3 {k : Nat} (h : k < 100) : (nI k + 1) - (nI k + 1) / 3 * 3 = nI ((k + 1) % 3) := by
  rw [nI_1, show (3 : Int32) = nI 3 from rfl]
  exact pk_rem (by omega) (by decide) (by decide)
/-- the codes of the triangles that cover, as far as i -/
def r_ov (cov : Nat → Bool) (tb : Nat → Int32) : Nat → Nat → Int32
  | 0 => fun _ => 0
  | i + 1 => if cov i = true then upd (r_ov cov tb i) (rg_ct cov i) (tb i) else r_ov cov tb i
def r_clr (n : Nat) (sg : Nat → Nat → Int32) : Nat → Nat → Nat → Int32
  | 0 => sg
  | i + 1 => r_let (r_clr n sg i) (nI i) (nI n) 0
def r_adK (n : Nat) (xs ys : Nat → Int32) (x y : Int32) (ov : Nat → Int32) (st : r_S3) : Nat → r_S3
  | 0 => st
  | k + 1 => r_split n xs ys (ov k) x y (r_adK n xs ys x y ov st k)
def r_clI (t : Nat) (tb : Nat → Int32) (a : Nat) (sg : Nat → Nat → Int32) : Nat → Nat → Nat → Int32
  | 0 => sg
  | b + 1 => if r_sides t tb (nI a) (nI b) = 0 then r_up (r_clI t tb a sg b) a (upd (r_clI t tb a sg b a) b 0) else r_clI t tb a sg b
def r_clO (t : Nat) (tb : Nat → Int32) (n : Nat) (sg : Nat → Nat → Int32) : Nat → Nat → Nat → Int32
  | 0 => sg
  | a + 1 => r_clI t tb a (r_clO t tb n sg a) n
def r_mm (t : Nat) (xs ys tb : Nat → Int32) (x y : Int32) : Nat := rg_ct (r_pCov xs ys tb x y) t
def r_ovF (t : Nat) (xs ys tb : Nat → Int32) (x y : Int32) : Nat → Int32 := r_ov (r_pCov xs ys tb x y) tb t
/-- what splitting needs -/
def r_okSp (z : Int32) (st : r_S3) : Prop := 1 ≤ st.1 ∧ st.1 + 2 ≤ 36 ∧ (∃ j, j < st.1 ∧ st.2.1 j = z) ∧ ∀ k, k < 3 → vp_in (r_cf z k) 17
def r_ad3 (n t : Nat) (xs ys tb : Nat → Int32) (sg : Nat → Nat → Int32) (x y : Int32) : Nat → r_S3 := r_adK n xs ys x y (r_ovF t xs ys tb x y) (t, tb, r_clr n sg (n + 1))
def r_adS (n t : Nat) (xs ys tb : Nat → Int32) (sg : Nat → Nat → Int32) (x y : Int32) : r_S3 := r_ad3 n t xs ys tb sg x y (r_mm t xs ys tb x y)
def r_adSg (n t : Nat) (xs ys tb : Nat → Int32) (sg : Nat → Nat → Int32) (x y : Int32) : Nat → Nat → Int32 := r_clO (r_adS n t xs ys tb sg x y).1 (r_adS n t xs ys tb sg x y).2.1 (n + 1) (r_adS n t xs ys tb sg x y).2.2 (n + 1)
theorem nI_nlt_le {a b : Nat} (ha : a < 2 ^ 31) (hb : b < 2 ^ 31) (h : ¬ nI b < nI a) : a ≤ b := by
  rw [nI_ltI hb ha] at h; omega
theorem nI_lt_lt {a b : Nat} (ha : a < 2 ^ 31) (hb : b < 2 ^ 31) (h : nI b < nI a) : b < a := (nI_ltI hb ha).mp h
theorem rg_ct_mono {p : Nat → Bool} {a : Nat} : ∀ {b : Nat}, a ≤ b → rg_ct p a ≤ rg_ct p b
  | 0, h => by rw [Nat.le_zero.mp h]; exact Nat.le_refl _
  | b + 1, h => by
    rcases Nat.lt_or_ge a (b + 1) with q | q
    · have h1 := rg_ct_mono (p := p) (a := a) (b := b) (by omega)
      show _ ≤ rg_ct p b + _
      omega
    · have e : a = b + 1 := by omega
      rw [e]; exact Nat.le_refl _
theorem rg_ct_lt {p : Nat → Bool} {i t : Nat} (hi : i < t) (h : p i = true) : rg_ct p i < rg_ct p t := by
  have h1 := rg_ct_mono (p := p) (a := i + 1) (b := t) hi
  rw [rg_ct_t h] at h1
  omega
