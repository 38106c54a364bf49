/-! the reference: its cells -/
abbrev rGr (rw : Nat → Nat) : Nat → Option Nat := fun i => if i < 17 then some (rw i) else none
abbrev wRo (cI cY : ClassId) (h qx qy qh qt qs : Nat) (rw : Nat → Nat) (th : Int32) (n : Nat) (xs ys hs : Nat → Int32) (t : Nat) (tb : Nat → Int32) (fl : Int32) : va_W := [(h, .inr (2, [.int th, .int (nI n), .ref qx, .ref qy, .ref qh, .int (nI t), .ref qt, .ref qs, .int fl])), (qx, .inl (cI, 17, .inl xs)), (qy, .inl (cI, 17, .inl ys)), (qh, .inl (cI, 17, .inl hs)), (qt, .inl (cI, 36, .inl tb)), (qs, .inl (cY, 17, .inr (.inr (.inr (.inr (rGr rw))))))]
abbrev wRr (cZ : ClassId) (rw : Nat → Nat) (sg : Nat → Nat → Int32) : va_W := (List.range 17).map (fun i => (rw i, .inl (cZ, 17, .inl (sg i))))
abbrev wR (cI cZ cY : ClassId) (h qx qy qh qt qs : Nat) (rw : Nat → Nat) (th : Int32) (n : Nat) (xs ys hs : Nat → Int32) (t : Nat) (tb : Nat → Int32) (sg : Nat → Nat → Int32) (fl : Int32) : va_W := wRo cI cY h qx qy qh qt qs rw th n xs ys hs t tb fl ++ wRr cZ rw sg
theorem wR_row {cI cZ cY : ClassId} {h qx qy qh qt qs : Nat} {rw : Nat → Nat} {th : Int32} {n : Nat} {xs ys hs : Nat → Int32} {t : Nat} {tb : Nat → Int32} {sg : Nat → Nat → Int32} {fl : Int32} {i : Nat} (hi : i < 17) : (wR cI cZ cY h qx qy qh qt qs rw th n xs ys hs t tb sg fl)[6 + i]? = some (rw i, .inl (cZ, 17, .inl (sg i))) := by
  rw [List.getElem?_append_right (Nat.le_add_right 6 i), show 6 + i - (wRo cI cY h qx qy qh qt qs rw th n xs ys hs t tb fl).length = i from Nat.add_sub_cancel_left 6 i, List.getElem?_map, List.getElem?_range hi]
  rfl
theorem va_P0 {D : va_G} {cl : List vw_C} {H : Heap} : va_P D cl [] H := fun k q h => by simp at h
section RG
variable {p : Program} {l : Launch} {e : Env} {R : Room} {s : State} {m : MethodId} {args : Array Value} {below : List Frame} {meth : Method} {c : Code} {H : Heap} {locs : List Loc} {cells slots : Nat} {Q : State → Prop}
variable {cc : ByteArray} {pc : Nat} {ls : Array Slot} {rest : List Value} {D : va_G} {cl : List vw_C} {A : Nat → Prop} {a : Nat} {tys : List (ClassId × FieldType)} {ws : va_W} {H0 : Heap}
theorem rg_aald (hexec : p.tables.exec = Jvm.exec) (hb : c.code = cc) (hK : va_K D cl tys s) (hP : va_P D cl ws H) (q0 t0 : Nat) {cA : ClassId} {ty : FieldType} {rw : Nat → Nat} (ha : ws[q0]? = some (a, .inl (cA, 17, .inr (.inr (.inr (.inr (rGr rw))))))) (ht : tys[t0]? = some (cA, .array ty)) {i : Int32} (hin : vp_in i 17) (hdg : decode cc pc = .ok (.aaload, 1))
    (kk : W p l e R s m args below meth c H locs cells slots Q (F0 m (pc + 1) ls (.ref (rw i.toNatClampNeg) :: rest))) : W p l e R s m args below meth c H locs cells slots Q (F0 m pc ls (.int i :: .ref a :: rest)) := by
  have hlt : i.toNatClampNeg < 17 := Nat.not_le.mp fun q => hin (Or.inr q)
  have hv : va_rf (rGr rw i.toNatClampNeg) = .ref (rw i.toNatClampNeg) := by
    show va_rf (if i.toNatClampNeg < 17 then some (rw i.toNatClampNeg) else none) = _
    rw [if_pos hlt]; rfl
  exact W.aald (v := .ref (rw i.toNatClampNeg)) (ty := .array ty) hexec hb (hP q0 _ ha) ((hK.2 t0 _ ht).1 17 (fun j => va_rf (rGr rw j))) rfl (fun q => by cases q) (by show ¬ (i < 0 ∨ (arrV _ _ _).slots.size ≤ _); rw [arrV_size]; exact hin) (by show (arrV _ _ _).slots[_]? = _; rw [arrV_read _ _ hlt, ← hv]) rfl rfl hdg kk
end RG
theorem in_lt {x : Int32} {N : Nat} (h : vp_in x N) : x.toNatClampNeg < N := Nat.not_le.mp fun q => h (Or.inr q)
theorem in_le {x : Int32} {N M : Nat} (h : vp_in x N) (hM : N ≤ M) : vp_in x M := fun q => q.elim (fun z => h (Or.inl z)) (fun z => h (Or.inr (Nat.le_trans hM z)))
/-! its reading methods, in numbers of 32 bits -/
def r_isIn (v lo hi : Int32) : Bool := if v < lo then false else if hi < v then false else true
def r_isPlace (x y : Int32) : Bool := if r_isIn x 0 30 = true then (if r_isIn y 0 30 = true then true else false) else false
def r_code (a b c : Int32) : Int32 := (min32 a (min32 b c) * 32 + a + b + c - min32 a (min32 b c) - max32 a (max32 b c)) * 32 + max32 a (max32 b c)
def r_corner (tb : Nat → Int32) (k w : Int32) : Int32 := if w = 0 then tb k.toNatClampNeg / 32 / 32 else if w = 1 then tb k.toNatClampNeg / 32 - tb k.toNatClampNeg / 32 / 32 * 32 else tb k.toNatClampNeg - tb k.toNatClampNeg / 32 * 32
def r_has (tb : Nat → Int32) (k c : Int32) : Bool := if r_corner tb k 0 = c then true else if r_corner tb k 1 = c then true else if r_corner tb k 2 = c then true else false
def r_area (xs ys : Nat → Int32) (a b x y : Int32) : Int32 := (xs b.toNatClampNeg - xs a.toNatClampNeg) * (y - ys a.toNatClampNeg) - (ys b.toNatClampNeg - ys a.toNatClampNeg) * (x - xs a.toNatClampNeg)
def r_areaOf (xs ys tb : Nat → Int32) (k : Int32) : Int32 := abs32 (r_area xs ys (r_corner tb k 0) (r_corner tb k 1) (xs (r_corner tb k 2).toNatClampNeg) (ys (r_corner tb k 2).toNatClampNeg))
def r_far (tb : Nat → Int32) (k a b : Int32) : Int32 := if a = b then (-1) else if r_has tb k a = true then (if r_has tb k b = true then r_corner tb k 0 + r_corner tb k 1 + r_corner tb k 2 - a - b else (-1)) else (-1)
def r_pS (tb : Nat → Int32) (a b : Int32) (k : Nat) : Bool := if r_far tb (nI k) a b = (-1) then false else true
def r_sides (t : Nat) (tb : Nat → Int32) (a b : Int32) : Int32 := nI (rg_ct (r_pS tb a b) t)
/-- the far corner of the first triangle, or of the last one -/
def r_fr (tb : Nat → Int32) (a b z : Int32) : Nat → Int32
  | 0 => (-1)
  | k + 1 => if r_far tb (nI k) a b = (-1) then r_fr tb a b z k else if z = 0 then r_far tb (nI k) a b else if r_fr tb a b z k = (-1) then r_far tb (nI k) a b else r_fr tb a b z k
def r_sum (ax ay bx by' cx cy : Int32) : Int32 := (ax * ax + ay * ay) * (bx * cy - cx * by') - (bx * bx + by' * by') * (ax * cy - cx * ay) + (cx * cx + cy * cy) * (ax * by' - bx * ay)
def r_isWithin (xs ys : Nat → Int32) (a b c x y : Int32) : Bool := if r_area xs ys a b (xs c.toNatClampNeg) (ys c.toNatClampNeg) ≤ 0 then (if 0 ≤ r_sum (xs a.toNatClampNeg - x) (ys a.toNatClampNeg - y) (xs b.toNatClampNeg - x) (ys b.toNatClampNeg - y) (xs c.toNatClampNeg - x) (ys c.toNatClampNeg - y) then false else true) else (if r_sum (xs a.toNatClampNeg - x) (ys a.toNatClampNeg - y) (xs b.toNatClampNeg - x) (ys b.toNatClampNeg - y) (xs c.toNatClampNeg - x) (ys c.toNatClampNeg - y) ≤ 0 then false else true)
def r_isUnfair (t : Nat) (xs ys tb : Nat → Int32) (a b : Int32) : Bool := if r_sides t tb a b = 2 then r_isWithin xs ys a b (r_fr tb a b 1 t) (xs (r_fr tb a b 0 t).toNatClampNeg) (ys (r_fr tb a b 0 t).toNatClampNeg) else false
def r_opp (p q : Int32) : Bool := if p ≤ 0 then (if 0 ≤ p then false else (if q ≤ 0 then false else true)) else (if q < 0 then true else (if 0 ≤ p then false else (if q ≤ 0 then false else true)))
def r_canFlip (t : Nat) (xs ys tb : Nat → Int32) (sg : Nat → Nat → Int32) (a b : Int32) : Bool := if r_sides t tb a b = 2 then (if sg a.toNatClampNeg b.toNatClampNeg = 0 then r_opp (r_area xs ys (r_fr tb a b 1 t) (r_fr tb a b 0 t) (xs a.toNatClampNeg) (ys a.toNatClampNeg)) (r_area xs ys (r_fr tb a b 1 t) (r_fr tb a b 0 t) (xs b.toNatClampNeg) (ys b.toNatClampNeg)) else false) else false
def r_pAt (xs ys : Nat → Int32) (x y : Int32) (j : Nat) : Bool := if xs j = x then (if ys j = y then true else false) else false
def r_cairnAt (n : Nat) (xs ys : Nat → Int32) (x y : Int32) : Int32 := rg_idx (rg_fst (r_pAt xs ys x y) n) (-1)
def r_covers (xs ys tb : Nat → Int32) (k x y : Int32) : Bool := if abs32 (r_area xs ys (r_corner tb k 0) (r_corner tb k 1) x y) + abs32 (r_area xs ys (r_corner tb k 1) (r_corner tb k 2) x y) + abs32 (r_area xs ys (r_corner tb k 2) (r_corner tb k 0) x y) = r_areaOf xs ys tb k then true else false
def r_pE (t : Nat) (tb : Nat → Int32) (a : Int32) (j : Nat) : Bool := if r_sides t tb a (nI j) ≤ 0 then false else true
def r_edgesOf (n t : Nat) (tb : Nat → Int32) (a : Int32) : Int32 := nI (rg_ct (r_pE t tb a) n)
def r_pH (tb : Nat → Int32) (a : Int32) (k : Nat) : Bool := r_has tb (nI k) a
def r_cairnTold (n t : Nat) (xs ys hs tb : Nat → Int32) (a w : Int32) : Int32 := if 4 ≤ w then nI (rg_ct (r_pH tb a) t) else if w = 0 then xs a.toNatClampNeg else if w = 1 then ys a.toNatClampNeg else if w = 2 then hs a.toNatClampNeg else r_edgesOf n t tb a
def r_triangleTold (xs ys tb : Nat → Int32) (k w : Int32) : Int32 := if 3 ≤ w then r_areaOf xs ys tb k else r_corner tb k w
def r_apart (xs ys : Nat → Int32) (a x y : Int32) : Int32 := (xs a.toNatClampNeg - x) * (xs a.toNatClampNeg - x) + (ys a.toNatClampNeg - y) * (ys a.toNatClampNeg - y)
def r_is (t : Nat) (xs ys tb : Nat → Int32) (sg : Nat → Nat → Int32) (a b w : Int32) : Int32 := if w = 0 then (if r_sides t tb a b ≤ 0 then 0 else 1) else if w = 1 then (if r_sides t tb a b = 1 then 1 else 0) else if w = 2 then sg a.toNatClampNeg b.toNatClampNeg else if w = 3 then bI (r_isUnfair t xs ys tb a b) else bI (r_canFlip t xs ys tb sg a b)
def r_edgeTold (t : Nat) (xs ys tb : Nat → Int32) (sg : Nat → Nat → Int32) (a b w : Int32) : Int32 := if r_sides t tb a b ≤ 0 then 0 else if r_is t xs ys tb sg a b w = 0 then 0 else 1
