/-! the moor's methods, in numbers of 32 bits -/
def x_hOf (hs : Nat → Int32) (a : Int32) : Int32 := if a < 0 then 0 else if 16 ≤ a then 0 else hs a.toNatClampNeg
def x_cFact (n : Nat) (xs ys lf hs : Nat → Int32) (a w : Int32) : Int32 := if w = 0 then m_xOf xs a else if w = 1 then m_xOf ys a else if w = 2 then x_hOf hs a else if w = 3 then m_edgesAt n lf a else m_trianglesAt n lf a
def x_tFact (xs ys co : Nat → Int32) (k w : Int32) : Int32 := if w = 3 then m_areaOf xs ys co k else m_corner co k w
def x_eFact (n : Nat) (xs ys lf sy : Nat → Int32) (a b w : Int32) : Int32 := bI (m_isEdgeThat n xs ys lf sy w a b)
def x_cntOf (n t : Nat) (xs ys lf sy : Nat → Int32) (fl w : Int32) : Int32 := if w = 0 then nI n else if w = 1 then nI t else if w = 2 then m_edgesThat n xs ys lf sy 0 else if w = 3 then m_edgesThat n xs ys lf sy 1 else if w = 4 then m_edgesThat n xs ys lf sy 2 else if w = 5 then m_edgesThat n xs ys lf sy 3 else fl
def x_setH (hs : Nat → Int32) (a z : Int32) : Nat → Int32 := if a < 0 then hs else if 16 ≤ a then hs else upd hs a.toNatClampNeg z
def x_mean (n : Nat) (xs ys lf sy : Nat → Int32) : UInt64 := FP.ddiv (FP.i2d (2 * m_edgesThat n xs ys lf sy 0)) (FP.i2d (nI n))
def x_dg1 (n t : Nat) (xs ys lf sy : Nat → Int32) (fl : Int32) : Nat → Int32 := fun w => x_cntOf n t xs ys lf sy fl (nI w)
def x_dg2 (n : Nat) (xs ys lf hs : Nat → Int32) : Nat → Nat → Int32 := fun c w => x_cFact n xs ys lf hs (nI c) (nI w)
def x_dg3 (xs ys co : Nat → Int32) : Nat → Nat → Int32 := fun k w => x_tFact xs ys co (nI k) (nI w)
def x_dgH (lf : Nat → Int32) : Nat → Nat → Bool := fun i j => m_isEdge lf (nI i) (nI j)
def x_dg4 (n : Nat) (xs ys lf sy : Nat → Int32) : Nat → Nat → Nat → Int32 := fun i j k => x_eFact n xs ys lf sy (nI i) (nI j) (nI (2 + k))
def x_digest (n t : Nat) (hs xs ys lf sy co : Nat → Int32) (fl : Int32) : Int64 := dgE (x_dgH lf) (x_dg4 n xs ys lf sy) n (dgO (x_dg3 xs ys co) 4 (dgO (x_dg2 n xs ys lf hs) 5 (dgF (x_dg1 n t xs ys lf sy fl) 1433 7) n) t) n
def x_sum (xs ys hs : Nat → Int32) (a b c x y : Int32) : Int32 := x_hOf hs a * abs32 (m_turn xs ys b c x y) + x_hOf hs b * abs32 (m_turn xs ys c a x y) + x_hOf hs c * abs32 (m_turn xs ys a b x y)
def x_height (t : Nat) (xs ys co hs : Nat → Int32) (x y : Int32) : Int32 := if m_areaOf xs ys co (m_find t xs ys co x y) ≤ 0 then 0 else x_sum xs ys hs (m_corner co (m_find t xs ys co x y) 0) (m_corner co (m_find t xs ys co x y) 1) (m_corner co (m_find t xs ys co x y) 2) x y / m_areaOf xs ys co (m_find t xs ys co x y)
/-! its checks -/
def x_place (x y : Int32) : Bool := if x < 0 then false else if 30 < x then false else if y < 0 then false else if y ≤ 30 then true else false
def x_hgt (z : Int32) : Bool := if z < 0 then false else if z ≤ 99 then true else false
def x_what (w k : Int32) : Bool := if w < 0 then false else if w < k then true else false
theorem tsw_out4 {f : Int32} (h0 : ¬ f = 0) (h1 : ¬ f = 1) (h2 : ¬ f = 2) (h3 : ¬ f = 3) : f.toInt < 0 ∨ 3 < f.toInt := by
  rw [← Int32.toInt_inj] at h0 h1 h2 h3
  have e0 : (0 : Int32).toInt = 0 := rfl
  have e1 : (1 : Int32).toInt = 1 := rfl
  have e2 : (2 : Int32).toInt = 2 := rfl
  have e3 : (3 : Int32).toInt = 3 := rfl
  omega
theorem tsw_out6 {f : Int32} (h0 : ¬ f = 0) (h1 : ¬ f = 1) (h2 : ¬ f = 2) (h3 : ¬ f = 3) (h4 : ¬ f = 4) (h5 : ¬ f = 5) : f.toInt < 0 ∨ 5 < f.toInt := by
  rw [← Int32.toInt_inj] at h0 h1 h2 h3 h4 h5
  have e0 : (0 : Int32).toInt = 0 := rfl
  have e1 : (1 : Int32).toInt = 1 := rfl
  have e2 : (2 : Int32).toInt = 2 := rfl
  have e3 : (3 : Int32).toInt = 3 := rfl
  have e4 : (4 : Int32).toInt = 4 := rfl
  have e5 : (5 : Int32).toInt = 5 := rfl
  omega
theorem rd_dret {p : Program} {l : Launch} {e : Env} {R : Room} {s : State} {m : MethodId} {args : Array Value} {below : List Frame} {meth : Method} {c : Code} {cc : ByteArray} {pc : Nat} {ls : Array Slot} {v w : UInt64} (hx : p.tables.exec = Jvm.exec) (hb : c.code = cc) (hr : meth.sig.returnType = some .double) (hlocks : meth.locks = false) (he : v = w) (hdg : decode cc pc = .ok (.dreturn, 1)) : W p l e R s m args below meth c s.heap [] 0 0 (MQ below (vp_Sd (fun r => r = w)) args s 0 0 (fun _ => False)) (F0 m pc ls [.double v]) :=
  W.dret hx hb hr (fun t ht _ => ⟨v, rfl, he, ht⟩) (fun q hq => absurd hq List.not_mem_nil) hdg hlocks
theorem dgF3 {f : Nat → Int32} {d : Int64} : dgF f d 3 = ((d * 31 + (f 0).toInt64) * 31 + (f 1).toInt64) * 31 + (f 2).toInt64 := rfl
abbrev xIl (ik ic : Nat) (cls : String) : List Cond := Cond.classLink RX1 ik cls :: Cond.initialized cls :: vx_atS RX1 ic cls xRE
theorem bd_ISE : ∀ w ∈ (vx_atS RX1 42 xISE xRE).filter (fun w => !goodWord w), w ∈ xB := by decide +kernel
theorem bd_IAE : ∀ w ∈ (vx_atS RX1 179 xIAE xRE).filter (fun w => !goodWord w), w ∈ xB := by decide +kernel
theorem bd_IOB : ∀ w ∈ (vx_atS RX1 109 xIOB xRE).filter (fun w => !goodWord w), w ∈ xB := by decide +kernel
theorem gg_ISE : ∀ w ∈ xIl 38 42 xISE, vx_ot w = true := by decide +kernel
theorem gg_IAE : ∀ w ∈ xIl 175 179 xIAE, vx_ot w = true := by decide +kernel
theorem gg_IOB : ∀ w ∈ xIl 105 109 xIOB, vx_ot w = true := by decide +kernel
/-! what they answer, and when not -/
def x_okBd (n : Nat) (xs ys : Nat → Int32) (x y z : Int32) : Bool := if x_place x y = true then (if x_hgt z = true then (if nI n < 16 then (if m_hasCairnAt n xs ys x y = true then false else true) else false) else false) else false
def x_exBd (x y z : Int32) : String := if x_place x y = true then (if x_hgt z = true then xISE else xIAE) else xIAE
def x_okRs (n : Nat) (a z : Int32) : Bool := if m_isCairn n a = true then x_hgt z else false
def x_exRs (n : Nat) (a : Int32) : String := if m_isCairn n a = true then xIAE else xIOB
def x_okFx (n : Nat) (lf : Nat → Int32) (a b : Int32) : Bool := if m_isCairn n a = true then (if m_isCairn n b = true then m_isEdge lf a b else false) else false
def x_exFx (n : Nat) (a b : Int32) : String := if m_isCairn n a = true then (if m_isCairn n b = true then xISE else xIOB) else xIOB
def x_okFl (n : Nat) (xs ys lf sy : Nat → Int32) (a b : Int32) : Bool := if m_isCairn n a = true then (if m_isCairn n b = true then (if m_isEdge lf a b = true then m_isTurnable n xs ys lf sy a b else false) else false) else false
def x_okTd (n : Nat) (a w : Int32) : Bool := if m_isCairn n a = true then x_what w 5 else false
def x_okTr (t : Nat) (k w : Int32) : Bool := if k < 0 then false else (if k < nI t then x_what w 4 else false)
def x_okEd (n : Nat) (a b w : Int32) : Bool := if m_isCairn n a = true then (if m_isCairn n b = true then x_what w 5 else false) else false
def x_okWy (n : Nat) (a b : Int32) : Bool := if m_isCairn n a = true then m_isCairn n b else false
def x_okWd (n : Nat) (xs ys : Nat → Int32) (x y : Int32) : Bool := if x_place x y = true then (if m_hasCairnAt n xs ys x y = true then false else true) else false
def x_exWd (x y : Int32) : String := if x_place x y = true then xISE else xIAE
