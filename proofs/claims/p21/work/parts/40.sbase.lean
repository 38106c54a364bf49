/-! the law's own moor (Sim): its rows in the heap, by their contents, every one at B or behind it -/
def hy (B : Nat) (H H1 : Heap) : Prop := H.size ≤ H1.size ∧ ∀ q : Nat, B ≤ q → q < H.size → H1[q]? = H[q]?
theorem hy.rf {B : Nat} {H : Heap} : hy B H H := ⟨Nat.le_refl _, fun _ _ _ => rfl⟩
theorem hy.tr {B : Nat} {H H1 H2 : Heap} (h1 : hy B H H1) (h2 : hy B H1 H2) : hy B H H2 := ⟨Nat.le_trans h1.1 h2.1, fun q a b => (h2.2 q a (Nat.lt_of_lt_of_le b h1.1)).trans (h1.2 q a b)⟩
theorem hy.up {B B' : Nat} {H H1 : Heap} (h : hy B H H1) (hb : B ≤ B') : hy B' H H1 := ⟨h.1, fun q a b => h.2 q (Nat.le_trans hb a) b⟩
theorem hy.wr {B : Nat} {Hb H H1 : Heap} (h : hy B Hb H) {q : Nat} (hq : Hb.size ≤ q) (z : H1.size = H.size) (o : ∀ x : Nat, x ≠ q → H1[x]? = H[x]?) : hy B Hb H1 := ⟨by rw [z]; exact h.1, fun x a b => (o x (by omega)).trans (h.2 x a b)⟩
/-- one old cell may have changed -/
def hz (h : Nat) (H H1 : Heap) : Prop := H.size ≤ H1.size ∧ ∀ q : Nat, q ≠ h → q < H.size → H1[q]? = H[q]?
theorem hz.rf {h : Nat} {H : Heap} : hz h H H := ⟨Nat.le_refl _, fun _ _ _ => rfl⟩
theorem hz.tr {h : Nat} {H H1 H2 : Heap} (h1 : hz h H H1) (h2 : hz h H1 H2) : hz h H H2 := ⟨Nat.le_trans h1.1 h2.1, fun q a b => (h2.2 q a (Nat.lt_of_lt_of_le b h1.1)).trans (h1.2 q a b)⟩
theorem hy.z {H H1 : Heap} (e : hy 0 H H1) (h : Nat) : hz h H H1 := ⟨e.1, fun q _ b => e.2 q (Nat.zero_le _) b⟩
/-- an int row, a row of rows, a table -/
def hI (cI : ClassId) (B : Nat) (H : Heap) (q n : Nat) (f : Nat → Int32) : Prop := B ≤ q ∧ ∃ g : Nat → Int32, H[q]? = some (vp_cell cI (n, .inl g)) ∧ ∀ j : Nat, j < n → g j = f j
def hG (cY : ClassId) (B : Nat) (H : Heap) (q n : Nat) (g : Nat → Option Nat) : Prop := B ≤ q ∧ H[q]? = some (vp_cell cY (n, .inr (.inr (.inr (.inr g)))))
def hQ (cY : ClassId) (B : Nat) (H : Heap) (q n : Nat) (a : Nat → Nat) : Prop := ∃ g : Nat → Option Nat, hG cY B H q n g ∧ ∀ j : Nat, j < n → g j = some (a j)
def hT (cI cY : ClassId) (B : Nat) (H : Heap) (q n w : Nat) (F : Nat → Nat → Int32) : Prop := ∃ a : Nat → Nat, hQ cY B H q n a ∧ ∀ j : Nat, j < n → hI cI B H (a j) w (F j)
theorem h_lt {H : Heap} {q : Nat} {x : Cell} (h : H[q]? = some x) : q < H.size := (Array.getElem?_eq_some_iff.mp h).1
section HE
variable {cI cY : ClassId} {B : Nat} {H H1 : Heap} {q n w : Nat} {f : Nat → Int32} {a : Nat → Nat} {F : Nat → Nat → Int32} {g : Nat → Option Nat} {h : Nat}
theorem hI.lt (x : hI cI B H q n f) : q < H.size := x.2.elim fun _ y => h_lt y.1
theorem hI.cg {f' : Nat → Int32} (x : hI cI B H q n f) (e : ∀ j : Nat, j < n → f j = f' j) : hI cI B H q n f' := x.2.elim fun g y => ⟨x.1, g, y.1, fun j hj => (y.2 j hj).trans (e j hj)⟩
theorem hI.at (x : hI cI B H q n f) (e : H1[q]? = H[q]?) : hI cI B H1 q n f := x.2.elim fun g y => ⟨x.1, g, e.trans y.1, y.2⟩
theorem hI.ext (x : hI cI B H q n f) (e : hy B H H1) : hI cI B H1 q n f := x.at (e.2 q x.1 x.lt)
theorem hI.ext0 (x : hI cI B H q n f) (e : hy 0 H H1) : hI cI B H1 q n f := x.ext (e.up (Nat.zero_le _))
theorem hI.extZ (x : hI cI (h + 1) H q n f) (e : hz h H H1) : hI cI (h + 1) H1 q n f := x.at (e.2 q (by have := x.1; omega) x.lt)
theorem hG.lt (x : hG cY B H q n g) : q < H.size := h_lt x.2
theorem hG.ext (x : hG cY B H q n g) (e : hy B H H1) : hG cY B H1 q n g := ⟨x.1, (e.2 q x.1 x.lt).trans x.2⟩
theorem hG.ext0 (x : hG cY B H q n g) (e : hy 0 H H1) : hG cY B H1 q n g := x.ext (e.up (Nat.zero_le _))
theorem hG.extZ (x : hG cY (h + 1) H q n g) (e : hz h H H1) : hG cY (h + 1) H1 q n g := ⟨x.1, (e.2 q (by have := x.1; omega) x.lt).trans x.2⟩
theorem hQ.lt (x : hQ cY B H q n a) : q < H.size := x.elim fun _ y => y.1.lt
theorem hQ.ext (x : hQ cY B H q n a) (e : hy B H H1) : hQ cY B H1 q n a := x.elim fun g y => ⟨g, y.1.ext e, y.2⟩
theorem hQ.extZ (x : hQ cY (h + 1) H q n a) (e : hz h H H1) : hQ cY (h + 1) H1 q n a := x.elim fun g y => ⟨g, y.1.extZ e, y.2⟩
theorem hT.lt (x : hT cI cY B H q n w F) : q < H.size := x.elim fun _ y => y.1.lt
theorem hT.le (x : hT cI cY B H q n w F) : B ≤ q := x.elim fun _ y => y.1.elim fun _ z => z.1.1
theorem hT.ext (x : hT cI cY B H q n w F) (e : hy B H H1) : hT cI cY B H1 q n w F := x.elim fun a y => ⟨a, y.1.ext e, fun j hj => (y.2 j hj).ext e⟩
theorem hT.ext0 (x : hT cI cY B H q n w F) (e : hy 0 H H1) : hT cI cY B H1 q n w F := x.ext (e.up (Nat.zero_le _))
theorem hT.extZ (x : hT cI cY (h + 1) H q n w F) (e : hz h H H1) : hT cI cY (h + 1) H1 q n w F := x.elim fun a y => ⟨a, y.1.extZ e, fun j hj => (y.2 j hj).extZ e⟩
theorem hT.cg {F' : Nat → Nat → Int32} (x : hT cI cY B H q n w F) (e : ∀ i j : Nat, i < n → j < w → F i j = F' i j) : hT cI cY B H q n w F' := x.elim fun a y => ⟨a, y.1, fun j hj => (y.2 j hj).cg (fun k hk => e j k hj hk)⟩
end HE
/-- its own cell, ahead of its rows -/
def sO (D : va_G) (H : Heap) (h qc qt qs : Nat) (fl : Int32) : Prop := va_at D vwCl (h, .inr (2, [.ref qc, .ref qt, .ref qs, .int fl])) H
def sX (D : va_G) (cI cY : ClassId) (H : Heap) (h qc qt qs : Nat) (nC : Nat) (C : Nat → Nat → Int32) (nT : Nat) (T : Nat → Nat → Int32) (nS : Nat) (S : Nat → Nat → Int32) (fl : Int32) : Prop :=
  sO D H h qc qt qs fl ∧ hT cI cY (h + 1) H qc nC 3 C ∧ hT cI cY (h + 1) H qt nT 3 T ∧ hT cI cY (h + 1) H qs nS 2 S ∧ qc ≠ qt ∧ qc ≠ qs
def sM (D : va_G) (cI cY : ClassId) (h : Nat) (nC : Nat) (C : Nat → Nat → Int32) (nT : Nat) (T : Nat → Nat → Int32) (nS : Nat) (S : Nat → Nat → Int32) (fl : Int32) (H : Heap) : Prop :=
  ∃ qc qt qs : Nat, sX D cI cY H h qc qt qs nC C nT T nS S fl
theorem sO.ext {D : va_G} {H H1 : Heap} {h qc qt qs : Nat} {fl : Int32} (x : sO D H h qc qt qs fl) (e : hy h H H1) : sO D H1 h qc qt qs fl := x.kept (e.2 h (Nat.le_refl h) x.lt)
theorem sO.ext0 {D : va_G} {H H1 : Heap} {h qc qt qs : Nat} {fl : Int32} (x : sO D H h qc qt qs fl) (e : hy 0 H H1) : sO D H1 h qc qt qs fl := x.ext (e.up (Nat.zero_le _))
theorem sO.lt {D : va_G} {H : Heap} {h qc qt qs : Nat} {fl : Int32} (x : sO D H h qc qt qs fl) : h < H.size := va_at.lt x
theorem sX.ext {D : va_G} {cI cY : ClassId} {H H1 : Heap} {h qc qt qs nC nT nS : Nat} {C T S : Nat → Nat → Int32} {fl : Int32} (x : sX D cI cY H h qc qt qs nC C nT T nS S fl) (e : hy h H H1) : sX D cI cY H1 h qc qt qs nC C nT T nS S fl := ⟨x.1.ext e, x.2.1.ext (e.up (Nat.le_succ h)), x.2.2.1.ext (e.up (Nat.le_succ h)), x.2.2.2.1.ext (e.up (Nat.le_succ h)), x.2.2.2.2⟩
theorem sM.ext {D : va_G} {cI cY : ClassId} {H H1 : Heap} {h nC nT nS : Nat} {C T S : Nat → Nat → Int32} {fl : Int32} (x : sM D cI cY h nC C nT T nS S fl H) (e : hy h H H1) : sM D cI cY h nC C nT T nS S fl H1 := x.elim fun qc y => y.elim fun qt z => z.elim fun qs u => ⟨qc, qt, qs, u.ext e⟩
theorem sM.recv {D : va_G} {cI cZ cY : ClassId} {H : Heap} {h nC nT nS : Nat} {C T S : Nat → Nat → Int32} {fl : Int32} {s : State} (hK : va_K D vwCl (gTY cI cZ cY) s) (x : sM D cI cY h nC C nT T nS S fl H) : ∃ cell : Cell, H[h]? = some cell ∧ cell.vm.isStatics = false ∧ s.vm.findClass RX2 = some cell.cls := by
  obtain ⟨qc, qt, qs, ⟨q', h1, cell, g1, g2, g3, -⟩, -⟩ := x
  exact ⟨cell, g1, by rw [g3]; rfl, by rw [g2]; exact (hK.1 2 _ rfl).2.1⟩
theorem va_P.one {D : va_G} {cl : List vw_C} {q : Nat × va_E} {H : Heap} (h : va_at D cl q H) : va_P D cl [q] H := fun k x hk => by
  cases k with
  | zero => cases hk; exact h
  | succ k => simp at hk
theorem va_D.one {A : Nat → Prop} {q : Nat × va_E} (h : A q.1) : va_D A [q] := ⟨fun i j p r hi hj _ => by
  have h1 := (List.getElem?_eq_some_iff.mp hi).1
  have h2 := (List.getElem?_eq_some_iff.mp hj).1
  simp at h1 h2; omega, fun k x hk => by
  cases k with
  | zero => cases hk; exact h
  | succ k => simp at hk⟩
/-- what is known of the classes -/
def sV (U : State) : Prop := (Cond.arrayOver (.array .int)).before #[] U = true
theorem sV.use {A : Array Value} {U : State} (h : sV U) : (Cond.arrayOver (.array .int)).before A U = true := h
theorem sV.moved {u U : State} (hvm : u.vm.Alike U.vm) (h : sV u) : sV U := by
  obtain ⟨comp, c, k, h1, h2, h3, h4, h5⟩ := arrayOverA_spec h
  obtain ⟨k', hk', he⟩ := hvm.2.2 _ _ h3
  have hi : (U.vm.classes.findIdx? fun (x : Class) => match x.kind with | .array component _ => component == comp | _ => false) = some c := by
    rw [hvm.findIdx?_eq _ (fun _ => rfl)]; exact h2
  have hkind : k'.kind = .array comp (.array .int) := by rw [he]; exact h4
  have f1 : U.vm.findClass (FieldType.array .int).toString = some comp := by rw [hvm.findClass]; exact h1
  have f2 : U.vm.findClass ("[" ++ (FieldType.array .int).toString) = some c := by rw [hvm.findClass]; exact h5
  unfold sV Cond.before Cond.holds
  simp only [Cond.value]
  rw [f1, Option.bind_some]
  refine (congrArg (fun o : Option Nat => (o.bind (fun c => (U.vm.classes[c]?).map fun (k : Class) => match k.kind with | .array _ ty => decide (ty = FieldType.array .int) && decide (U.vm.findClass ("[" ++ (FieldType.array .int).toString) = some c) | _ => false) == some true)) hi).trans ?_
  simp [hk', hkind, f2]
abbrev kS (D : va_G) (cI cZ cY : ClassId) (U : State) : Prop := va_K D vwCl (gTY cI cZ cY) U ∧ sV U
theorem kS.moved {D : va_G} {cI cZ cY : ClassId} {u U : State} (hvm : u.vm.Alike U.vm) (h : kS D cI cZ cY u) : kS D cI cZ cY U := ⟨h.1.moved hvm, h.2.moved hvm⟩
theorem kS.arr {D : va_G} {cI cZ cY : ClassId} {U : State} (h : kS D cI cZ cY U) : ∃ k kI : Class, U.vm.classes[cY]? = some k ∧ k.kind = .array cI (.array .int) ∧ U.vm.classes[cI]? = some kI := by
  obtain ⟨comp, c, k, h1, -, h3, h4, h5⟩ := arrayOverA_spec h.2
  have e1 : U.vm.findClass ("[" ++ (FieldType.int).toString) = some cI := (h.1.2 0 (cI, .int) rfl).2
  have e2 : U.vm.findClass ("[" ++ (FieldType.array .int).toString) = some cY := (h.1.2 1 (cY, .array .int) rfl).2
  have e3 : c = cY := Option.some.inj (h5.symm.trans e2)
  have e4 : comp = cI := Option.some.inj (h1.symm.trans e1)
  subst e3; subst e4
  obtain ⟨kI, hkI, -⟩ := Vm.findClass_spec h1
  exact ⟨k, kI, h3, h4, hkI⟩
/-! indices -/
def ix (i : Int32) (j : Nat) : Prop := ¬ i < 0 ∧ i.toNatClampNeg = j
theorem ix_nI {j : Nat} (h : j < 1000000) : ix (nI j) j := ⟨fun q => nI_in (c := j) (N := j + 1) (by omega) (by omega) (Or.inl q), nI_clamp (by omega)⟩
theorem ix_in {i : Int32} {n : Nat} (h : vp_in i n) : ix i i.toNatClampNeg := ⟨fun q => h (Or.inl q), rfl⟩
theorem ix_0 : ix 0 0 := ⟨by decide, rfl⟩
theorem ix_1 : ix 1 1 := ⟨by decide, rfl⟩
theorem ix_2 : ix 2 2 := ⟨by decide, rfl⟩
theorem ix_3 : ix 3 3 := ⟨by decide, rfl⟩
theorem ix_4 : ix 4 4 := ⟨by decide, rfl⟩
theorem ix_5 : ix 5 5 := ⟨by decide, rfl⟩
theorem ix_6 : ix 6 6 := ⟨by decide, rfl⟩
theorem ix_7 : ix 7 7 := ⟨by decide, rfl⟩
section SX
variable {p : Program} {l : Launch} {e : Env} {R : Room} {s : State} {m : MethodId} {args : Array Value} {below : List Frame} {meth : Method} {c : Code} {H : Heap} {locs : List Loc} {cells slots : Nat} {Q : State → Prop}
variable {cc : ByteArray} {pc : Nat} {ls : Array Slot} {rest : List Value} {D : va_G} {A : Nat → Prop} {H0 : Heap} {cI cZ cY : ClassId} {B q n w : Nat} {f : Nat → Int32} {F : Nat → Nat → Int32} {g : Nat → Option Nat} {i v : Int32} {j : Nat}
theorem sx_aaldG {x : Nat} (hexec : p.tables.exec = Jvm.exec) (hb : c.code = cc) (hK : va_K D vwCl (gTY cI cZ cY) s) (hG0 : hG cY B H q n g) (hg : g j = some x) (hi : ix i j) (hj : j < n) (hdg : decode cc pc = .ok (.aaload, 1))
    (kk : W p l e R s m args below meth c H locs cells slots Q (F0 m (pc + 1) ls (.ref x :: rest))) : W p l e R s m args below meth c H locs cells slots Q (F0 m pc ls (.int i :: .ref q :: rest)) := by
  obtain ⟨h0, rfl⟩ := hi
  exact W.aald (v := .ref x) (ty := .array .int) hexec hb hG0.2 ((hK.2 1 _ rfl).1 n (fun j => va_rf (g j))) rfl (fun q => by cases q) (by show ¬ (i < 0 ∨ (arrV _ _ _).slots.size ≤ _); rw [arrV_size]; rintro (z | z); exact h0 z; omega) (by show (arrV _ _ _).slots[_]? = _; rw [arrV_read _ _ hj, hg]; rfl) rfl rfl hdg kk
theorem sx_aald (hexec : p.tables.exec = Jvm.exec) (hb : c.code = cc) (hK : va_K D vwCl (gTY cI cZ cY) s) (hT0 : hT cI cY B H q n w F) (hi : ix i j) (hj : j < n) (hdg : decode cc pc = .ok (.aaload, 1))
    (kk : ∀ x : Nat, hI cI B H x w (F j) → W p l e R s m args below meth c H locs cells slots Q (F0 m (pc + 1) ls (.ref x :: rest))) : W p l e R s m args below meth c H locs cells slots Q (F0 m pc ls (.int i :: .ref q :: rest)) := by
  obtain ⟨a, ⟨g, h1, h2⟩, h3⟩ := hT0
  exact sx_aaldG hexec hb hK h1 (h2 j hj) hi hj hdg (kk _ (h3 j hj))
theorem sx_iald (hexec : p.tables.exec = Jvm.exec) (hb : c.code = cc) (hK : va_K D vwCl (gTY cI cZ cY) s) (hI0 : hI cI B H q n f) (hi : ix i j) (hj : j < n) (hdg : decode cc pc = .ok (.iaload, 1))
    (kk : W p l e R s m args below meth c H locs cells slots Q (F0 m (pc + 1) ls (.int (f j) :: rest))) : W p l e R s m args below meth c H locs cells slots Q (F0 m pc ls (.int i :: .ref q :: rest)) := by
  obtain ⟨-, g, h1, h2⟩ := hI0
  obtain ⟨h0, rfl⟩ := hi
  exact W.iald (v := .int (f i.toNatClampNeg)) hexec hb h1 ((hK.2 0 _ rfl).1 n (fun j => .int (g j))) (fun q => by cases q) (by show ¬ (i < 0 ∨ (arrV _ _ _).slots.size ≤ _); rw [arrV_size]; rintro (z | z); exact h0 z; omega) (by show (arrV _ _ _).slots[_]? = _; rw [arrV_read _ _ hj, h2 _ hj]) rfl rfl hdg kk
theorem sx_alenI (hexec : p.tables.exec = Jvm.exec) (hb : c.code = cc) (hK : va_K D vwCl (gTY cI cZ cY) s) (hI0 : hI cI B H q n f) (hdg : decode cc pc = .ok (.arraylength, 1))
    (kk : W p l e R s m args below meth c H locs cells slots Q (F0 m (pc + 1) ls (.int (nI n) :: rest))) : W p l e R s m args below meth c H locs cells slots Q (F0 m pc ls (.ref q :: rest)) := by
  obtain ⟨-, g, h1, -⟩ := hI0
  exact W.alen (n := nI n) hexec hb h1 ((hK.2 0 _ rfl).1 n (fun j => .int (g j))) (by rw [vp_cell_i, arrV_size] <;> rfl) rfl rfl hdg kk
theorem sx_alenG (hexec : p.tables.exec = Jvm.exec) (hb : c.code = cc) (hK : va_K D vwCl (gTY cI cZ cY) s) (hG0 : hG cY B H q n g) (hdg : decode cc pc = .ok (.arraylength, 1))
    (kk : W p l e R s m args below meth c H locs cells slots Q (F0 m (pc + 1) ls (.int (nI n) :: rest))) : W p l e R s m args below meth c H locs cells slots Q (F0 m pc ls (.ref q :: rest)) :=
  W.alen (n := nI n) hexec hb hG0.2 ((hK.2 1 _ rfl).1 n (fun j => va_rf (g j))) (by rw [vp_cell_q, arrV_size] <;> rfl) rfl rfl hdg kk
theorem sx_alenT (hexec : p.tables.exec = Jvm.exec) (hb : c.code = cc) (hK : va_K D vwCl (gTY cI cZ cY) s) (hT0 : hT cI cY B H q n w F) (hdg : decode cc pc = .ok (.arraylength, 1))
    (kk : W p l e R s m args below meth c H locs cells slots Q (F0 m (pc + 1) ls (.int (nI n) :: rest))) : W p l e R s m args below meth c H locs cells slots Q (F0 m pc ls (.ref q :: rest)) :=
  hT0.elim fun _ y => y.1.elim fun _ z => sx_alenG hexec hb hK z.1 hdg kk
theorem sx_newi {N : Nat} (hexec : p.tables.exec = Jvm.exec) (hb : c.code = cc) (harr : (Cond.arrayClass .int).before args s = true) (hK : va_K D vwCl (gTY cI cZ cY) s) (hS : va_S A H0 H locs) (hB : B ≤ H.size) (hn : ix i N) (hbytes : N * 4 ≤ 536870912) (hcells : cells + 1 ≤ R.cells) (hslots : slots + N ≤ R.slots) (hdg : decode cc pc = .ok (.newarray .int, 2))
    (kk : ∀ (q : Nat) (H1 : Heap), q = H.size → hy 0 H H1 → hI cI B H1 q N (fun _ => 0) → va_S A H0 H1 locs → W p l e R s m args below meth c H1 locs (cells + 1) (slots + N) Q (F0 m (pc + 2) ls (.ref q :: rest))) : W p l e R s m args below meth c H locs cells slots Q (F0 m pc ls (.int i :: rest)) := by
  refine va_newaK (atype := .int) hexec hb harr rfl hdg rfl hn.1 hn.2 hbytes hcells hslots rfl fun H1 cA e1 z1 o1 hAr hNm => ?_
  have e2 : s.vm.findClass ("[" ++ (FieldType.int).toString) = some cI := (hK.2 0 _ rfl).2
  have e3 : cA = cI := Option.some.inj (hNm.symm.trans e2)
  subst e3
  exact kk H.size H1 rfl ⟨by omega, fun q _ h => o1 q h⟩ ⟨hB, fun _ => 0, e1, fun _ _ => rfl⟩ ⟨Nat.le_trans hS.1 (by omega), fun x h1 h2 => (o1 x (Nat.lt_of_lt_of_le h1 hS.1)).trans (hS.2.1 x h1 h2), hS.2.2⟩
theorem sx_iast (hexec : p.tables.exec = Jvm.exec) (hb : c.code = cc) (hK : va_K D vwCl (gTY cI cZ cY) s) (hS : va_S A H0 H locs) (hI0 : hI cI B H q n f) (hA : A q) (hi : ix i j) (hj : j < n) (hdg : decode cc pc = .ok (.iastore, 1))
    (kk : ∀ (H1 : Heap) (locs1 : List Loc), hI cI B H1 q n (upd f j v) → H1.size = H.size → (∀ x : Nat, x ≠ q → H1[x]? = H[x]?) → va_S A H0 H1 locs1 → W p l e R s m args below meth c H1 locs1 cells slots Q (F0 m (pc + 1) ls rest)) : W p l e R s m args below meth c H locs cells slots Q (F0 m pc ls (.int v :: .int i :: .ref q :: rest)) := by
  obtain ⟨hB, g, h1, h2⟩ := hI0
  obtain ⟨h0, rfl⟩ := hi
  refine W.iast hexec hb h1 ((hK.2 0 _ rfl).1 n (fun j => .int (g j))) (fun q => by cases q) (by show ¬ (i < 0 ∨ (arrV _ _ _).slots.size ≤ _); rw [arrV_size]; rintro (z | z); exact h0 z; omega) rfl rfl hdg fun H1 e z oq => ?_
  refine kk H1 _ ⟨hB, upd g i.toNatClampNeg v, ?_, fun k hk => by unfold upd; split; rfl; exact h2 k hk⟩ z oq (hS.put z oq hA)
  rw [e]
  rw [vp_cell_i, vp_cell_i, arrV_store]
  congr 2
  funext q
  by_cases hq : q = i.toNatClampNeg
  · subst hq
    simp [updV, upd]
  · simp [updV, upd, hq]
theorem sx_aast {x n' : Nat} (hexec : p.tables.exec = Jvm.exec) (hb : c.code = cc) (hK : kS D cI cZ cY s) (hS : va_S A H0 H locs) (hG0 : hG cY B H q n g) (hx : hI cI B H x n' f) (hA : A q) (hi : ix i j) (hj : j < n) (hdg : decode cc pc = .ok (.aastore, 1))
    (kk : ∀ (H1 : Heap) (locs1 : List Loc), hG cY B H1 q n (va_up g j (some x)) → H1.size = H.size → (∀ y : Nat, y ≠ q → H1[y]? = H[y]?) → va_S A H0 H1 locs1 → W p l e R s m args below meth c H1 locs1 cells slots Q (F0 m (pc + 1) ls rest)) : W p l e R s m args below meth c H locs cells slots Q (F0 m pc ls (.ref x :: .int i :: .ref q :: rest)) := by
  obtain ⟨hB, h1⟩ := hG0
  obtain ⟨-, gx, hx1, -⟩ := hx
  obtain ⟨h0, rfl⟩ := hi
  obtain ⟨k, kI, k1, k2, k3⟩ := hK.arr
  refine W.aast (t := .array .int) (comp := cI) hexec hb h1 (fun q h => by cases h) (fun h => by cases h) k1 k2 rfl k3 ⟨h0, by show _ < (arrV _ _ _).slots.size; rw [arrV_size]; exact hj⟩ hx1 (fun q h => by cases h) k3 (by show Vm.assignableAux _ (255 + 1) cI cI = true; rw [Vm.assignableAux]; simp only [beq_self_eq_true, Bool.true_or]) rfl rfl hdg fun H1 e z oq => ?_
  refine kk H1 _ ⟨hB, ?_⟩ z oq (hS.put z oq hA)
  rw [e]
  rw [vp_cell_q, vp_cell_q, arrV_store]
  congr 2
  funext q
  by_cases hq : q = i.toNatClampNeg
  · subst hq
    simp [updV, va_up, va_rf]
  · simp [updV, va_up, hq]
theorem sx_anew {N index : Nat} {own : String} (hexec : p.tables.exec = Jvm.exec) (hb : c.code = cc) (hown : s.vm.findClass own = some m.cls) (hlink : (Cond.classLink own index "[I").before args s = true) (hK : kS D cI cZ cY s) (hS : va_S A H0 H locs) (hB : B ≤ H.size) (hn : ix i N) (hbytes : N * 4 ≤ 536870912) (hcells : cells + 1 ≤ R.cells) (hslots : slots + N ≤ R.slots) (hdg : decode cc pc = .ok (.anewarray index, 3))
    (kk : ∀ (q : Nat) (H1 : Heap), q = H.size → hy 0 H H1 → hG cY B H1 q N (fun _ => none) → va_S A H0 H1 locs → W p l e R s m args below meth c H1 locs (cells + 1) (slots + N) Q (F0 m (pc + 3) ls (.ref q :: rest))) : W p l e R s m args below meth c H locs cells slots Q (F0 m pc ls (.int i :: rest)) := by
  obtain ⟨hn0, rfl⟩ := hn
  refine W.anewA (t := .int) hexec hb hown hlink hK.2.use rfl hdg rfl hn0 hbytes hcells hslots fun cA kA comp f1 f2 f3 f4 => ?_
  have e2 : s.vm.findClass ("[" ++ (FieldType.array .int).toString) = some cY := (hK.1.2 1 _ rfl).2
  have e3 : cA = cY := Option.some.inj (f1.symm.trans e2)
  subst e3
  generalize hH1 : H.push ({ cls := cA, slots := Array.replicate i.toNatClampNeg .null, vm := .none } : Cell) = H1
  have z1 : H1.size = H.size + 1 := by rw [← hH1, Array.size_push]
  have e1 : H1[H.size]? = some (arrV cA i.toNatClampNeg (fun _ => .null)) := by rw [← hH1, Array.getElem?_push_size, ← arrV_new]
  have o1 : ∀ q : Nat, q < H.size → H1[q]? = H[q]? := fun q hq => by rw [← hH1, Array.getElem?_push, if_neg (Nat.ne_of_lt hq)]
  exact kk H.size H1 rfl ⟨by omega, fun q _ h => o1 q h⟩ ⟨hB, e1⟩ ⟨Nat.le_trans hS.1 (by omega), fun x h1 h2 => (o1 x (Nat.lt_of_lt_of_le h1 hS.1)).trans (hS.2.1 x h1 h2), hS.2.2⟩
theorem sx_put {Ts : List Cond} {own ref : String} {index h k : Nat} {fs : List Value} {ty : FieldType} {v : Value} (hexec : p.tables.exec = Jvm.exec) (hb : c.code = cc) (hts : ∀ w ∈ Ts, w.before args s = true) (hin : ∀ w ∈ u_ws RX2 TX2 4, w ∈ Ts) (hown : s.vm.findClass own = some m.cls) (hK : va_K D vwCl (gTY cI cZ cY) s) (ho : va_at D vwCl (h, .inr (2, fs)) H) (hS : va_S A H0 H locs) (hA : A h) (hlink : (Cond.fieldLink own index ref (TX2 k).2.1 (TX2 k).2.2.1).before args s = true) (hk : k < 4) (hsame : (TX2 k).1 = ref) (hd : parseFieldDescriptor (TX2 k).2.2.1 = some ty) (hn : narrow ty v = v) (hfit : fits ty v = true) (hl : fs.length = 4) (hfin : (TX2 k).2.2.2 = false)
    (hdg : decode cc pc = .ok (.putfield index, 3)) (kk : ∀ (H1 : Heap) (locs1 : List Loc), va_at D vwCl (h, .inr (2, fs.set k v)) H1 → hz h H H1 → va_S A H0 H1 locs1 → W p l e R s m args below meth c H1 locs1 cells slots Q (F0 m (pc + 3) ls rest)) : W p l e R s m args below meth c H locs cells slots Q (F0 m pc ls (v :: .ref h :: rest)) := by
  subst hsame
  have hc : vwCl[2]? = some (RX2, TX2, 4) := rfl
  have hap := va_apart (own := own) hts hin tyX2 tyX2_ok nmX2 hK hc
  obtain ⟨r, h1, cell, q1, q2, q3, q4⟩ := ho
  have hr : r = (RX2, TX2, 4) := Option.some.inj (h1.symm.trans hc)
  subst hr
  obtain ⟨hS9, hfc, kC, hkC, hkind⟩ := hK.1 2 _ hc
  obtain ⟨cf, kf, fi, f, hi, hsl⟩ := hS9 k hk
  have hlay := hts _ (hin _ (u_in_lay hk))
  unfold u_lay at hlay
  rw [if_neg (by rw [hfin]; decide)] at hlay
  have hst := (u_facts hfc hkC (u_lays hts hin hk) hi).1
  have h6 := u_store hfc hkC hkind hlay hi hd hn hfit
  refine W.putK hexec hb (f := f) ⟨hown, hlink, ⟨_, _, _, hi⟩, hst⟩ (by rw [q2]; exact h6) q1 q3 (by rw [hsl]; exact k2_hasslot (q4 k hk)) rfl rfl hdg fun H' e1 e2 e3 => ?_
  rw [hsl] at e1 ⊢
  exact kk H' _ ⟨_, hc, t_OB.to (V := updV (vp_V fs) k v) ⟨_, e1, q2, q3, t_set q4 hap hk v⟩ (fun j _ => vp_updV_set (by rw [hl]; exact hk) v j)⟩ ⟨by omega, fun q h0 _ => e3 q h0⟩ (hS.put e2 e3 hA)
end SX
/-! contracts: what is read, what is made, what is written -/
abbrev sP (D : va_G) (cI cZ cY : ClassId) (Pic : Heap → Prop) : State → Prop := fun U => Pic U.heap ∧ kS D cI cZ cY U
abbrev sPz (D : va_G) (cI cZ cY : ClassId) (Pic : Heap → Prop) (sz : Nat) : State → Prop := fun U => U.heap.size = sz ∧ Pic U.heap ∧ kS D cI cZ cY U
abbrev aN : Nat → Nat → Prop := fun sz q => sz ≤ q
abbrev aH (h : Nat) : Nat → Nat → Prop := fun sz q => q = h ∨ sz ≤ q
theorem aN_ok : ∀ sz q, sz ≤ q → aN sz q := fun _ _ h => h
theorem aH_ok (h : Nat) : ∀ sz q, sz ≤ q → aH h sz q := fun _ _ h => Or.inr h
theorem sBlind {As : List Value} {D : va_G} {cI cZ cY : ClassId} {Pic : Heap → Prop} : FrameBlind (va_Pc As (sP D cI cZ cY Pic)) := fun a U g mk q => ⟨q.1, q.2.1, kS.moved (u := U) (U := U.calling g mk a) (Vm.Alike.refl U.vm) q.2.2⟩
theorem sBlindz {As : List Value} {D : va_G} {cI cZ cY : ClassId} {Pic : Heap → Prop} {sz : Nat} : FrameBlind (va_Pc As (sPz D cI cZ cY Pic sz)) := fun a U g mk q => ⟨q.1, q.2.1, q.2.2.1, kS.moved (u := U) (U := U.calling g mk a) (Vm.Alike.refl U.vm) q.2.2.2⟩
abbrev sQr (Pf : Heap → Nat → Prop) (A : Nat → Prop) : Array Value → State → Outcome → State → Prop := va_Qr (fun _ : Unit => True) (fun _ a t => Pf t.heap a) A
abbrev sQv (Pf : Heap → Prop) (A : Nat → Prop) : Array Value → State → Outcome → State → Prop := va_Qv (fun _ : Unit => True) (fun _ t => Pf t.heap) A
abbrev sQi (v : Int32) (Pf : Heap → Prop) (A : Nat → Prop) : Array Value → State → Outcome → State → Prop := va_Qi (fun (r : Int32) (_ : Unit) => r = v) (fun _ t => Pf t.heap) A
theorem sr_start {l : Launch} {y : MethodName} {cc : ByteArray} {maxL : Nat} {ret : Option FieldType} {ws ws' : List Cond} {rm : Room} {D : va_G} {cI cZ cY : ClassId} {Pic : Heap → Prop} {As : List Value} {Qc : Array Value → State → Outcome → State → Prop} (own : String) (hyn : plainName y.cls = true) (hC : y.cls = own) (hw : ws = Cond.code y cc maxL ret :: ws') (hlen : (lg_sl As).length ≤ maxL)
    (body : ∀ (p : Program) (e : Env) (s : State) (m : MethodId) (below : List Frame) (meth : Method) (c : Code), (p.tables.exec = Jvm.exec ∧ c.code = cc ∧ meth.sig.returnType = ret ∧ c.maxLocals = maxL ∧ s.vm.findClass own = some m.cls ∧ (∀ w ∈ ws, w.before As.toArray s = true) ∧ meth.locks = false) → Pic s.heap → kS D cI cZ cY s → ∀ ls : Array Slot, lv_has ls maxL (lv_args 0 As) → W p l e rm s m As.toArray below meth c s.heap [] 0 0 (MQ below Qc As.toArray s 0 0 (fun _ => False)) (F0 m 0 ls [])) :
    Met l y ws rm (va_Pc As (sP D cI cZ cY Pic)) Qc 0 0 (fun _ => False) := by
  refine Met.ofW (cc := cc) (maxL := maxL) (ret := ret) hyn hw ?_
  intro p e s m args below meth c s₁ B hml hv
  obtain ⟨rfl, hP, hK⟩ := hv
  rw [lg_entry_eq]
  exact body p e s m below meth c ⟨B.exec, B.bytes, B.returns, hml, by rw [← hC]; exact findClass_of_methodNamed B.named, atoms_spec B.pre, B.notSynchronized⟩ hP hK _ (lv_entry As hlen)
theorem sa_start {l : Launch} {y : MethodName} {cc : ByteArray} {maxL : Nat} {ret : Option FieldType} {ws ws' : List Cond} {rm : Room} {D : va_G} {cI cZ cY : ClassId} {Pic : Heap → Prop} {sz : Nat} {As : List Value} {mc ms : Nat} {Q0 : (Nat → Prop) → Array Value → State → Outcome → State → Prop} (A0 : Nat → Nat → Prop) (hA0 : ∀ sz q, sz ≤ q → A0 sz q) (own : String) (hyn : plainName y.cls = true) (hC : y.cls = own) (hw : ws = Cond.code y cc maxL ret :: ws') (hlen : (lg_sl As).length ≤ maxL)
    (body : ∀ (p : Program) (e : Env) (s : State) (m : MethodId) (below : List Frame) (meth : Method) (c : Code), (p.tables.exec = Jvm.exec ∧ c.code = cc ∧ meth.sig.returnType = ret ∧ c.maxLocals = maxL ∧ s.vm.findClass own = some m.cls ∧ (∀ w ∈ ws, w.before As.toArray s = true) ∧ meth.locks = false ∧ (y.name = "<init>" → meth.name = "<init>")) → Pic s.heap → kS D cI cZ cY s → ∀ A : Nat → Prop, A = A0 s.heap.size → (∀ q : Nat, s.heap.size ≤ q → A q) → va_S A s.heap s.heap [] → ∀ ls : Array Slot, lv_has ls maxL (lv_args 0 As) → W p l e rm s m As.toArray below meth c s.heap [] 0 0 (MQ below (Q0 A) As.toArray s mc ms A) (F0 m 0 ls [])) :
    Met l y ws rm (va_Pc As (sPz D cI cZ cY Pic sz)) (Q0 (A0 sz)) mc ms (A0 sz) := by
  refine Met.ofW (cc := cc) (maxL := maxL) (ret := ret) hyn hw ?_
  intro p e s m args below meth c s₁ B hml hv
  obtain ⟨rfl, hsz, hP, hK⟩ := hv
  subst hsz
  rw [lg_entry_eq]
  exact body p e s m below meth c ⟨B.exec, B.bytes, B.returns, hml, by rw [← hC]; exact findClass_of_methodNamed B.named, atoms_spec B.pre, B.notSynchronized, fun h => by rw [← h]; exact (name_of_methodNamed B.named B.method).1⟩ hP hK (A0 s.heap.size) rfl (hA0 _) va_S.rf _ (lv_entry As hlen)
theorem sa_startZ {l : Launch} {y : MethodName} {cc : ByteArray} {maxL : Nat} {ret : Option FieldType} {ws ws' : List Cond} {rm : Room} {D : va_G} {cI cZ cY : ClassId} {Pic : Heap → Prop} {sz : Nat} {As : List Value} {mc ms : Nat} {Q0 : (Nat → Prop) → Array Value → State → Outcome → State → Prop} (A0 : Nat → Nat → Prop) (hA0 : ∀ sz q, sz ≤ q → A0 sz q) (own : String) (hyn : plainName y.cls = true) (hC : y.cls = own) (hw : ws = Cond.code y cc maxL ret :: ws') (hlen : (lg_sl As).length ≤ maxL)
    (body : ∀ (p : Program) (e : Env) (s : State) (m : MethodId) (below : List Frame) (meth : Method) (c : Code), (p.tables.exec = Jvm.exec ∧ c.code = cc ∧ meth.sig.returnType = ret ∧ c.maxLocals = maxL ∧ s.vm.findClass own = some m.cls ∧ (∀ w ∈ ws, w.before As.toArray s = true) ∧ meth.locks = false ∧ (y.name = "<init>" → meth.name = "<init>")) → s.heap.size = sz → Pic s.heap → kS D cI cZ cY s → ∀ A : Nat → Prop, A = A0 s.heap.size → (∀ q : Nat, s.heap.size ≤ q → A q) → va_S A s.heap s.heap [] → ∀ ls : Array Slot, lv_has ls maxL (lv_args 0 As) → W p l e rm s m As.toArray below meth c s.heap [] 0 0 (MQ below (Q0 A) As.toArray s mc ms A) (F0 m 0 ls [])) :
    Met l y ws rm (va_Pc As (sPz D cI cZ cY Pic sz)) (Q0 (A0 sz)) mc ms (A0 sz) := by
  refine Met.ofW (cc := cc) (maxL := maxL) (ret := ret) hyn hw ?_
  intro p e s m args below meth c s₁ B hml hv
  obtain ⟨rfl, hsz, hP, hK⟩ := hv
  subst hsz
  rw [lg_entry_eq]
  exact body p e s m below meth c ⟨B.exec, B.bytes, B.returns, hml, by rw [← hC]; exact findClass_of_methodNamed B.named, atoms_spec B.pre, B.notSynchronized, fun h => by rw [← h]; exact (name_of_methodNamed B.named B.method).1⟩ rfl hP hK (A0 s.heap.size) rfl (hA0 _) va_S.rf _ (lv_entry As hlen)
/-- a table made anew: it and its rows, the rows all older than sz, it itself not -/
def hU (cI cY : ClassId) (B sz : Nat) (H : Heap) (q n w : Nat) (F : Nat → Nat → Int32) : Prop := sz ≤ q ∧ ∃ ad : Nat → Nat, hQ cY B H q n ad ∧ ∀ j : Nat, j < n → hI cI B H (ad j) w (F j) ∧ ad j < sz
theorem hU.T {cI cY : ClassId} {B sz : Nat} {H : Heap} {q n w : Nat} {F : Nat → Nat → Int32} (x : hU cI cY B sz H q n w F) : hT cI cY B H q n w F := x.2.elim fun ad y => ⟨ad, y.1, fun j hj => (y.2 j hj).1⟩
theorem hQ.up {cY : ClassId} {B : Nat} {H : Heap} {q n i : Nat} {g : Nat → Option Nat} {a : Nat → Nat} (hg : ∀ j : Nat, j < i → g j = some (a j)) : ∀ j : Nat, j < i + 1 → va_up g i (some (a i)) j = some (a j) := by
  intro j hj
  unfold va_up
  by_cases h : j = i
  · rw [if_pos h, h]
  · rw [if_neg h]; exact hg j (by omega)
theorem nI_m1 (m : Nat) : nI (m + 1) - 1 = nI m := by rw [← nI_1]; exact Int32.add_sub_cancel _ _
section SC
variable {p : Program} {l : Launch} {e : Env} {R : Room} {s : State} {m : MethodId} {args : Array Value} {below : List Frame} {meth : Method} {c : Code} {H : Heap} {locs : List Loc} {cells slots : Nat} {Q : State → Prop}
variable {cc : ByteArray} {pc : Nat} {ls : Array Slot} {rest : List Value} {D : va_G} {A : Nat → Prop} {H0 : Heap} {cI cZ cY : ClassId} {mc ms : Nat}
theorem sa_iret {v w : Int32} {Pf : Heap → Prop} (hx : p.tables.exec = Jvm.exec) (hb : c.code = cc) (hr : meth.sig.returnType = some .int) (hlocks : meth.locks = false) (he : v = w) (hP : Pf H) (hS : va_S A s.heap H locs) (hc : cells ≤ mc) (hs : slots ≤ ms) (hdg : decode cc pc = .ok (.ireturn, 1)) : W p l e R s m args below meth c H locs cells slots (MQ below (sQi w Pf A) args s mc ms A) (F0 m pc ls [.int v]) :=
  W.widen hc hs (W.iret hx hb hr (fun t ht _ => ⟨⟨v, (), rfl, he, by show Pf t.heap; rw [ht]; exact hP⟩, hS.F ht⟩) hS.2.2 hdg hlocks)
theorem sa_zret {v : Int32} {b : Bool} {Pf : Heap → Prop} (hx : p.tables.exec = Jvm.exec) (hb : c.code = cc) (hr : meth.sig.returnType = some .boolean) (hlocks : meth.locks = false) (he : v = bI b) (hP : Pf H) (hS : va_S A s.heap H locs) (hc : cells ≤ mc) (hs : slots ≤ ms) (hdg : decode cc pc = .ok (.ireturn, 1)) : W p l e R s m args below meth c H locs cells slots (MQ below (sQi (bI b) Pf A) args s mc ms A) (F0 m pc ls [.int v]) :=
  W.widen hc hs (W.zret hx hb hr (by rw [he]; exact bI_narrow b) (fun t ht _ => ⟨⟨v, (), rfl, he, by show Pf t.heap; rw [ht]; exact hP⟩, hS.F ht⟩) hS.2.2 hdg hlocks)
theorem sa_vret {Pf : Heap → Prop} (hx : p.tables.exec = Jvm.exec) (hb : c.code = cc) (hr : meth.sig.returnType = none) (hlocks : meth.locks = false) (hP : Pf H) (hS : va_S A s.heap H locs) (hc : cells ≤ mc) (hs : slots ≤ ms) (hdg : decode cc pc = .ok (.return_, 1)) : W p l e R s m args below meth c H locs cells slots (MQ below (sQv Pf A) args s mc ms A) (F0 m pc ls []) :=
  W.widen hc hs (W.vret hx hb hr (fun t ht _ => ⟨⟨(), rfl, trivial, by show Pf t.heap; rw [ht]; exact hP⟩, hS.F ht⟩) hS.2.2 hdg hlocks)
theorem sa_aret {q : Nat} {ty : FieldType} {Pf : Heap → Nat → Prop} (hx : p.tables.exec = Jvm.exec) (hb : c.code = cc) (hr : meth.sig.returnType = some (.array ty)) (hlocks : meth.locks = false) (hP : Pf H q) (hS : va_S A s.heap H locs) (hc : cells ≤ mc) (hs : slots ≤ ms) (hdg : decode cc pc = .ok (.areturn, 1)) : W p l e R s m args below meth c H locs cells slots (MQ below (sQr Pf A) args s mc ms A) (F0 m pc ls [.ref q]) :=
  W.widen hc hs (W.aret hx hb hr (Or.inr ⟨ty, rfl⟩) (Or.inr ⟨q, rfl⟩) (fun t ht _ => ⟨⟨(), q, rfl, trivial, by show Pf t.heap q; rw [ht]; exact hP⟩, hS.F ht⟩) hS.2.2 hdg hlocks)
variable {y : MethodName} {bytes : ByteArray} {maxL nL n index : Nat} {ret : Option FieldType} {ws : List Cond} {rm : Room} {Ts : List Cond} {own C : String} {b : Addr} {As st0 : List Value} {Pic : Heap → Prop}
theorem sr_cVi {v : Int32} (F : CallFix p m c cc nL s args Ts own) (hM : Met l y ws rm (va_Pc (.ref b :: As) (sP D cI cZ cY Pic)) (vp_Si (fun r => r = v)) 0 0 (fun _ => False)) (cw : CallW R s args own C index y bytes maxL ret ws rm 0 0 n) (hP : Pic H) (hK : kS D cI cZ cY s)
    (hv : ∃ cell : Cell, H[b]? = some cell ∧ cell.vm.isStatics = false ∧ s.vm.findClass C = some cell.cls) (hn : As.length = n) (hsz : ls.size = nL) (hst : st0 = As.reverse ++ .ref b :: rest) (hW : 2 * (F0 m pc ls st0).monitorRoom + (rest.map fun v => v.category).sum ≤ 8) (hdg : decode cc pc = .ok (.invokevirtual index, 3)) (hf : cells + 0 ≤ R.cells ∧ slots + 0 ≤ R.slots)
    (kk : W p l e R s m args below meth c H locs cells slots Q (F0 m (pc + 3) ls (.int v :: rest))) : W p l e R s m args below meth c H locs cells slots Q (F0 m pc ls st0) :=
  vp_callSi (W.runV F hM cw ⟨sBlind, hv, fun U hU hW => ⟨rfl, by rw [hU]; exact hP, hK.moved hW.alike⟩⟩ rfl hn hsz hst hW hdg hf) (fun r hr => by subst hr; exact kk)
theorem sr_cSi {v : Int32} (F : CallFix p m c cc nL s args Ts own) (hM : Met l y ws rm (va_Pc As (sP D cI cZ cY Pic)) (vp_Si (fun r => r = v)) 0 0 (fun _ => False)) (cw : CallB R s args own index y bytes maxL ret ws rm 0 0 n ∧ (Cond.static y).before args s = true) (hP : Pic H) (hK : kS D cI cZ cY s)
    (hn : As.length = n) (hsz : ls.size = nL) (hst : st0 = As.reverse ++ rest) (hW : 2 * (F0 m pc ls st0).monitorRoom + (rest.map fun v => v.category).sum ≤ 8) (hdg : decode cc pc = .ok (.invokestatic index, 3)) (hf : cells + 0 ≤ R.cells ∧ slots + 0 ≤ R.slots)
    (kk : W p l e R s m args below meth c H locs cells slots Q (F0 m (pc + 3) ls (.int v :: rest))) : W p l e R s m args below meth c H locs cells slots Q (F0 m pc ls st0) :=
  vp_callSi (W.runS F hM cw ⟨sBlind, fun U hU hW => ⟨rfl, by rw [hU]; exact hP, hK.moved hW.alike⟩⟩ rfl hn hsz hst hW hdg hf) (fun r hr => by subst hr; exact kk)
theorem sc_cVNi {v : Int32} {Pf : Heap → Prop} (F : CallFix p m c cc nL s args Ts own) (hM : Met l y ws rm (va_Pc (.ref b :: As) (sPz D cI cZ cY Pic H.size)) (sQi v Pf (aN H.size)) mc ms (aN H.size)) (cw : CallW R s args own C index y bytes maxL ret ws rm mc ms n) (hP : Pic H) (hK : kS D cI cZ cY s) (hS : va_S A H0 H locs) (hA : ∀ q, H0.size ≤ q → A q)
    (hv : ∃ cell : Cell, H[b]? = some cell ∧ cell.vm.isStatics = false ∧ s.vm.findClass C = some cell.cls) (hn : As.length = n) (hsz : ls.size = nL) (hst : st0 = As.reverse ++ .ref b :: rest) (hW : 2 * (F0 m pc ls st0).monitorRoom + (rest.map fun v => v.category).sum ≤ 8) (hdg : decode cc pc = .ok (.invokevirtual index, 3)) (hf : cells + mc ≤ R.cells ∧ slots + ms ≤ R.slots)
    (kk : ∀ (H1 : Heap) (locs1 : List Loc), Pf H1 → hy 0 H H1 → va_S A H0 H1 locs1 → W p l e R s m args below meth c H1 locs1 (cells + mc) (slots + ms) Q (F0 m (pc + 3) ls (.int v :: rest))) : W p l e R s m args below meth c H locs cells slots Q (F0 m pc ls st0) := by
  refine va_calli (va_runV F hM cw ⟨sBlindz, hv, fun U hU hW => ⟨rfl, by rw [hU], by rw [hU]; exact hP, hK.moved hW.alike⟩⟩ rfl hn hsz hst hW hdg hf) hS (fun q _ h => hA q (Nat.le_trans hS.1 h)) (fun q h => hA q (Nat.le_trans hS.1 h)) (fun r u t H1 locs1 ht hvm hw hB hz1 hk1 hS1 => ?_)
  rw [ht] at hB
  subst hw
  exact kk H1 locs1 hB ⟨hz1, fun q _ h => hk1 q h (Nat.not_le.mpr h)⟩ hS1
theorem sc_cVNr {Pf : Heap → Nat → Prop} (F : CallFix p m c cc nL s args Ts own) (hM : Met l y ws rm (va_Pc (.ref b :: As) (sPz D cI cZ cY Pic H.size)) (sQr Pf (aN H.size)) mc ms (aN H.size)) (cw : CallW R s args own C index y bytes maxL ret ws rm mc ms n) (hP : Pic H) (hK : kS D cI cZ cY s) (hS : va_S A H0 H locs) (hA : ∀ q, H0.size ≤ q → A q)
    (hv : ∃ cell : Cell, H[b]? = some cell ∧ cell.vm.isStatics = false ∧ s.vm.findClass C = some cell.cls) (hn : As.length = n) (hsz : ls.size = nL) (hst : st0 = As.reverse ++ .ref b :: rest) (hW : 2 * (F0 m pc ls st0).monitorRoom + (rest.map fun v => v.category).sum ≤ 8) (hdg : decode cc pc = .ok (.invokevirtual index, 3)) (hf : cells + mc ≤ R.cells ∧ slots + ms ≤ R.slots)
    (kk : ∀ (q : Nat) (H1 : Heap) (locs1 : List Loc), Pf H1 q → hy 0 H H1 → va_S A H0 H1 locs1 → W p l e R s m args below meth c H1 locs1 (cells + mc) (slots + ms) Q (F0 m (pc + 3) ls (.ref q :: rest))) : W p l e R s m args below meth c H locs cells slots Q (F0 m pc ls st0) := by
  refine va_callr (va_runV F hM cw ⟨sBlindz, hv, fun U hU hW => ⟨rfl, by rw [hU], by rw [hU]; exact hP, hK.moved hW.alike⟩⟩ rfl hn hsz hst hW hdg hf) hS (fun q _ h => hA q (Nat.le_trans hS.1 h)) (fun q h => hA q (Nat.le_trans hS.1 h)) (fun u ra t H1 locs1 ht hvm hw hB hz1 hk1 hS1 => ?_)
  rw [ht] at hB
  exact kk ra H1 locs1 hB ⟨hz1, fun q _ h => hk1 q h (Nat.not_le.mpr h)⟩ hS1
theorem sc_cVNv {Pf : Heap → Prop} (F : CallFix p m c cc nL s args Ts own) (hM : Met l y ws rm (va_Pc (.ref b :: As) (sPz D cI cZ cY Pic H.size)) (sQv Pf (aN H.size)) mc ms (aN H.size)) (cw : CallW R s args own C index y bytes maxL ret ws rm mc ms n) (hP : Pic H) (hK : kS D cI cZ cY s) (hS : va_S A H0 H locs) (hA : ∀ q, H0.size ≤ q → A q)
    (hv : ∃ cell : Cell, H[b]? = some cell ∧ cell.vm.isStatics = false ∧ s.vm.findClass C = some cell.cls) (hn : As.length = n) (hsz : ls.size = nL) (hst : st0 = As.reverse ++ .ref b :: rest) (hW : 2 * (F0 m pc ls st0).monitorRoom + (rest.map fun v => v.category).sum ≤ 8) (hdg : decode cc pc = .ok (.invokevirtual index, 3)) (hf : cells + mc ≤ R.cells ∧ slots + ms ≤ R.slots)
    (kk : ∀ (H1 : Heap) (locs1 : List Loc), Pf H1 → hy 0 H H1 → va_S A H0 H1 locs1 → W p l e R s m args below meth c H1 locs1 (cells + mc) (slots + ms) Q (F0 m (pc + 3) ls rest)) : W p l e R s m args below meth c H locs cells slots Q (F0 m pc ls st0) := by
  refine va_callv (va_runV F hM cw ⟨sBlindz, hv, fun U hU hW => ⟨rfl, by rw [hU], by rw [hU]; exact hP, hK.moved hW.alike⟩⟩ rfl hn hsz hst hW hdg hf) hS (fun q _ h => hA q (Nat.le_trans hS.1 h)) (fun q h => hA q (Nat.le_trans hS.1 h)) (fun u t H1 locs1 ht hvm hw hB hz1 hk1 hS1 => ?_)
  rw [ht] at hB
  exact kk H1 locs1 hB ⟨hz1, fun q _ h => hk1 q h (Nat.not_le.mpr h)⟩ hS1
theorem sc_cVHi {v : Int32} {hh : Nat} {Pf : Heap → Prop} (F : CallFix p m c cc nL s args Ts own) (hM : Met l y ws rm (va_Pc (.ref b :: As) (sPz D cI cZ cY Pic H.size)) (sQi v Pf (aH hh H.size)) mc ms (aH hh H.size)) (cw : CallW R s args own C index y bytes maxL ret ws rm mc ms n) (hP : Pic H) (hK : kS D cI cZ cY s) (hS : va_S A H0 H locs) (hA : ∀ q, H0.size ≤ q → A q) (hAh : A hh)
    (hv : ∃ cell : Cell, H[b]? = some cell ∧ cell.vm.isStatics = false ∧ s.vm.findClass C = some cell.cls) (hn : As.length = n) (hsz : ls.size = nL) (hst : st0 = As.reverse ++ .ref b :: rest) (hW : 2 * (F0 m pc ls st0).monitorRoom + (rest.map fun v => v.category).sum ≤ 8) (hdg : decode cc pc = .ok (.invokevirtual index, 3)) (hf : cells + mc ≤ R.cells ∧ slots + ms ≤ R.slots)
    (kk : ∀ (H1 : Heap) (locs1 : List Loc), Pf H1 → hz hh H H1 → va_S A H0 H1 locs1 → W p l e R s m args below meth c H1 locs1 (cells + mc) (slots + ms) Q (F0 m (pc + 3) ls (.int v :: rest))) : W p l e R s m args below meth c H locs cells slots Q (F0 m pc ls st0) := by
  refine va_calli (va_runV F hM cw ⟨sBlindz, hv, fun U hU hW => ⟨rfl, by rw [hU], by rw [hU]; exact hP, hK.moved hW.alike⟩⟩ rfl hn hsz hst hW hdg hf) hS (fun q _ h => h.elim (fun z => by rw [z]; exact hAh) (fun z => hA q (Nat.le_trans hS.1 z))) (fun q h => h.elim (fun z => by rw [z]; exact hAh) (fun z => hA q (Nat.le_trans hS.1 z))) (fun r u t H1 locs1 ht hvm hw hB hz1 hk1 hS1 => ?_)
  rw [ht] at hB
  subst hw
  exact kk H1 locs1 hB ⟨hz1, fun q h0 h => hk1 q h (fun z => z.elim h0 (Nat.not_le.mpr h))⟩ hS1
theorem sc_cVHr {hh : Nat} {Pf : Heap → Nat → Prop} (F : CallFix p m c cc nL s args Ts own) (hM : Met l y ws rm (va_Pc (.ref b :: As) (sPz D cI cZ cY Pic H.size)) (sQr Pf (aH hh H.size)) mc ms (aH hh H.size)) (cw : CallW R s args own C index y bytes maxL ret ws rm mc ms n) (hP : Pic H) (hK : kS D cI cZ cY s) (hS : va_S A H0 H locs) (hA : ∀ q, H0.size ≤ q → A q) (hAh : A hh)
    (hv : ∃ cell : Cell, H[b]? = some cell ∧ cell.vm.isStatics = false ∧ s.vm.findClass C = some cell.cls) (hn : As.length = n) (hsz : ls.size = nL) (hst : st0 = As.reverse ++ .ref b :: rest) (hW : 2 * (F0 m pc ls st0).monitorRoom + (rest.map fun v => v.category).sum ≤ 8) (hdg : decode cc pc = .ok (.invokevirtual index, 3)) (hf : cells + mc ≤ R.cells ∧ slots + ms ≤ R.slots)
    (kk : ∀ (q : Nat) (H1 : Heap) (locs1 : List Loc), Pf H1 q → hz hh H H1 → va_S A H0 H1 locs1 → W p l e R s m args below meth c H1 locs1 (cells + mc) (slots + ms) Q (F0 m (pc + 3) ls (.ref q :: rest))) : W p l e R s m args below meth c H locs cells slots Q (F0 m pc ls st0) := by
  refine va_callr (va_runV F hM cw ⟨sBlindz, hv, fun U hU hW => ⟨rfl, by rw [hU], by rw [hU]; exact hP, hK.moved hW.alike⟩⟩ rfl hn hsz hst hW hdg hf) hS (fun q _ h => h.elim (fun z => by rw [z]; exact hAh) (fun z => hA q (Nat.le_trans hS.1 z))) (fun q h => h.elim (fun z => by rw [z]; exact hAh) (fun z => hA q (Nat.le_trans hS.1 z))) (fun u ra t H1 locs1 ht hvm hw hB hz1 hk1 hS1 => ?_)
  rw [ht] at hB
  exact kk ra H1 locs1 hB ⟨hz1, fun q h0 h => hk1 q h (fun z => z.elim h0 (Nat.not_le.mpr h))⟩ hS1
theorem sc_cVHv {hh : Nat} {Pf : Heap → Prop} (F : CallFix p m c cc nL s args Ts own) (hM : Met l y ws rm (va_Pc (.ref b :: As) (sPz D cI cZ cY Pic H.size)) (sQv Pf (aH hh H.size)) mc ms (aH hh H.size)) (cw : CallW R s args own C index y bytes maxL ret ws rm mc ms n) (hP : Pic H) (hK : kS D cI cZ cY s) (hS : va_S A H0 H locs) (hA : ∀ q, H0.size ≤ q → A q) (hAh : A hh)
    (hv : ∃ cell : Cell, H[b]? = some cell ∧ cell.vm.isStatics = false ∧ s.vm.findClass C = some cell.cls) (hn : As.length = n) (hsz : ls.size = nL) (hst : st0 = As.reverse ++ .ref b :: rest) (hW : 2 * (F0 m pc ls st0).monitorRoom + (rest.map fun v => v.category).sum ≤ 8) (hdg : decode cc pc = .ok (.invokevirtual index, 3)) (hf : cells + mc ≤ R.cells ∧ slots + ms ≤ R.slots)
    (kk : ∀ (H1 : Heap) (locs1 : List Loc), Pf H1 → hz hh H H1 → va_S A H0 H1 locs1 → W p l e R s m args below meth c H1 locs1 (cells + mc) (slots + ms) Q (F0 m (pc + 3) ls rest)) : W p l e R s m args below meth c H locs cells slots Q (F0 m pc ls st0) := by
  refine va_callv (va_runV F hM cw ⟨sBlindz, hv, fun U hU hW => ⟨rfl, by rw [hU], by rw [hU]; exact hP, hK.moved hW.alike⟩⟩ rfl hn hsz hst hW hdg hf) hS (fun q _ h => h.elim (fun z => by rw [z]; exact hAh) (fun z => hA q (Nat.le_trans hS.1 z))) (fun q h => h.elim (fun z => by rw [z]; exact hAh) (fun z => hA q (Nat.le_trans hS.1 z))) (fun u t H1 locs1 ht hvm hw hB hz1 hk1 hS1 => ?_)
  rw [ht] at hB
  exact kk H1 locs1 hB ⟨hz1, fun q h0 h => hk1 q h (fun z => z.elim h0 (Nat.not_le.mpr h))⟩ hS1
theorem sc_cSNi {v : Int32} {Pf : Heap → Prop} (F : CallFix p m c cc nL s args Ts own) (hM : Met l y ws rm (va_Pc As (sPz D cI cZ cY Pic H.size)) (sQi v Pf (aN H.size)) mc ms (aN H.size)) (cw : CallB R s args own index y bytes maxL ret ws rm mc ms n ∧ (Cond.static y).before args s = true) (hP : Pic H) (hK : kS D cI cZ cY s) (hS : va_S A H0 H locs) (hA : ∀ q, H0.size ≤ q → A q)
    (hn : As.length = n) (hsz : ls.size = nL) (hst : st0 = As.reverse ++ rest) (hW : 2 * (F0 m pc ls st0).monitorRoom + (rest.map fun v => v.category).sum ≤ 8) (hdg : decode cc pc = .ok (.invokestatic index, 3)) (hf : cells + mc ≤ R.cells ∧ slots + ms ≤ R.slots)
    (kk : ∀ (H1 : Heap) (locs1 : List Loc), Pf H1 → hy 0 H H1 → va_S A H0 H1 locs1 → W p l e R s m args below meth c H1 locs1 (cells + mc) (slots + ms) Q (F0 m (pc + 3) ls (.int v :: rest))) : W p l e R s m args below meth c H locs cells slots Q (F0 m pc ls st0) := by
  refine va_calli (va_runS F hM cw ⟨sBlindz, fun U hU hW => ⟨rfl, by rw [hU], by rw [hU]; exact hP, hK.moved hW.alike⟩⟩ rfl hn hsz hst hW hdg hf) hS (fun q _ h => hA q (Nat.le_trans hS.1 h)) (fun q h => hA q (Nat.le_trans hS.1 h)) (fun r u t H1 locs1 ht hvm hw hB hz1 hk1 hS1 => ?_)
  rw [ht] at hB
  subst hw
  exact kk H1 locs1 hB ⟨hz1, fun q _ h => hk1 q h (Nat.not_le.mpr h)⟩ hS1
theorem sc_cSNr {Pf : Heap → Nat → Prop} (F : CallFix p m c cc nL s args Ts own) (hM : Met l y ws rm (va_Pc As (sPz D cI cZ cY Pic H.size)) (sQr Pf (aN H.size)) mc ms (aN H.size)) (cw : CallB R s args own index y bytes maxL ret ws rm mc ms n ∧ (Cond.static y).before args s = true) (hP : Pic H) (hK : kS D cI cZ cY s) (hS : va_S A H0 H locs) (hA : ∀ q, H0.size ≤ q → A q)
    (hn : As.length = n) (hsz : ls.size = nL) (hst : st0 = As.reverse ++ rest) (hW : 2 * (F0 m pc ls st0).monitorRoom + (rest.map fun v => v.category).sum ≤ 8) (hdg : decode cc pc = .ok (.invokestatic index, 3)) (hf : cells + mc ≤ R.cells ∧ slots + ms ≤ R.slots)
    (kk : ∀ (q : Nat) (H1 : Heap) (locs1 : List Loc), Pf H1 q → hy 0 H H1 → va_S A H0 H1 locs1 → W p l e R s m args below meth c H1 locs1 (cells + mc) (slots + ms) Q (F0 m (pc + 3) ls (.ref q :: rest))) : W p l e R s m args below meth c H locs cells slots Q (F0 m pc ls st0) := by
  refine va_callr (va_runS F hM cw ⟨sBlindz, fun U hU hW => ⟨rfl, by rw [hU], by rw [hU]; exact hP, hK.moved hW.alike⟩⟩ rfl hn hsz hst hW hdg hf) hS (fun q _ h => hA q (Nat.le_trans hS.1 h)) (fun q h => hA q (Nat.le_trans hS.1 h)) (fun u ra t H1 locs1 ht hvm hw hB hz1 hk1 hS1 => ?_)
  rw [ht] at hB
  exact kk ra H1 locs1 hB ⟨hz1, fun q _ h => hk1 q h (Nat.not_le.mpr h)⟩ hS1
theorem sc_cSNv {Pf : Heap → Prop} (F : CallFix p m c cc nL s args Ts own) (hM : Met l y ws rm (va_Pc As (sPz D cI cZ cY Pic H.size)) (sQv Pf (aN H.size)) mc ms (aN H.size)) (cw : CallB R s args own index y bytes maxL ret ws rm mc ms n ∧ (Cond.static y).before args s = true) (hP : Pic H) (hK : kS D cI cZ cY s) (hS : va_S A H0 H locs) (hA : ∀ q, H0.size ≤ q → A q)
    (hn : As.length = n) (hsz : ls.size = nL) (hst : st0 = As.reverse ++ rest) (hW : 2 * (F0 m pc ls st0).monitorRoom + (rest.map fun v => v.category).sum ≤ 8) (hdg : decode cc pc = .ok (.invokestatic index, 3)) (hf : cells + mc ≤ R.cells ∧ slots + ms ≤ R.slots)
    (kk : ∀ (H1 : Heap) (locs1 : List Loc), Pf H1 → hy 0 H H1 → va_S A H0 H1 locs1 → W p l e R s m args below meth c H1 locs1 (cells + mc) (slots + ms) Q (F0 m (pc + 3) ls rest)) : W p l e R s m args below meth c H locs cells slots Q (F0 m pc ls st0) := by
  refine va_callv (va_runS F hM cw ⟨sBlindz, fun U hU hW => ⟨rfl, by rw [hU], by rw [hU]; exact hP, hK.moved hW.alike⟩⟩ rfl hn hsz hst hW hdg hf) hS (fun q _ h => hA q (Nat.le_trans hS.1 h)) (fun q h => hA q (Nat.le_trans hS.1 h)) (fun u t H1 locs1 ht hvm hw hB hz1 hk1 hS1 => ?_)
  rw [ht] at hB
  exact kk H1 locs1 hB ⟨hz1, fun q _ h => hk1 q h (Nat.not_le.mpr h)⟩ hS1
theorem sc_cSHi {v : Int32} {hh : Nat} {Pf : Heap → Prop} (F : CallFix p m c cc nL s args Ts own) (hM : Met l y ws rm (va_Pc As (sPz D cI cZ cY Pic H.size)) (sQi v Pf (aH hh H.size)) mc ms (aH hh H.size)) (cw : CallB R s args own index y bytes maxL ret ws rm mc ms n ∧ (Cond.static y).before args s = true) (hP : Pic H) (hK : kS D cI cZ cY s) (hS : va_S A H0 H locs) (hA : ∀ q, H0.size ≤ q → A q) (hAh : A hh)
    (hn : As.length = n) (hsz : ls.size = nL) (hst : st0 = As.reverse ++ rest) (hW : 2 * (F0 m pc ls st0).monitorRoom + (rest.map fun v => v.category).sum ≤ 8) (hdg : decode cc pc = .ok (.invokestatic index, 3)) (hf : cells + mc ≤ R.cells ∧ slots + ms ≤ R.slots)
    (kk : ∀ (H1 : Heap) (locs1 : List Loc), Pf H1 → hz hh H H1 → va_S A H0 H1 locs1 → W p l e R s m args below meth c H1 locs1 (cells + mc) (slots + ms) Q (F0 m (pc + 3) ls (.int v :: rest))) : W p l e R s m args below meth c H locs cells slots Q (F0 m pc ls st0) := by
  refine va_calli (va_runS F hM cw ⟨sBlindz, fun U hU hW => ⟨rfl, by rw [hU], by rw [hU]; exact hP, hK.moved hW.alike⟩⟩ rfl hn hsz hst hW hdg hf) hS (fun q _ h => h.elim (fun z => by rw [z]; exact hAh) (fun z => hA q (Nat.le_trans hS.1 z))) (fun q h => h.elim (fun z => by rw [z]; exact hAh) (fun z => hA q (Nat.le_trans hS.1 z))) (fun r u t H1 locs1 ht hvm hw hB hz1 hk1 hS1 => ?_)
  rw [ht] at hB
  subst hw
  exact kk H1 locs1 hB ⟨hz1, fun q h0 h => hk1 q h (fun z => z.elim h0 (Nat.not_le.mpr h))⟩ hS1
theorem sc_cSHr {hh : Nat} {Pf : Heap → Nat → Prop} (F : CallFix p m c cc nL s args Ts own) (hM : Met l y ws rm (va_Pc As (sPz D cI cZ cY Pic H.size)) (sQr Pf (aH hh H.size)) mc ms (aH hh H.size)) (cw : CallB R s args own index y bytes maxL ret ws rm mc ms n ∧ (Cond.static y).before args s = true) (hP : Pic H) (hK : kS D cI cZ cY s) (hS : va_S A H0 H locs) (hA : ∀ q, H0.size ≤ q → A q) (hAh : A hh)
    (hn : As.length = n) (hsz : ls.size = nL) (hst : st0 = As.reverse ++ rest) (hW : 2 * (F0 m pc ls st0).monitorRoom + (rest.map fun v => v.category).sum ≤ 8) (hdg : decode cc pc = .ok (.invokestatic index, 3)) (hf : cells + mc ≤ R.cells ∧ slots + ms ≤ R.slots)
    (kk : ∀ (q : Nat) (H1 : Heap) (locs1 : List Loc), Pf H1 q → hz hh H H1 → va_S A H0 H1 locs1 → W p l e R s m args below meth c H1 locs1 (cells + mc) (slots + ms) Q (F0 m (pc + 3) ls (.ref q :: rest))) : W p l e R s m args below meth c H locs cells slots Q (F0 m pc ls st0) := by
  refine va_callr (va_runS F hM cw ⟨sBlindz, fun U hU hW => ⟨rfl, by rw [hU], by rw [hU]; exact hP, hK.moved hW.alike⟩⟩ rfl hn hsz hst hW hdg hf) hS (fun q _ h => h.elim (fun z => by rw [z]; exact hAh) (fun z => hA q (Nat.le_trans hS.1 z))) (fun q h => h.elim (fun z => by rw [z]; exact hAh) (fun z => hA q (Nat.le_trans hS.1 z))) (fun u ra t H1 locs1 ht hvm hw hB hz1 hk1 hS1 => ?_)
  rw [ht] at hB
  exact kk ra H1 locs1 hB ⟨hz1, fun q h0 h => hk1 q h (fun z => z.elim h0 (Nat.not_le.mpr h))⟩ hS1
theorem sc_cSHv {hh : Nat} {Pf : Heap → Prop} (F : CallFix p m c cc nL s args Ts own) (hM : Met l y ws rm (va_Pc As (sPz D cI cZ cY Pic H.size)) (sQv Pf (aH hh H.size)) mc ms (aH hh H.size)) (cw : CallB R s args own index y bytes maxL ret ws rm mc ms n ∧ (Cond.static y).before args s = true) (hP : Pic H) (hK : kS D cI cZ cY s) (hS : va_S A H0 H locs) (hA : ∀ q, H0.size ≤ q → A q) (hAh : A hh)
    (hn : As.length = n) (hsz : ls.size = nL) (hst : st0 = As.reverse ++ rest) (hW : 2 * (F0 m pc ls st0).monitorRoom + (rest.map fun v => v.category).sum ≤ 8) (hdg : decode cc pc = .ok (.invokestatic index, 3)) (hf : cells + mc ≤ R.cells ∧ slots + ms ≤ R.slots)
    (kk : ∀ (H1 : Heap) (locs1 : List Loc), Pf H1 → hz hh H H1 → va_S A H0 H1 locs1 → W p l e R s m args below meth c H1 locs1 (cells + mc) (slots + ms) Q (F0 m (pc + 3) ls rest)) : W p l e R s m args below meth c H locs cells slots Q (F0 m pc ls st0) := by
  refine va_callv (va_runS F hM cw ⟨sBlindz, fun U hU hW => ⟨rfl, by rw [hU], by rw [hU]; exact hP, hK.moved hW.alike⟩⟩ rfl hn hsz hst hW hdg hf) hS (fun q _ h => h.elim (fun z => by rw [z]; exact hAh) (fun z => hA q (Nat.le_trans hS.1 z))) (fun q h => h.elim (fun z => by rw [z]; exact hAh) (fun z => hA q (Nat.le_trans hS.1 z))) (fun u t H1 locs1 ht hvm hw hB hz1 hk1 hS1 => ?_)
  rw [ht] at hB
  exact kk H1 locs1 hB ⟨hz1, fun q h0 h => hk1 q h (fun z => z.elim h0 (Nat.not_le.mpr h))⟩ hS1
end SC
