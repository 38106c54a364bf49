/-! the reference: new boolean[17][17] (the library's law of multianewarray, of two dimensions) -/
theorem ri_out (c : ClassId) (h0 : Nat) : ∀ i : Nat, Jvm.Free.Multi.outerC c 17 h0 i = arrV c 17 (fun j => va_rf (if j < i then some (h0 + 1 + j) else none))
  | 0 => by
    show ({ cls := c, slots := Array.replicate 17 .null, vm := .none } : Cell) = _
    rw [arrV_new]
    congr 1
  | i + 1 => by
    show (Jvm.Free.Multi.outerC c 17 h0 i).setSlot i (.ref (h0 + 1 + i)) = _
    rw [ri_out c h0 i, arrV_store]
    congr 1
    funext j
    unfold updV
    by_cases h : j = i
    · rw [if_pos h, if_pos (by omega), h]
      rfl
    · rw [if_neg h]
      show va_rf (if j < i then some (h0 + 1 + j) else none) = va_rf (if j < i + 1 then some (h0 + 1 + j) else none)
      by_cases h2 : j < i
      · rw [if_pos h2, if_pos (by omega)]
      · rw [if_neg h2, if_neg (by omega)]
theorem ri_outer {c : ClassId} {h0 : Nat} : Jvm.Free.Multi.outerC c 17 h0 17 = vp_cell c (17, .inr (.inr (.inr (.inr (rGr (fun j => h0 + 1 + j)))))) := by
  rw [vp_cell_q]
  exact ri_out c h0 17
theorem ri_inner {c : ClassId} : Jvm.Free.Multi.innerC c 17 (.int 0) = vp_cell c (17, .inl (fun _ => 0)) := by
  rw [vp_cell_i]
  exact arrV_new c 17 (.int 0)
section RI
variable {p : Program} {l : Launch} {e : Env} {R : Room} {s : State} {m : MethodId} {args : Array Value} {below : List Frame} {meth : Method} {c : Code} {H : Heap} {locs : List Loc} {cells slots : Nat} {Q : State → Prop}
variable {cc : ByteArray} {pc : Nat} {ls : Array Slot} {rest : List Value} {D : va_G} {tys : List (ClassId × FieldType)} {A : Nat → Prop} {H0 : Heap}
theorem ri_mna (hexec : p.tables.exec = Jvm.exec) (hb : c.code = cc) {own : String} {index : Nat} (hown : s.vm.findClass own = some m.cls) (hclink : (Cond.classLink own index "[[Z").before args s = true) (hk : kC s) (harr : (Cond.arrayClass .boolean).before args s = true) {cI cZ cY : ClassId} (hK : va_K D vwCl (gTY cI cZ cY) s) {ws0 : va_W} (hP : va_P D vwCl ws0 H) (hD : va_D A ws0) (hS : va_S A H0 H locs) (hA : ∀ q, H0.size ≤ q → A q)
    {n k : Int32} (hn : ¬ n < 0) (hk9 : ¬ k < 0) (hN : n.toNatClampNeg = 17) (hM : k.toNatClampNeg = 17) (hcells : cells + 18 ≤ R.cells) (hslots : slots + 306 ≤ R.slots) (hdg : decode cc pc = .ok (.multianewarray index 2, 4))
    (kk : ∀ (q : Nat) (rw : Nat → Nat) (H1 : Heap), va_P D vwCl (ws0 ++ kX cZ cY q rw (fun _ _ => 0) 17) H1 → va_D A (ws0 ++ kX cZ cY q rw (fun _ _ => 0) 17) → va_S A H0 H1 locs → W p l e R s m args below meth c H1 locs (cells + 18) (slots + 306) Q (F0 m (pc + 4) ls (.ref q :: rest))) : W p l e R s m args below meth c H locs cells slots Q (F0 m pc ls (.int k :: .int n :: rest)) := by
  have eZ : (FieldType.array .boolean).toString = "[Z" := by decide +kernel
  have eY : "[" ++ (FieldType.array .boolean).toString = "[[Z" := by decide +kernel
  intro T hT X
  obtain ⟨vm₁, cA, comp, -, fA, fC, -, -, X', step⟩ := X.multianewarray2F (ty := .boolean) hexec hown (by rw [eY]; exact hclink) (show (Cond.arrayOver (.array .boolean)).before args s = true from hk.2.2) harr (g := F0 m pc ls (.int k :: .int n :: rest)) rfl (by rw [hb]; exact hdg) rfl hn hk9 (by rw [hN]; decide) (by rw [hM]; decide) (by rw [hM]; decide) rfl rfl (by rw [hN]; exact hcells) (by rw [hN, hM]; exact hslots)
  have g1 : s.vm.findClass ("[" ++ (FieldType.array .boolean).toString) = some cY := (hK.2 2 (cY, .array .boolean) rfl).2
  cases fA.symm.trans g1
  have g2 : s.vm.findClass "[Z" = some cZ := va_nm_boolean (hK.2 1 (cZ, .boolean) rfl).2
  rw [eZ] at fC
  cases fC.symm.trans g2
  rw [hN, hM] at X' step
  rw [show defaultValue FieldType.boolean = Value.int 0 from rfl] at X' step
  have hTh : (T.setVm vm₁).heap = H := hT
  obtain ⟨f1, f2, -, -⟩ := Jvm.Free.Multi.fill_facts (T.setVm vm₁) cY cZ 17 17 (.int 0) 17
  have hold : ∀ x : Nat, x < H.size → (Jvm.Free.Multi.fill (T.setVm vm₁) cY cZ 17 17 (.int 0) 17).heap[x]? = H[x]? := fun x hx => by
    have := Jvm.Free.Multi.fill_old (T.setVm vm₁) cY cZ 17 17 (.int 0) (a := x) (by rw [hTh]; exact hx) 17
    rw [hTh] at this
    exact this
  have hrow : ∀ j : Nat, j < 17 → (Jvm.Free.Multi.fill (T.setVm vm₁) cY cZ 17 17 (.int 0) 17).heap[H.size + 1 + j]? = some (vp_cell cZ (17, .inl (fun _ => 0))) := fun j hj => by
    have := Jvm.Free.Multi.fill_inner (T.setVm vm₁) cY cZ 17 17 (.int 0) 17 j hj
    rw [hTh, ri_inner] at this
    exact this
  rw [hTh] at f1 f2
  rw [ri_outer] at f2
  generalize Jvm.Free.Multi.fill (T.setVm vm₁) cY cZ 17 17 (.int 0) 17 = F at X' step f1 f2 hold hrow
  have hnew : ∀ (k : Nat) (q : Nat × va_E), (kX cZ cY H.size (fun j => H.size + 1 + j) (fun _ _ => 0) 17)[k]? = some q → q.1 = H.size + k := by
    intro k q hq
    cases k with
    | zero => cases hq; rfl
    | succ k =>
      have hq : (kRows cZ (fun j => H.size + 1 + j) (fun _ _ => 0) 17)[k]? = some q := hq
      have hl : k < 17 := (List.getElem?_eq_some_iff.mp hq).1
      rw [List.getElem?_map, List.getElem?_range hl] at hq
      cases hq
      show H.size + 1 + k = H.size + (k + 1)
      omega
  have hP1 : va_P D vwCl (kX cZ cY H.size (fun j => H.size + 1 + j) (fun _ _ => 0) 17) F.heap := by
    intro k q hq
    cases k with
    | zero => cases hq; exact f2
    | succ k =>
      have hq : (kRows cZ (fun j => H.size + 1 + j) (fun _ _ => 0) 17)[k]? = some q := hq
      have hl : k < 17 := (List.getElem?_eq_some_iff.mp hq).1
      rw [List.getElem?_map, List.getElem?_range hl] at hq
      cases hq
      exact hrow k hl
  have hD1 : va_D A (kX cZ cY H.size (fun j => H.size + 1 + j) (fun _ _ => 0) 17) := by
    refine ⟨fun i j x y hx hy hxy => ?_, fun k q hq => ?_⟩
    · have e1 := hnew i x hx
      have e2 := hnew j y hy
      omega
    · have e1 := hnew k q hq
      exact hA _ (by have := hS.1; omega)
  obtain ⟨t, b1, b2⟩ := kk H.size (fun j => H.size + 1 + j) F.heap ((hP.kept (fun k x hx => hold x.1 ((hP k x hx).lt))).app hP1) (hD.app hD1 (fun i j x y hx hy => by
    have e1 := (hP i x hx).lt
    have e2 := hnew j y hy
    omega)) ⟨Nat.le_trans hS.1 (by omega), fun x h1 h2 => (hold x (Nat.lt_of_lt_of_le h1 hS.1)).trans (hS.2.1 x h1 h2), hS.2.2⟩ F rfl X'
  refine ⟨t, step t ?_, b2⟩
  have hT2 : T.heap.size = H.size := by rw [hT]
  rw [hT2]
  exact b1
end RI
