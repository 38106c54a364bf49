/-! the law, from its entry, by program (gens.py) -/
theorem lw_arr {args : Array Value} {s : State} {ty : FieldType} (h : (Cond.arrayClass ty).before args s = true) : ∃ cA, ArrOfT s cA ty ∧ s.vm.findClass ("[" ++ ty.toString) = some cA := by
  obtain ⟨cA, k, comp, h1, h2, h3⟩ := Cond.arrayClass_spec h
  exact ⟨cA, fun n z => ⟨(fun k h => by cases h), k, h2, comp, h3⟩, h1⟩
theorem lw_str {args : Array Value} {s : State} {k : Nat} {tx : String} (h1 : (Cond.stringRef RX1 k tx).before args s = true) (h2 : (Cond.exactly (.string RX1 k) "java/lang/String").before args s = true) : ∃ a, vk_R RX1 k tx a s := by
  obtain ⟨a, -, -, -, q1, -⟩ := Cond.exactly_spec h2
  exact ⟨a, vk_R.of h1 q1⟩
theorem lw_given {args : Array Value} {s : State} {A : Nat → Prop} (hts : ∀ w ∈ lw_tbl, w.before args s = true) (hgv : (Jvm.Cond.and given_1 narrow_1).before args s = true) (hA : ∀ a : Nat, a < s.heap.size → ¬ A a) : xE A s s.heap := by
  have hg := flat_of_before _ hgv
  refine ⟨⟨?_, ?_, ?_, ?_, ?_, ?_⟩, ?_, ?_, ?_⟩
  · exact va_Nw.of rfl (hts (.castable xIAE xIAE) (by decide +kernel))
  · exact va_Nw.of rfl (hts (.castable xISE xISE) (by decide +kernel))
  · exact va_Nw.of rfl (hts (.castable xIOB xIOB) (by decide +kernel))
  · exact va_Nw.of rfl (hts (.declares (Bundle.initS "java/lang/RuntimeException")) (by decide +kernel))
  · exact va_Nw.of rfl (hts (.declares (Bundle.initS "java/lang/Exception")) (by decide +kernel))
  · exact va_Nw.of rfl (hts (.declares (Bundle.initS Bundle.tN)) (by decide +kernel))
  · obtain ⟨a1, h1⟩ := lw_str (hts (.stringRef RX1 177 "x and y are 0 to 30") (by decide +kernel)) (hg (.exactly (.string RX1 177) "java/lang/String") (by decide +kernel))
    obtain ⟨a2, h2⟩ := lw_str (hts (.stringRef RX1 180 "a height is 0 to 99") (by decide +kernel)) (hg (.exactly (.string RX1 180) "java/lang/String") (by decide +kernel))
    obtain ⟨a3, h3⟩ := lw_str (hts (.stringRef RX1 40 "there are 16 cairns") (by decide +kernel)) (hg (.exactly (.string RX1 40) "java/lang/String") (by decide +kernel))
    obtain ⟨a4, h4⟩ := lw_str (hts (.stringRef RX1 185 "a cairn is there") (by decide +kernel)) (hg (.exactly (.string RX1 185) "java/lang/String") (by decide +kernel))
    obtain ⟨a5, h5⟩ := lw_str (hts (.stringRef RX1 191 "there is no such cairn") (by decide +kernel)) (hg (.exactly (.string RX1 191) "java/lang/String") (by decide +kernel))
    obtain ⟨a6, h6⟩ := lw_str (hts (.stringRef RX1 193 "there is no edge between them") (by decide +kernel)) (hg (.exactly (.string RX1 193) "java/lang/String") (by decide +kernel))
    obtain ⟨a7, h7⟩ := lw_str (hts (.stringRef RX1 76 "the edge cannot be flipped") (by decide +kernel)) (hg (.exactly (.string RX1 76) "java/lang/String") (by decide +kernel))
    obtain ⟨a8, h8⟩ := lw_str (hts (.stringRef RX1 195 "nothing is told under this number") (by decide +kernel)) (hg (.exactly (.string RX1 195) "java/lang/String") (by decide +kernel))
    obtain ⟨a9, h9⟩ := lw_str (hts (.stringRef RX1 107 "there is no such triangle") (by decide +kernel)) (hg (.exactly (.string RX1 107) "java/lang/String") (by decide +kernel))
    refine ⟨fun k => if k = 177 then a1 else if k = 180 then a2 else if k = 40 then a3 else if k = 185 then a4 else if k = 191 then a5 else if k = 193 then a6 else if k = 76 then a7 else if k = 195 then a8 else a9, fun q hq => ?_⟩
    unfold xTx at hq
    simp only [List.mem_cons, List.not_mem_nil, or_false] at hq
    rcases hq with rfl | rfl | rfl | rfl | rfl | rfl | rfl | rfl | rfl
    · exact h1
    · exact h2
    · exact h3
    · exact h4
    · exact h5
    · exact h6
    · exact h7
    · exact h8
    · exact h9
  · exact vx_Zqof (hts (.laysStatic Bundle.tN "UNASSIGNED_STACK" Bundle.steD) (by decide +kernel)) (hts (.initialized Bundle.tN) (by decide +kernel)) (hg (.isRef (.static Bundle.tN "UNASSIGNED_STACK" Bundle.steD)) (by decide +kernel)) hA
  · exact vx_Zqof (hts (.laysStatic Bundle.tN "SUPPRESSED_SENTINEL" Bundle.listD) (by decide +kernel)) (hts (.initialized Bundle.tN) (by decide +kernel)) (hg (.isRef (.static Bundle.tN "SUPPRESSED_SENTINEL" Bundle.listD)) (by decide +kernel)) hA
set_option maxHeartbeats 4000000 in
set_option maxRecDepth 100000 in
/-- the law, from its entry -/
theorem whole_start9 (R R1 : lX → lS → Prop) (hR0 : R1 l_u0 l_v0) (hQ1 : ∀ u v x, R1 u v → q_act R1 11800 27500 u v x) (hR12 : ∀ u v, R1 u v → R u v) (hQ2 : ∀ u v x, R u v → q_act R 20444 47664 u v x) (hB0 : ∀ u v x, R u v → q_b0 R u v x) (hB1 : ∀ u v x, R u v → q_b1 R 20444 47664 u v x) (hB2 : ∀ u v x, R u v → q_b2 R u v x) (hSm : ∀ u v, R u v → q_same u v) {p : Program} {e : Env} {s : State} {m : MethodId} {below : List Frame} {meth : Method} {c : Code} (l : Launch) (hflags : l.flags = flags0) {b L : Nat} {xs : Nat → Int32} (hL : L ≤ 260) (C0 : lw_At p s m meth c b L xs) : W p l e room_1 s m #[Value.ref b] below meth c s.heap [] 0 0 (lw_Z below #[Value.ref b] s) (entryFrame m ([Value.ref b] : List Value).toArray 18) := by
  obtain ⟨hx, hb, hr, hml, hown, hts0, hX, hbl, hlocks, hgv⟩ := id C0
  have hts : ∀ w ∈ wsL_law, w.before #[Value.ref b] s = true := fun w h => hts0 w (wsL_law_in w h)
  have hl0 : l.stackTraces = false := by
    unfold Launch.stackTraces
    rw [hflags]
    decide +kernel
  have hE := lw_given (A := fun q : Nat => s.heap.size ≤ q) hts0 hgv (fun a h => Nat.not_le.mpr h)
  obtain ⟨c0, iS0, hKn0⟩ := u_known (C := RX0) (T := TX0) (N := 7) (n := 7) hts inlX0 (hts (.instantiable RX0 7) (by decide +kernel))
  obtain ⟨c1, iS1, hKn1⟩ := u_known (C := RX1) (T := TX1) (N := 4) (n := 4) hts inlX1 (hts (.instantiable RX1 4) (by decide +kernel))
  obtain ⟨c2, iS2, hKn2⟩ := u_known (C := RX2) (T := TX2) (N := 4) (n := 4) hts inlX2 (hts (.instantiable RX2 4) (by decide +kernel))
  obtain ⟨cI, kI1, kI2⟩ := lw_arr (hts0 (.arrayClass .int) (by decide +kernel))
  have hAO := hts0 (.arrayOver (.array .int)) (by decide +kernel)
  obtain ⟨comp, cY, kY, -, -, y3, y4, y5⟩ := arrayOverA_spec hAO
  obtain ⟨dC, dI, hKc⟩ : ∃ (dC : Nat → ClassId) (dI : Nat → Nat → Nat), ∀ (k : Nat) (q : vw_C), vwCl[k]? = some q → u_Kn s q.1 q.2.1 q.2.2 (dC k) (dI k) := by
    refine ⟨fun k => if k = 0 then c0 else if k = 1 then c1 else c2, fun k => if k = 0 then iS0 else if k = 1 then iS1 else iS2, ?_⟩
    intro k q hq
    match k, hq with
    | 0, hq => cases hq; exact hKn0
    | 1, hq => cases hq; exact hKn1
    | 2, hq => cases hq; exact hKn2
    | k + 3, hq => simp [vwCl] at hq
  have hK : va_K (dC, dI) vwCl (gTY cI 0 cY) s := by
    refine ⟨hKc, fun k q h => ?_⟩
    match k, h with
    | 0, h => cases h; exact ⟨kI1, kI2⟩
    | 1, h => cases h; exact ⟨fun n z => ⟨(fun k h => by cases h), kY, y3, comp, y4⟩, y5⟩
    | k + 2, h => simp [gTY] at h
  have hV : sV s := by
    have h := hAO
    unfold sV
    simpa [Cond.before, Cond.holds, Cond.value] using h
  have hN : va_Nw l_nest s := va_Nw.of rfl (hts0 l_nest (by decide +kernel))
  exact lw_start9 dC dI cI 0 cY C0 hl0 hE ⟨hK, hV⟩ hN (by omega) R R1 hR0 hQ1 hR12 hQ2 hB0 hB1 hB2 hSm
