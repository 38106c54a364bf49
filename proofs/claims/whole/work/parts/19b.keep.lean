/-! what is kept, by program (gen_keep.py) -/
theorem hd_X2_keptTriangles : yX2_keptTriangles.cls = RX2 ∧ yX2_keptTriangles.cls ≠ "java/lang/invoke/MethodHandle" ∧ yX2_keptTriangles.cls ≠ "java/lang/invoke/VarHandle" ∧ (parseMethodDescriptor yX2_keptTriangles.desc).map (fun d => d.parameters.length) = some 0 := by decide +kernel
theorem fl_X2_keptTriangles_23 : (Cond.fieldLink RX2 23 "MoorTrianglesModel" "told" "[I") ∈ wsX2_keptTriangles := by decide +kernel
theorem in_X2_keptTriangles_X2 : ∀ w ∈ wsX20, w ∈ wsX2_keptTriangles := by decide +kernel
theorem wc1_X2_keptTriangles : (Cond.methodLink RX2 169 ⟨"[I", "clone", "()Ljava/lang/Object;"⟩) ∈ wsX2_keptTriangles := by decide +kernel
theorem wc2_X2_keptTriangles : (Cond.sameMethod "[I" "java/lang/Object" "clone" "()Ljava/lang/Object;") ∈ wsX2_keptTriangles := by decide +kernel
theorem wc3_X2_keptTriangles : (Cond.native ⟨"java/lang/Object", "clone", "()Ljava/lang/Object;"⟩) ∈ wsX2_keptTriangles := by decide +kernel
theorem wc4_X2_keptTriangles : (Cond.instanceMethod ⟨"java/lang/Object", "clone", "()Ljava/lang/Object;"⟩) ∈ wsX2_keptTriangles := by decide +kernel
theorem wc5_X2_keptTriangles : (Cond.selects "[I" ⟨"[I", "clone", "()Ljava/lang/Object;"⟩ ⟨"java/lang/Object", "clone", "()Ljava/lang/Object;"⟩) ∈ wsX2_keptTriangles := by decide +kernel
theorem wc6_X2_keptTriangles : (Cond.classLink RX2 170 "[I") ∈ wsX2_keptTriangles := by decide +kernel
set_option maxHeartbeats 4000000 in
set_option maxRecDepth 100000 in
theorem c_X2_keptTriangles (l : Launch) (dC : Nat → ClassId) (dI : Nat → Nat → Nat) (cI cZ cY : ClassId) (h qx qy qh qt qs : Nat) (rw : Nat → Nat) (th : Int32) (n : Nat) (xs ys hs : Nat → Int32) (t : Nat) (tb : Nat → Int32) (sg : Nat → Nat → Int32) (fl : Int32) (sz : Nat) : Met l yX2_keptTriangles wsX2_keptTriangles ({ frames := 1, cells := 1, slots := 36, locals := 14 }) (va_Pc [.ref h] (fun U => wrP (dC, dI) (gTY cI cZ cY) (wR cI cZ cY h qx qy qh qt qs rw th n xs ys hs t tb sg fl) sz U ∧ kC U)) (wrQr (S := Unit) (dC, dI) (gTY cI cZ cY) (fun _ a => wR cI cZ cY h qx qy qh qt qs rw th n xs ys hs t tb sg fl ++ ([(a, .inl (cI, 36, .inl tb))] : va_W)) (va_A (wR cI cZ cY h qx qy qh qt qs rw th n xs ys hs t tb sg fl) sz)) 1 36 (va_A (wR cI cZ cY h qx qy qh qt qs rw th n xs ys hs t tb sg fl) sz) := by
  refine wk_start (cc := cX2_keptTriangles) (maxL := 1) (ret := (some (.array .int))) (Q0 := wrQr (S := Unit) (dC, dI) (gTY cI cZ cY) (fun _ a => wR cI cZ cY h qx qy qh qt qs rw th n xs ys hs t tb sg fl ++ ([(a, .inl (cI, 36, .inl tb))] : va_W))) RX2 (by decide) rfl rfl (Nat.le_of_ble_eq_true rfl) ?_
  intro p e s m below meth c ⟨hx, hb, hr, hml, hown, hts, hlocks, hin⟩ hk hP hK A hD hA hS ls hl
  have F : CallFix p m c cX2_keptTriangles 1 s ([.ref h] : List Value).toArray wsX2_keptTriangles RX2 := ⟨hx, hb, hml, hown, hts⟩
  have hl : lv_has ls 1 [(0, .ref h)] := hl
  refine lv_aload_n hx hb dX2_keptTriangles_0 rfl (lv_at hl 0 rfl) ?_
  refine va_get (D := (dC, dI)) (ci := 2) (v := .ref qt) (C := RX2) (T := TX2) (N := 9) hx hb hts in_X2_keptTriangles_X2 hown hK hP 0 rfl rfl 6 (by decide) (hts (.fieldLink RX2 23 "MoorTrianglesModel" "told" "[I") fl_X2_keptTriangles_23) (fun _ h9 => h9) rfl dX2_keptTriangles_1 ?_
  refine va_clone (ad := "[I") hx hb (hml.trans hl.1.symm) hown (hts _ wc1_X2_keptTriangles) (hts _ wc2_X2_keptTriangles) (hts _ wc3_X2_keptTriangles) (hts _ wc4_X2_keptTriangles) (hts _ wc5_X2_keptTriangles) hk.1 hK hP hD hS hA 4 0 rfl rfl (va_nm_int (hK.2 0 _ rfl).2) fitI (Nat.le_of_ble_eq_true rfl) (Nat.le_of_ble_eq_true rfl) (Nat.le_of_ble_eq_true rfl) (Nat.le_of_ble_eq_true rfl) dX2_keptTriangles_4 (fun q9 H hK9 hP hD hS => ?_)
  refine va_castA (nm := "[I") hx hb hown (hts _ wc6_X2_keptTriangles) hP 23 wR_ex (va_nm_int (hK.2 0 _ rfl).2) dX2_keptTriangles_7 ?_
  exact W.widen (k := 1) (n := 36) (by omega) (by omega) (wr_rret (u := ()) (w2 := fun _ a => wR cI cZ cY h qx qy qh qt qs rw th n xs ys hs t tb sg fl ++ ([(a, .inl (cI, 36, .inl tb))] : va_W)) hx hb hr hlocks hP hK hD hS dX2_keptTriangles_10)
theorem hd_X2_keptStays : yX2_keptStays.cls = RX2 ∧ yX2_keptStays.cls ≠ "java/lang/invoke/MethodHandle" ∧ yX2_keptStays.cls ≠ "java/lang/invoke/VarHandle" ∧ (parseMethodDescriptor yX2_keptStays.desc).map (fun d => d.parameters.length) = some 0 := by decide +kernel
theorem wc6_X2_keptStays : (Cond.classLink RX2 174 "[Z") ∈ wsX2_keptStays := by decide +kernel
theorem fl_X2_keptStays_28 : (Cond.fieldLink RX2 28 "MoorTrianglesModel" "stays" "[[Z") ∈ wsX2_keptStays := by decide +kernel
theorem in_X2_keptStays_X2 : ∀ w ∈ wsX20, w ∈ wsX2_keptStays := by decide +kernel
theorem wc1_X2_keptStays : (Cond.methodLink RX2 176 ⟨"[Z", "clone", "()Ljava/lang/Object;"⟩) ∈ wsX2_keptStays := by decide +kernel
theorem wc2_X2_keptStays : (Cond.sameMethod "[Z" "java/lang/Object" "clone" "()Ljava/lang/Object;") ∈ wsX2_keptStays := by decide +kernel
theorem wc3_X2_keptStays : (Cond.native ⟨"java/lang/Object", "clone", "()Ljava/lang/Object;"⟩) ∈ wsX2_keptStays := by decide +kernel
theorem wc4_X2_keptStays : (Cond.instanceMethod ⟨"java/lang/Object", "clone", "()Ljava/lang/Object;"⟩) ∈ wsX2_keptStays := by decide +kernel
theorem wc5_X2_keptStays : (Cond.selects "[Z" ⟨"[Z", "clone", "()Ljava/lang/Object;"⟩ ⟨"java/lang/Object", "clone", "()Ljava/lang/Object;"⟩) ∈ wsX2_keptStays := by decide +kernel
set_option maxHeartbeats 4000000 in
set_option maxRecDepth 100000 in
theorem c_X2_keptStays (l : Launch) (dC : Nat → ClassId) (dI : Nat → Nat → Nat) (cI cZ cY : ClassId) (h qx qy qh qt qs : Nat) (rw : Nat → Nat) (th : Int32) (n : Nat) (xs ys hs : Nat → Int32) (t : Nat) (tb : Nat → Int32) (sg : Nat → Nat → Int32) (fl : Int32) (sz : Nat) (h01 : ∀ i j, i < 17 → j < 17 → sg i j = 0 ∨ sg i j = 1) : Met l yX2_keptStays wsX2_keptStays ({ frames := 1, cells := 18, slots := 306, locals := 17 }) (va_Pc [.ref h] (fun U => wrP (dC, dI) (gTY cI cZ cY) (wR cI cZ cY h qx qy qh qt qs rw th n xs ys hs t tb sg fl) sz U ∧ kC U)) (wrQr (S := Nat → Nat) (dC, dI) (gTY cI cZ cY) (fun rz a => wR cI cZ cY h qx qy qh qt qs rw th n xs ys hs t tb sg fl ++ kX cZ cY a rz sg 17) (va_A (wR cI cZ cY h qx qy qh qt qs rw th n xs ys hs t tb sg fl) sz)) 18 306 (va_A (wR cI cZ cY h qx qy qh qt qs rw th n xs ys hs t tb sg fl) sz) := by
  refine wk_start (cc := cX2_keptStays) (maxL := 3) (ret := (some (.array (.array .boolean)))) (Q0 := wrQr (S := Nat → Nat) (dC, dI) (gTY cI cZ cY) (fun rz a => wR cI cZ cY h qx qy qh qt qs rw th n xs ys hs t tb sg fl ++ kX cZ cY a rz sg 17)) RX2 (by decide) rfl rfl (Nat.le_of_ble_eq_true rfl) ?_
  intro p e s m below meth c ⟨hx, hb, hr, hml, hown, hts, hlocks, hin⟩ hk hP hK A hD hA hS ls hl
  have F : CallFix p m c cX2_keptStays 3 s ([.ref h] : List Value).toArray wsX2_keptStays RX2 := ⟨hx, hb, hml, hown, hts⟩
  have hl : lv_has ls 3 [(0, .ref h)] := hl
  refine lv_bipush (v := 17) hx hb dX2_keptStays_0 (by decide) ?_
  refine wk_newg hx hb hown (hts _ wc6_X2_keptStays) hk hK hP hD hS hA (n9 := 17) (by decide) (by decide) (Nat.le_of_ble_eq_true rfl) (Nat.le_of_ble_eq_true rfl) dX2_keptStays_2 (fun g H kA kZ k1 k2 k3 hP hD hS => ?_)
  refine lv_astore_n (lv' := [(1, .ref g), (0, .ref h)]) hx hb dX2_keptStays_5 rfl hl (by decide) rfl (fun ls hl => ?_)
  refine lv_iconst (v := 0) hx hb dX2_keptStays_6 (by decide) ?_
  refine lv_istore_n (lv' := [(2, .int 0), (1, .ref g), (0, .ref h)]) hx hb dX2_keptStays_7 rfl hl (by decide) rfl (fun ls hl => ?_)
  have hL : ∀ (z k : Nat) (rz : Nat → Nat), 17 - k < z → k ≤ 17 → ∀ ls : Array Slot, lv_has ls 3 [(2, .int (nI k)), (1, .ref g), (0, .ref h)] → ∀ (H : Heap) (locs : List Loc), va_P (dC, dI) vwCl (wR cI cZ cY h qx qy qh qt qs rw th n xs ys hs t tb sg fl ++ kX cZ cY g rz sg k) H → va_D A (wR cI cZ cY h qx qy qh qt qs rw th n xs ys hs t tb sg fl ++ kX cZ cY g rz sg k) → va_S A s.heap H locs → W p l e ({ frames := 1, cells := 18, slots := 306, locals := 17 } : Room) s m ([.ref h] : List Value).toArray below meth c H locs (k + 1) (17 * k + 17) (MQ below (wrQr (S := Nat → Nat) (dC, dI) (gTY cI cZ cY) (fun rz a => wR cI cZ cY h qx qy qh qt qs rw th n xs ys hs t tb sg fl ++ kX cZ cY a rz sg 17) A) ([.ref h] : List Value).toArray s 18 306 A) (F0 m 8 ls []) := by
    intro z
    induction z with
    | zero => intro k rz hk9; exact absurd hk9 (Nat.not_lt_zero _)
    | succ z ih =>
      intro k rz hk9 hk17 ls hl H locs hP hD hS
      refine lv_iload_n hx hb dX2_keptStays_8 rfl (lv_at hl 0 rfl) ?_
      refine lv_bipush (v := 16) hx hb dX2_keptStays_9 (by decide) ?_
      refine lv_icmp_gt (tgt := 35) hx hb dX2_keptStays_11 (by decide) (fun c_1 => ?_) (fun c_1 => ?_)
      · have hkk : k = 17 := by
          have h1 : 16 < k := nI_lt_lt (by omega) (by omega) (show nI 16 < nI k from c_1)
          omega
        subst hkk
        refine lv_aload_n hx hb dX2_keptStays_35 rfl (lv_at hl 1 rfl) ?_
        exact wr_rret (u := rz) (w2 := fun rz a => wR cI cZ cY h qx qy qh qt qs rw th n xs ys hs t tb sg fl ++ kX cZ cY a rz sg 17) hx hb hr hlocks hP hK hD hS dX2_keptStays_36
      · have hk16 : k < 17 := by
          rcases Nat.lt_or_ge k 17 with q | q
          · exact q
          · exact absurd (nI_lt (a := 16) (b := k) (by omega) (by omega)) c_1
        refine lv_aload_n hx hb dX2_keptStays_14 rfl (lv_at hl 1 rfl) ?_
        refine lv_iload_n hx hb dX2_keptStays_15 rfl (lv_at hl 0 rfl) ?_
        refine lv_aload_n hx hb dX2_keptStays_16 rfl (lv_at hl 2 rfl) ?_
        refine va_get (D := (dC, dI)) (ci := 2) (v := .ref qs) (C := RX2) (T := TX2) (N := 9) hx hb hts in_X2_keptStays_X2 hown hK hP 0 rfl rfl 7 (by decide) (hts (.fieldLink RX2 28 "MoorTrianglesModel" "stays" "[[Z") fl_X2_keptStays_28) (fun _ h9 => h9) rfl dX2_keptStays_17 ?_
        refine lv_iload_n hx hb dX2_keptStays_20 rfl (lv_at hl 0 rfl) ?_
        refine rg_aald (D := (dC, dI)) hx hb hK hP 5 2 rfl rfl (vp_in_nI hk16 (by decide)) dX2_keptStays_21 ?_
        rw [nI_clamp (by omega)]
        refine va_clone (ad := "[Z") hx hb (hml.trans hl.1.symm) hown (hts _ wc1_X2_keptStays) (hts _ wc2_X2_keptStays) (hts _ wc3_X2_keptStays) (hts _ wc4_X2_keptStays) (hts _ wc5_X2_keptStays) hk.2.1 hK hP hD hS hA (6 + k) 1 (wR_rowE hk16) rfl (va_nm_boolean (hK.2 1 _ rfl).2) (fit01 (fun j hj => h01 k j hk16 hj)) (Nat.le_of_ble_eq_true rfl) (Nat.le_of_ble_eq_true rfl) (by show k + 1 + 1 ≤ 18; omega) (by show 17 * k + 17 + 17 ≤ 306; omega) dX2_keptStays_22 (fun q9 H hK9 hP hD hS => ?_)
        refine va_castA (nm := "[Z") hx hb hown (hts _ wc6_X2_keptStays) hP (wR cI cZ cY h qx qy qh qt qs rw th n xs ys hs t tb sg fl ++ kX cZ cY g rz sg k).length (by rw [List.getElem?_append_right (Nat.le_refl _), Nat.sub_self]; rfl) (va_nm_boolean (hK.2 1 _ rfl).2) dX2_keptStays_25 ?_
        refine wk_aast hx hb hP hD hS k1 k2 k3 (wR cI cZ cY h qx qy qh qt qs rw th n xs ys hs t tb sg fl).length (wR cI cZ cY h qx qy qh qt qs rw th n xs ys hs t tb sg fl ++ kX cZ cY g rz sg k).length (f := kGr rz k) (by rw [List.append_assoc, List.getElem?_append_right (Nat.le_refl _), Nat.sub_self]; rfl) (by rw [List.getElem?_append_right (Nat.le_refl _), Nat.sub_self]; rfl) (vp_in_nI hk16 (by decide)) dX2_keptStays_28 (fun H locs hP hD hS => ?_)
        rw [nI_clamp (by omega), kX_s] at hP hD
        refine lv_iinc (v := nI (k + 1)) (lv' := [(2, .int (nI (k + 1))), (1, .ref g), (0, .ref h)]) hx hb dX2_keptStays_29 hl (k := 0) rfl (nI_1 _) (by decide) rfl (fun ls hl => ?_)
        refine lv_goto (tgt := 8) hx hb dX2_keptStays_32 (by decide) ?_
        exact ih (k + 1) _ (by omega) (by omega) ls hl H locs hP hD hS
  exact hL 18 0 (fun _ => 0) (by decide) (by decide) ls hl H _ hP hD hS
theorem hd_X2_bringBack : yX2_bringBack.cls = RX2 ∧ yX2_bringBack.cls ≠ "java/lang/invoke/MethodHandle" ∧ yX2_bringBack.cls ≠ "java/lang/invoke/VarHandle" ∧ (parseMethodDescriptor yX2_bringBack.desc).map (fun d => d.parameters.length) = some 3 := by decide +kernel
theorem in_X2_bringBack_X2 : ∀ w ∈ wsX20, w ∈ wsX2_bringBack := by decide +kernel
theorem fl_X2_bringBack_55 : (Cond.fieldLink RX2 55 "MoorTrianglesModel" "triangles" "I") ∈ wsX2_bringBack := by decide +kernel
theorem fl_X2_bringBack_23 : (Cond.fieldLink RX2 23 "MoorTrianglesModel" "told" "[I") ∈ wsX2_bringBack := by decide +kernel
theorem ac0_X2_bringBack : (Cond.methodLink RX2 58 arraycopyName) ∈ wsX2_bringBack := by decide +kernel
theorem ac1_X2_bringBack : (Cond.native arraycopyName) ∈ wsX2_bringBack := by decide +kernel
theorem ac2_X2_bringBack : (Cond.static arraycopyName) ∈ wsX2_bringBack := by decide +kernel
theorem ac3_X2_bringBack : (Cond.initialized "java/lang/System") ∈ wsX2_bringBack := by decide +kernel
theorem fl_X2_bringBack_28 : (Cond.fieldLink RX2 28 "MoorTrianglesModel" "stays" "[[Z") ∈ wsX2_bringBack := by decide +kernel
set_option maxHeartbeats 4000000 in
set_option maxRecDepth 100000 in
theorem c_X2_bringBack (l : Launch) (dC : Nat → ClassId) (dI : Nat → Nat → Nat) (cI cZ cY : ClassId) (h qx qy qh qt qs : Nat) (rw : Nat → Nat) (th : Int32) (n : Nat) (xs ys hs : Nat → Int32) (t : Nat) (tb : Nat → Int32) (sg : Nat → Nat → Int32) (fl : Int32) (many q9 : Nat) (kt : Nat → Int32) (g : Nat) (rz : Nat → Nat) (sk : Nat → Nat → Int32) (sz : Nat) (h01 : ∀ i, i < 17 → ∀ j, j < 17 → sk i j = 0 ∨ sk i j = 1) : Met l yX2_bringBack wsX2_bringBack ({ frames := 1, cells := 0, slots := 0, locals := 80 }) (va_Pc [.ref h, .int (nI many), .ref q9, .ref g] (wrP (dC, dI) (gTY cI cZ cY) (wR cI cZ cY h qx qy qh qt qs rw th n xs ys hs t tb sg fl ++ wKp cI cZ cY q9 kt g rz sk) sz)) (wrQv (dC, dI) (gTY cI cZ cY) (wR cI cZ cY h qx qy qh qt qs rw th n xs ys hs many kt sk fl ++ wKp cI cZ cY q9 kt g rz sk) (va_A (wR cI cZ cY h qx qy qh qt qs rw th n xs ys hs t tb sg fl ++ wKp cI cZ cY q9 kt g rz sk) sz)) 0 0 (va_A (wR cI cZ cY h qx qy qh qt qs rw th n xs ys hs t tb sg fl ++ wKp cI cZ cY q9 kt g rz sk) sz) := by
  refine wr_start (cc := cX2_bringBack) (maxL := 5) (ret := none) (Q0 := wrQv (dC, dI) (gTY cI cZ cY) (wR cI cZ cY h qx qy qh qt qs rw th n xs ys hs many kt sk fl ++ wKp cI cZ cY q9 kt g rz sk)) RX2 (by decide) rfl rfl (Nat.le_of_ble_eq_true rfl) ?_
  intro p e s m below meth c ⟨hx, hb, hr, hml, hown, hts, hlocks, hin⟩ hP hK A hD hA hS ls hl
  have F : CallFix p m c cX2_bringBack 5 s ([.ref h, .int (nI many), .ref q9, .ref g] : List Value).toArray wsX2_bringBack RX2 := ⟨hx, hb, hml, hown, hts⟩
  have hl : lv_has ls 5 [(0, .ref h), (1, .int (nI many)), (2, .ref q9), (3, .ref g)] := hl
  refine lv_aload_n hx hb dX2_bringBack_0 rfl (lv_at hl 0 rfl) ?_
  refine lv_iload_n hx hb dX2_bringBack_1 rfl (lv_at hl 1 rfl) ?_
  refine va_put (D := (dC, dI)) (ci := 2) (v := .int (nI many)) (ty := .int) (C := RX2) (T := TX2) (N := 9) hx hb hts in_X2_bringBack_X2 tyX2 tyX2_ok nmX2 hown hK hP hD hS 0 rfl rfl 5 (by decide) (hts (.fieldLink RX2 55 "MoorTrianglesModel" "triangles" "I") fl_X2_bringBack_55) (fun _ h9 => h9) rfl (by decide +kernel) rfl rfl (Nat.le_of_ble_eq_true rfl) dX2_bringBack_2 (fun H locs hP hD hS => ?_)
  have hP : va_P (dC, dI) vwCl (wR cI cZ cY h qx qy qh qt qs rw th n xs ys hs many tb sg fl ++ wKp cI cZ cY q9 kt g rz sk) H := hP
  have hD : va_D A (wR cI cZ cY h qx qy qh qt qs rw th n xs ys hs many tb sg fl ++ wKp cI cZ cY q9 kt g rz sk) := hD
  refine lv_aload_n hx hb dX2_bringBack_5 rfl (lv_at hl 2 rfl) ?_
  refine lv_iconst (v := 0) hx hb dX2_bringBack_6 (by decide) ?_
  refine lv_aload_n hx hb dX2_bringBack_7 rfl (lv_at hl 0 rfl) ?_
  refine va_get (D := (dC, dI)) (ci := 2) (v := .ref qt) (C := RX2) (T := TX2) (N := 9) hx hb hts in_X2_bringBack_X2 hown hK hP 0 rfl rfl 6 (by decide) (hts (.fieldLink RX2 23 "MoorTrianglesModel" "told" "[I") fl_X2_bringBack_23) (fun _ h9 => h9) rfl dX2_bringBack_8 ?_
  refine lv_iconst (v := 0) hx hb dX2_bringBack_11 (by decide) ?_
  refine lv_aload_n hx hb dX2_bringBack_12 rfl (lv_at hl 0 rfl) ?_
  refine va_get (D := (dC, dI)) (ci := 2) (v := .ref qt) (C := RX2) (T := TX2) (N := 9) hx hb hts in_X2_bringBack_X2 hown hK hP 0 rfl rfl 6 (by decide) (hts (.fieldLink RX2 23 "MoorTrianglesModel" "told" "[I") fl_X2_bringBack_23) (fun _ h9 => h9) rfl dX2_bringBack_13 ?_
  refine va_alen (D := (dC, dI)) hx hb hK hP 4 0 rfl rfl (v := 36) (by rfl) dX2_bringBack_16 ?_
  refine va_copyi hx hb (hml.trans hl.1.symm) hown (hts _ ac0_X2_bringBack) (hts _ ac1_X2_bringBack) (hts _ ac2_X2_bringBack) (hts _ ac3_X2_bringBack) hK hP hD hS 41 4 0 0 wR_kq rfl rfl rfl rfl (by decide) (by decide) (by decide) (by decide) (by decide) (fun _ _ => rfl) (Nat.le_of_ble_eq_true rfl) (Nat.le_of_ble_eq_true rfl) dX2_bringBack_17 (fun H locs hP hD hS => ?_)
  have hP : va_P (dC, dI) vwCl (wR cI cZ cY h qx qy qh qt qs rw th n xs ys hs many (va_cpy kt tb (0 : Int32).toNatClampNeg (0 : Int32).toNatClampNeg (36 : Int32).toNatClampNeg) sg fl ++ wKp cI cZ cY q9 kt g rz sk) H := hP
  have hD : va_D A (wR cI cZ cY h qx qy qh qt qs rw th n xs ys hs many (va_cpy kt tb (0 : Int32).toNatClampNeg (0 : Int32).toNatClampNeg (36 : Int32).toNatClampNeg) sg fl ++ wKp cI cZ cY q9 kt g rz sk) := hD
  refine lv_iconst (v := 0) hx hb dX2_bringBack_20 (by decide) ?_
  refine lv_istore (lv' := [(4, .int 0), (0, .ref h), (1, .int (nI many)), (2, .ref q9), (3, .ref g)]) hx hb dX2_bringBack_21 hl (by decide) rfl (fun ls hl => ?_)
  have hL23 : ∀ (k_1 : Nat) (i : Nat), (17 - i) < k_1 → (i ≤ 17) → ∀ ls : Array Slot, lv_has ls 5 [(4, .int (nI i)), (0, .ref h), (1, .int (nI many)), (2, .ref q9), (3, .ref g)] → ∀ (H : Heap) (locs : List Loc), va_P (dC, dI) vwCl (wR cI cZ cY h qx qy qh qt qs rw th n xs ys hs many (va_cpy kt tb (0 : Int32).toNatClampNeg (0 : Int32).toNatClampNeg (36 : Int32).toNatClampNeg) (r_bb sk sg i) fl ++ wKp cI cZ cY q9 kt g rz sk) H → va_D A (wR cI cZ cY h qx qy qh qt qs rw th n xs ys hs many (va_cpy kt tb (0 : Int32).toNatClampNeg (0 : Int32).toNatClampNeg (36 : Int32).toNatClampNeg) (r_bb sk sg i) fl ++ wKp cI cZ cY q9 kt g rz sk) → va_S A s.heap H locs → W p l e ({ frames := 1, cells := 0, slots := 0, locals := 80 } : Room) s m ([.ref h, .int (nI many), .ref q9, .ref g] : List Value).toArray below meth c H locs 0 0 (MQ below (wrQv (dC, dI) (gTY cI cZ cY) (wR cI cZ cY h qx qy qh qt qs rw th n xs ys hs many kt sk fl ++ wKp cI cZ cY q9 kt g rz sk) A) ([.ref h, .int (nI many), .ref q9, .ref g] : List Value).toArray s 0 0 A) (F0 m 23 ls []) := by
    intro k_1
    induction k_1 with
    | zero => intro i hk; exact absurd hk (Nat.not_lt_zero _)
    | succ k_1 ih_2 =>
      intro i hk_23 hi_i ls hl H locs hP hD hS
      refine lv_iload hx hb dX2_bringBack_23 (lv_at hl 0 rfl) ?_
      refine lv_bipush (v := 16) hx hb dX2_bringBack_25 (by decide) ?_
      refine lv_icmp_gt (tgt := 54) hx hb dX2_bringBack_27 (by decide) (fun c_3 => ?_) (fun c_3 => ?_)
      · have heq_i : i = 17 := by
          have := nI_lt_lt (by omega) (by omega) (show nI 16 < nI i from c_3)
          omega
        have hP : va_P (dC, dI) vwCl (wR cI cZ cY h qx qy qh qt qs rw th n xs ys hs many (va_cpy kt tb (0 : Int32).toNatClampNeg (0 : Int32).toNatClampNeg (36 : Int32).toNatClampNeg) (r_bb sk sg 17) fl ++ wKp cI cZ cY q9 kt g rz sk) H := by rw [heq_i] at hP; exact hP
        have hD : va_D A (wR cI cZ cY h qx qy qh qt qs rw th n xs ys hs many (va_cpy kt tb (0 : Int32).toNatClampNeg (0 : Int32).toNatClampNeg (36 : Int32).toNatClampNeg) (r_bb sk sg 17) fl ++ wKp cI cZ cY q9 kt g rz sk) := by rw [heq_i] at hD; exact hD
        have hP := va_P.cgR (tb2 := kt) (sg2 := sk) hP (fun k hk36 => by show (if 0 ≤ k ∧ k < 0 + 36 then kt (0 + (k - 0)) else tb k) = kt k; rw [if_pos ⟨Nat.zero_le _, by omega⟩]; congr 1; omega) (fun i j h1 h2 => r_bb_lt h2 17 h1)
        have hD := va_D.cgR2 (tb2 := kt) (sg2 := sk) hD
        exact wr_vret hx hb hr hlocks hP hK hD hS dX2_bringBack_54
      · have hlt_i : i < 17 := by
          rcases Nat.lt_or_ge i 17 with q | q
          · exact q
          · exact absurd (nI_lt (a := 16) (b := i) (by omega) (by omega)) c_3
        refine lv_aload_n hx hb dX2_bringBack_30 rfl (lv_at hl 4 rfl) ?_
        refine lv_iload hx hb dX2_bringBack_31 (lv_at hl 0 rfl) ?_
        refine rg_aald (D := (dC, dI)) hx hb hK hP 23 2 wR_exc rfl (vp_in_nI hlt_i (by decide)) dX2_bringBack_33 ?_
        rw [nI_clamp (by omega)]
        refine lv_iconst (v := 0) hx hb dX2_bringBack_34 (by decide) ?_
        refine lv_aload_n hx hb dX2_bringBack_35 rfl (lv_at hl 1 rfl) ?_
        refine va_get (D := (dC, dI)) (ci := 2) (v := .ref qs) (C := RX2) (T := TX2) (N := 9) hx hb hts in_X2_bringBack_X2 hown hK hP 0 rfl rfl 7 (by decide) (hts (.fieldLink RX2 28 "MoorTrianglesModel" "stays" "[[Z") fl_X2_bringBack_28) (fun _ h9 => h9) rfl dX2_bringBack_36 ?_
        refine lv_iload hx hb dX2_bringBack_39 (lv_at hl 0 rfl) ?_
        refine rg_aald (D := (dC, dI)) hx hb hK hP 5 2 rfl rfl (vp_in_nI hlt_i (by decide)) dX2_bringBack_41 ?_
        rw [nI_clamp (by omega)]
        refine lv_iconst (v := 0) hx hb dX2_bringBack_42 (by decide) ?_
        refine lv_bipush (v := 17) hx hb dX2_bringBack_43 (by decide) ?_
        refine va_copyi hx hb (hml.trans hl.1.symm) hown (hts _ ac0_X2_bringBack) (hts _ ac1_X2_bringBack) (hts _ ac2_X2_bringBack) (hts _ ac3_X2_bringBack) hK hP hD hS (24 + i) (6 + i) 1 1 (wR_kp hlt_i) (wR_rowE hlt_i) rfl rfl rfl (by decide) (by decide) (by decide) (by decide) (by decide) (fits01 (h01 i hlt_i) rfl rfl) (Nat.le_of_ble_eq_true rfl) (Nat.le_of_ble_eq_true rfl) dX2_bringBack_45 (fun H locs hP hD hS => ?_)
        rw [wR_setE hlt_i] at hP hD
        have hP : va_P (dC, dI) vwCl (wR cI cZ cY h qx qy qh qt qs rw th n xs ys hs many (va_cpy kt tb (0 : Int32).toNatClampNeg (0 : Int32).toNatClampNeg (36 : Int32).toNatClampNeg) (r_bb sk sg (i + 1)) fl ++ wKp cI cZ cY q9 kt g rz sk) H := hP
        have hD : va_D A (wR cI cZ cY h qx qy qh qt qs rw th n xs ys hs many (va_cpy kt tb (0 : Int32).toNatClampNeg (0 : Int32).toNatClampNeg (36 : Int32).toNatClampNeg) (r_bb sk sg (i + 1)) fl ++ wKp cI cZ cY q9 kt g rz sk) := hD
        refine lv_iinc (v := nI (i + 1)) (lv' := [(4, .int (nI (i + 1))), (0, .ref h), (1, .int (nI many)), (2, .ref q9), (3, .ref g)]) hx hb dX2_bringBack_48 hl (k := 0) rfl (nI_1 _) (by decide) rfl (fun ls hl => ?_)
        refine lv_goto (tgt := 23) hx hb dX2_bringBack_51 (by decide) ?_
        have hl := lv_sub (l' := [(4, .int (nI (i + 1))), (0, .ref h), (1, .int (nI many)), (2, .ref q9), (3, .ref g)]) hl [0, 1, 2, 3, 4] rfl
        have hl : lv_has ls 5 [(4, .int (nI (i + 1))), (0, .ref h), (1, .int (nI many)), (2, .ref q9), (3, .ref g)] := by
          have e9 : [(4, .int (nI (i + 1))), (0, .ref h), (1, .int (nI many)), (2, .ref q9), (3, .ref g)] = ([(4, .int (nI (i + 1))), (0, .ref h), (1, .int (nI many)), (2, .ref q9), (3, .ref g)] : List (Nat × Value)) := by rfl
          rw [← e9]; exact hl
        exact ih_2 (i + 1) (by omega) (by omega) _ hl _ _ hP hD hS
  have hl := lv_sub (l' := [(4, .int 0), (0, .ref h), (1, .int (nI many)), (2, .ref q9), (3, .ref g)]) hl [0, 1, 2, 3, 4] rfl
  have hl : lv_has ls 5 [(4, .int (nI 0)), (0, .ref h), (1, .int (nI many)), (2, .ref q9), (3, .ref g)] := by
    have e9 : [(4, .int 0), (0, .ref h), (1, .int (nI many)), (2, .ref q9), (3, .ref g)] = ([(4, .int (nI 0)), (0, .ref h), (1, .int (nI many)), (2, .ref q9), (3, .ref g)] : List (Nat × Value)) := by rfl
    rw [← e9]; exact hl
  have e_sg : ((r_bb sk sg 0) : Nat → Nat → Int32) = sg := by rfl
  have hP : va_P (dC, dI) vwCl (wR cI cZ cY h qx qy qh qt qs rw th n xs ys hs many (va_cpy kt tb (0 : Int32).toNatClampNeg (0 : Int32).toNatClampNeg (36 : Int32).toNatClampNeg) (r_bb sk sg 0) fl ++ wKp cI cZ cY q9 kt g rz sk) H := by rw [e_sg]; exact hP
  have hD : va_D A (wR cI cZ cY h qx qy qh qt qs rw th n xs ys hs many (va_cpy kt tb (0 : Int32).toNatClampNeg (0 : Int32).toNatClampNeg (36 : Int32).toNatClampNeg) (r_bb sk sg 0) fl ++ wKp cI cZ cY q9 kt g rz sk) := by rw [e_sg]; exact hD
  exact hL23 _ 0 (Nat.lt_succ_self _) (Nat.zero_le _) _ hl _ _ hP hD hS
theorem hd_X2_settles : yX2_settles.cls = RX2 ∧ yX2_settles.cls ≠ "java/lang/invoke/MethodHandle" ∧ yX2_settles.cls ≠ "java/lang/invoke/VarHandle" ∧ (parseMethodDescriptor yX2_settles.desc).map (fun d => d.parameters.length) = some 0 := by decide +kernel
theorem in_X2_settles_X2 : ∀ w ∈ wsX20, w ∈ wsX2_settles := by decide +kernel
theorem fl_X2_settles_35 : (Cond.fieldLink RX2 35 "MoorTrianglesModel" "thrown" "I") ∈ wsX2_settles := by decide +kernel
theorem fl_X2_settles_55 : (Cond.fieldLink RX2 55 "MoorTrianglesModel" "triangles" "I") ∈ wsX2_settles := by decide +kernel
theorem fl_X2_settles_100 : (Cond.fieldLink RX2 100 "MoorTrianglesModel" "flips" "I") ∈ wsX2_settles := by decide +kernel
set_option maxHeartbeats 4000000 in
set_option maxRecDepth 100000 in
theorem c_X2_settles (l : Launch) (dC : Nat → ClassId) (dI : Nat → Nat → Nat) (cI cZ cY : ClassId) (h qx qy qh qt qs : Nat) (rw : Nat → Nat) (th : Int32) (n : Nat) (xs ys hs : Nat → Int32) (t : Nat) (tb : Nat → Int32) (sg : Nat → Nat → Int32) (fl : Int32) (sz : Nat) (u N : Nat) (hu : u + 1 + 1 ≤ 36) (hn : n ≤ 17) (hsome : ∀ k, k < N → (r_fu u n xs ys (r_tuS u n xs ys (tb, sg, fl) k)).isSome = true) (hno : r_fu u n xs ys (r_tuS u n xs ys (tb, sg, fl) N) = none) (hok : ∀ k, k ≤ N → r_okS u n xs ys (r_tuS u n xs ys (tb, sg, fl) k)) (h01 : ∀ i j, i < 17 → j < 17 → sg i j = 0 ∨ sg i j = 1) : Met l yX2_settles wsX2_settles ({ frames := 7, cells := 19, slots := 342, locals := 170 }) (va_Pc [.ref h] (fun U => wrP (dC, dI) (gTY cI cZ cY) (wR cI cZ cY h qx qy qh qt qs rw th n xs ys hs (u + 1 + 1) tb sg fl) sz U ∧ kC U)) (wrQi (dC, dI) (gTY cI cZ cY) ((r_tuS u n xs ys (tb, sg, fl) N).2.2 - fl) (wR cI cZ cY h qx qy qh qt qs rw 0 n xs ys hs (u + 1 + 1) tb sg fl) (va_A (wR cI cZ cY h qx qy qh qt qs rw th n xs ys hs (u + 1 + 1) tb sg fl) sz)) 19 342 (va_A (wR cI cZ cY h qx qy qh qt qs rw th n xs ys hs (u + 1 + 1) tb sg fl) sz) := by
  refine wk_start (cc := cX2_settles) (maxL := 6) (ret := (some .int)) (Q0 := wrQi (dC, dI) (gTY cI cZ cY) ((r_tuS u n xs ys (tb, sg, fl) N).2.2 - fl) (wR cI cZ cY h qx qy qh qt qs rw 0 n xs ys hs (u + 1 + 1) tb sg fl)) RX2 (by decide) rfl rfl (Nat.le_of_ble_eq_true rfl) ?_
  intro p e s m below meth c ⟨hx, hb, hr, hml, hown, hts, hlocks, hin⟩ hk hP hK A hD hA hS ls hl
  have F : CallFix p m c cX2_settles 6 s ([.ref h] : List Value).toArray wsX2_settles RX2 := ⟨hx, hb, hml, hown, hts⟩
  have hl : lv_has ls 6 [(0, .ref h)] := hl
  refine lv_aload_n hx hb dX2_settles_0 rfl (lv_at hl 0 rfl) ?_
  refine lv_iconst (v := 0) hx hb dX2_settles_1 (by decide) ?_
  refine va_put (D := (dC, dI)) (ci := 2) (v := .int 0) (ty := .int) (C := RX2) (T := TX2) (N := 9) hx hb hts in_X2_settles_X2 tyX2 tyX2_ok nmX2 hown hK hP hD hS 0 rfl rfl 0 (by decide) (hts (.fieldLink RX2 35 "MoorTrianglesModel" "thrown" "I") fl_X2_settles_35) (fun _ h9 => h9) rfl (by decide +kernel) rfl rfl (Nat.le_of_ble_eq_true rfl) dX2_settles_2 (fun H locs hP hD hS => ?_)
  have hP : va_P (dC, dI) vwCl (wR cI cZ cY h qx qy qh qt qs rw 0 n xs ys hs (u + 1 + 1) tb sg fl) H := hP
  have hD : va_D A (wR cI cZ cY h qx qy qh qt qs rw 0 n xs ys hs (u + 1 + 1) tb sg fl) := hD
  refine lv_aload_n hx hb dX2_settles_5 rfl (lv_at hl 0 rfl) ?_
  refine va_get (D := (dC, dI)) (ci := 2) (v := .int (nI (u + 1 + 1))) (C := RX2) (T := TX2) (N := 9) hx hb hts in_X2_settles_X2 hown hK hP 0 rfl rfl 5 (by decide) (hts (.fieldLink RX2 55 "MoorTrianglesModel" "triangles" "I") fl_X2_settles_55) (fun _ h9 => h9) rfl dX2_settles_6 ?_
  refine lv_istore_n (lv' := [(1, .int (nI (u + 1 + 1))), (0, .ref h)]) hx hb dX2_settles_9 rfl hl (by decide) rfl (fun ls hl => ?_)
  refine lv_aload_n hx hb dX2_settles_10 rfl (lv_at hl 1 rfl) ?_
  refine va_get (D := (dC, dI)) (ci := 2) (v := .int fl) (C := RX2) (T := TX2) (N := 9) hx hb hts in_X2_settles_X2 hown hK hP 0 rfl rfl 8 (by decide) (hts (.fieldLink RX2 100 "MoorTrianglesModel" "flips" "I") fl_X2_settles_100) (fun _ h9 => h9) rfl dX2_settles_11 ?_
  refine lv_istore_n (lv' := [(2, .int fl), (1, .int (nI (u + 1 + 1))), (0, .ref h)]) hx hb dX2_settles_14 rfl hl (by decide) rfl (fun ls hl => ?_)
  refine lv_aload_n hx hb dX2_settles_15 rfl (lv_at hl 2 rfl) ?_
  have hP : va_P (dC, dI) vwCl (wR cI cZ cY h qx qy qh qt qs rw 0 n xs ys hs (u + 1 + 1) tb sg fl ++ []) H := by rw [List.append_nil]; exact hP
  have hD : va_D A (wR cI cZ cY h qx qy qh qt qs rw 0 n xs ys hs (u + 1 + 1) tb sg fl ++ []) := by rw [List.append_nil]; exact hD
  refine wk_cVrE (As := []) (rest := []) hk F (c_X2_keptTriangles l dC dI cI cZ cY h qx qy qh qt qs rw 0 n xs ys hs (u + 1 + 1) tb sg fl H.size) (cwV 0 hts gX2_settles_X2_keptTriangles rfl rfl rfl hd_X2_keptTriangles ⟨Nat.le_of_ble_eq_true rfl, Nat.le_of_ble_eq_true rfl⟩) hP hK hD hS hA (va_recv hK hP (ci := 2) (q0 := 0) rfl rfl) rfl hl.1 rfl (lv_room (Nat.le_of_ble_eq_true rfl)) dX2_settles_16 ⟨Nat.le_of_ble_eq_true rfl, Nat.le_of_ble_eq_true rfl⟩ (fun _ q9 H locs hP hD hS => ?_)
  have hP : va_P (dC, dI) vwCl (wR cI cZ cY h qx qy qh qt qs rw 0 n xs ys hs (u + 1 + 1) tb sg fl ++ [(q9, .inl (cI, 36, .inl tb))]) H := by rw [List.append_nil] at hP; exact hP
  have hD : va_D A (wR cI cZ cY h qx qy qh qt qs rw 0 n xs ys hs (u + 1 + 1) tb sg fl ++ [(q9, .inl (cI, 36, .inl tb))]) := by rw [List.append_nil] at hD; exact hD
  refine lv_astore_n (lv' := [(3, .ref q9), (2, .int fl), (1, .int (nI (u + 1 + 1))), (0, .ref h)]) hx hb dX2_settles_19 rfl hl (by decide) rfl (fun ls hl => ?_)
  refine lv_aload_n hx hb dX2_settles_20 rfl (lv_at hl 3 rfl) ?_
  refine wk_cVrE (As := []) (rest := []) hk F (c_X2_keptStays l dC dI cI cZ cY h qx qy qh qt qs rw 0 n xs ys hs (u + 1 + 1) tb sg fl H.size h01) (cwV 0 hts gX2_settles_X2_keptStays rfl rfl rfl hd_X2_keptStays ⟨Nat.le_of_ble_eq_true rfl, Nat.le_of_ble_eq_true rfl⟩) hP hK hD hS hA (va_recv hK hP (ci := 2) (q0 := 0) rfl rfl) rfl hl.1 rfl (lv_room (Nat.le_of_ble_eq_true rfl)) dX2_settles_21 ⟨Nat.le_of_ble_eq_true rfl, Nat.le_of_ble_eq_true rfl⟩ (fun rz g H locs hP hD hS => ?_)
  have hP : va_P (dC, dI) vwCl (wR cI cZ cY h qx qy qh qt qs rw 0 n xs ys hs (u + 1 + 1) tb sg fl ++ wKp cI cZ cY q9 tb g rz sg) H := by rw [List.append_assoc] at hP; exact hP
  have hD : va_D A (wR cI cZ cY h qx qy qh qt qs rw 0 n xs ys hs (u + 1 + 1) tb sg fl ++ wKp cI cZ cY q9 tb g rz sg) := by rw [List.append_assoc] at hD; exact hD
  refine lv_astore (lv' := [(4, .ref g), (3, .ref q9), (2, .int fl), (1, .int (nI (u + 1 + 1))), (0, .ref h)]) hx hb dX2_settles_24 hl (by decide) rfl (fun ls hl => ?_)
  refine lv_aload_n hx hb dX2_settles_26 rfl (lv_at hl 4 rfl) ?_
  refine wx_cViE (As := []) (rest := []) F (c_X2_settled l dC dI cI cZ cY h qx qy qh qt qs rw 0 n xs ys hs (u + 1 + 1) tb sg fl H.size u N hu hn hsome hno hok) (cwV 0 hts gX2_settles_X2_settled rfl rfl rfl hd_X2_settled ⟨Nat.le_of_ble_eq_true rfl, Nat.le_of_ble_eq_true rfl⟩) hP hK hD hS hA (va_recv hK hP (ci := 2) (q0 := 0) rfl rfl) rfl hl.1 rfl (lv_room (Nat.le_of_ble_eq_true rfl)) dX2_settles_27 ⟨Nat.le_of_ble_eq_true rfl, Nat.le_of_ble_eq_true rfl⟩ (fun H locs hP hD hS => ?_)
  have hP : va_P (dC, dI) vwCl (wR cI cZ cY h qx qy qh qt qs rw 0 n xs ys hs (u + 1 + 1) ((r_tuS u n xs ys (tb, sg, fl) N).1) ((r_tuS u n xs ys (tb, sg, fl) N).2.1) ((r_tuS u n xs ys (tb, sg, fl) N).2.2) ++ wKp cI cZ cY q9 tb g rz sg) H := hP
  have hD : va_D A (wR cI cZ cY h qx qy qh qt qs rw 0 n xs ys hs (u + 1 + 1) ((r_tuS u n xs ys (tb, sg, fl) N).1) ((r_tuS u n xs ys (tb, sg, fl) N).2.1) ((r_tuS u n xs ys (tb, sg, fl) N).2.2) ++ wKp cI cZ cY q9 tb g rz sg) := hD
  refine lv_istore (lv' := [(5, .int ((r_tuS u n xs ys (tb, sg, fl) N).2.2 - fl)), (4, .ref g), (3, .ref q9), (2, .int fl), (1, .int (nI (u + 1 + 1))), (0, .ref h)]) hx hb dX2_settles_30 hl (by decide) rfl (fun ls hl => ?_)
  refine lv_aload_n hx hb dX2_settles_32 rfl (lv_at hl 5 rfl) ?_
  refine lv_iload_n hx hb dX2_settles_33 rfl (lv_at hl 4 rfl) ?_
  refine lv_aload_n hx hb dX2_settles_34 rfl (lv_at hl 2 rfl) ?_
  refine lv_aload hx hb dX2_settles_35 (lv_at hl 1 rfl) ?_
  refine wx_cVv (As := [.int (nI (u + 1 + 1)), .ref q9, .ref g]) (rest := []) F (c_X2_bringBack l dC dI cI cZ cY h qx qy qh qt qs rw 0 n xs ys hs (u + 1 + 1) ((r_tuS u n xs ys (tb, sg, fl) N).1) ((r_tuS u n xs ys (tb, sg, fl) N).2.1) ((r_tuS u n xs ys (tb, sg, fl) N).2.2) (u + 1 + 1) q9 tb g rz sg H.size (fun i hi j hj => h01 i j hi hj)) (cwV 3 hts gX2_settles_X2_bringBack rfl rfl rfl hd_X2_bringBack ⟨Nat.le_of_ble_eq_true rfl, Nat.le_of_ble_eq_true rfl⟩) hP hK hD hS hA (va_recv hK hP (ci := 2) (q0 := 0) rfl rfl) rfl hl.1 rfl (lv_room (Nat.le_of_ble_eq_true rfl)) dX2_settles_37 ⟨Nat.le_of_ble_eq_true rfl, Nat.le_of_ble_eq_true rfl⟩ (fun H locs hP hD hS => ?_)
  have hP : va_P (dC, dI) vwCl (wR cI cZ cY h qx qy qh qt qs rw 0 n xs ys hs (u + 1 + 1) tb sg ((r_tuS u n xs ys (tb, sg, fl) N).2.2) ++ wKp cI cZ cY q9 tb g rz sg) H := hP
  have hD : va_D A (wR cI cZ cY h qx qy qh qt qs rw 0 n xs ys hs (u + 1 + 1) tb sg ((r_tuS u n xs ys (tb, sg, fl) N).2.2) ++ wKp cI cZ cY q9 tb g rz sg) := hD
  refine lv_aload_n hx hb dX2_settles_40 rfl (lv_at hl 5 rfl) ?_
  refine lv_iload_n hx hb dX2_settles_41 rfl (lv_at hl 3 rfl) ?_
  refine va_put (D := (dC, dI)) (ci := 2) (v := .int fl) (ty := .int) (C := RX2) (T := TX2) (N := 9) hx hb hts in_X2_settles_X2 tyX2 tyX2_ok nmX2 hown hK hP hD hS 0 rfl rfl 8 (by decide) (hts (.fieldLink RX2 100 "MoorTrianglesModel" "flips" "I") fl_X2_settles_100) (fun _ h9 => h9) rfl (by decide +kernel) rfl rfl (Nat.le_of_ble_eq_true rfl) dX2_settles_42 (fun H locs hP hD hS => ?_)
  have hP : va_P (dC, dI) vwCl (wR cI cZ cY h qx qy qh qt qs rw 0 n xs ys hs (u + 1 + 1) tb sg fl ++ wKp cI cZ cY q9 tb g rz sg) H := hP
  have hD : va_D A (wR cI cZ cY h qx qy qh qt qs rw 0 n xs ys hs (u + 1 + 1) tb sg fl ++ wKp cI cZ cY q9 tb g rz sg) := hD
  refine lv_iload hx hb dX2_settles_45 (lv_at hl 0 rfl) ?_
  have hP : va_P (dC, dI) vwCl (wR cI cZ cY h qx qy qh qt qs rw 0 n xs ys hs (u + 1 + 1) tb sg fl) H := hP.left
  have hD : va_D A (wR cI cZ cY h qx qy qh qt qs rw 0 n xs ys hs (u + 1 + 1) tb sg fl) := hD.left
  exact wr_iret hx hb hr hlocks (by rfl) hP hK hD hS dX2_settles_47
theorem hd_X2_would : yX2_would.cls = RX2 ∧ yX2_would.cls ≠ "java/lang/invoke/MethodHandle" ∧ yX2_would.cls ≠ "java/lang/invoke/VarHandle" ∧ (parseMethodDescriptor yX2_would.desc).map (fun d => d.parameters.length) = some 2 := by decide +kernel
theorem in_X2_would_X2 : ∀ w ∈ wsX20, w ∈ wsX2_would := by decide +kernel
theorem fl_X2_would_35 : (Cond.fieldLink RX2 35 "MoorTrianglesModel" "thrown" "I") ∈ wsX2_would := by decide +kernel
theorem fl_X2_would_55 : (Cond.fieldLink RX2 55 "MoorTrianglesModel" "triangles" "I") ∈ wsX2_would := by decide +kernel
theorem fl_X2_would_7 : (Cond.fieldLink RX2 7 "MoorTrianglesModel" "cairns" "I") ∈ wsX2_would := by decide +kernel
set_option maxHeartbeats 4000000 in
set_option maxRecDepth 100000 in
theorem c_X2_would (l : Launch) (dC : Nat → ClassId) (dI : Nat → Nat → Nat) (cI cZ cY : ClassId) (h qx qy qh qt qs : Nat) (rw : Nat → Nat) (th : Int32) (n : Nat) (xs ys hs : Nat → Int32) (t : Nat) (tb : Nat → Int32) (sg : Nat → Nat → Int32) (fl : Int32) (x : Int32) (y : Int32) (sz : Nat) (hn : n ≤ 16) (ht : t ≤ 36) (hok : r_okT t tb) (had : r_okO n xs ys x y = true → r_okAd n t xs ys tb sg x y) (hFF : r_okO n xs ys x y = true → ∀ a b, a < n + 1 → b < n + 1 → r_okF (r_adS n t xs ys tb sg x y).1 (r_adS n t xs ys tb sg x y).2.1 (nI a) (nI b)) (h01 : ∀ i j, i < 17 → j < 17 → sg i j = 0 ∨ sg i j = 1) : Met l yX2_would wsX2_would ({ frames := 7, cells := 22, slots := 350, locals := 167 }) (va_Pc [.ref h, .int x, .int y] (fun U => wrP (dC, dI) (gTY cI cZ cY) (wR cI cZ cY h qx qy qh qt qs rw th n xs ys hs t tb sg fl) sz U ∧ kC U)) (wrQi (dC, dI) (gTY cI cZ cY) (r_b1 (r_okO n xs ys x y) (r_edges (n + 1) (r_adS n t xs ys tb sg x y).1 (m_ac n xs x) (m_ac n ys y) (r_adS n t xs ys tb sg x y).2.1 (r_adSg n t xs ys tb sg x y) 3) 0) (wR cI cZ cY h qx qy qh qt qs rw (r_thO n xs ys x y) n (r_b1 (r_okO n xs ys x y) (m_ac n xs x) xs) (r_b1 (r_okO n xs ys x y) (m_ac n ys y) ys) (r_b1 (r_okO n xs ys x y) (m_ac n hs 0) hs) t tb sg fl) (va_A (wR cI cZ cY h qx qy qh qt qs rw th n xs ys hs t tb sg fl) sz)) 22 350 (va_A (wR cI cZ cY h qx qy qh qt qs rw th n xs ys hs t tb sg fl) sz) := by
  refine wk_start (cc := cX2_would) (maxL := 7) (ret := (some .int)) (Q0 := wrQi (dC, dI) (gTY cI cZ cY) (r_b1 (r_okO n xs ys x y) (r_edges (n + 1) (r_adS n t xs ys tb sg x y).1 (m_ac n xs x) (m_ac n ys y) (r_adS n t xs ys tb sg x y).2.1 (r_adSg n t xs ys tb sg x y) 3) 0) (wR cI cZ cY h qx qy qh qt qs rw (r_thO n xs ys x y) n (r_b1 (r_okO n xs ys x y) (m_ac n xs x) xs) (r_b1 (r_okO n xs ys x y) (m_ac n ys y) ys) (r_b1 (r_okO n xs ys x y) (m_ac n hs 0) hs) t tb sg fl)) RX2 (by decide) rfl rfl (Nat.le_of_ble_eq_true rfl) ?_
  intro p e s m below meth c ⟨hx, hb, hr, hml, hown, hts, hlocks, hin⟩ hk hP hK A hD hA hS ls hl
  have F : CallFix p m c cX2_would 7 s ([.ref h, .int x, .int y] : List Value).toArray wsX2_would RX2 := ⟨hx, hb, hml, hown, hts⟩
  have hl : lv_has ls 7 [(0, .ref h), (1, .int x), (2, .int y)] := hl
  refine lv_aload_n hx hb dX2_would_0 rfl (lv_at hl 0 rfl) ?_
  refine lv_iconst (v := 0) hx hb dX2_would_1 (by decide) ?_
  refine va_put (D := (dC, dI)) (ci := 2) (v := .int 0) (ty := .int) (C := RX2) (T := TX2) (N := 9) hx hb hts in_X2_would_X2 tyX2 tyX2_ok nmX2 hown hK hP hD hS 0 rfl rfl 0 (by decide) (hts (.fieldLink RX2 35 "MoorTrianglesModel" "thrown" "I") fl_X2_would_35) (fun _ h9 => h9) rfl (by decide +kernel) rfl rfl (Nat.le_of_ble_eq_true rfl) dX2_would_2 (fun H locs hP hD hS => ?_)
  have hP : va_P (dC, dI) vwCl (wR cI cZ cY h qx qy qh qt qs rw 0 n xs ys hs t tb sg fl) H := hP
  have hD : va_D A (wR cI cZ cY h qx qy qh qt qs rw 0 n xs ys hs t tb sg fl) := hD
  refine lv_iload_n hx hb dX2_would_5 rfl (lv_at hl 1 rfl) ?_
  refine lv_iload_n hx hb dX2_would_6 rfl (lv_at hl 2 rfl) ?_
  refine rd_cSi (As := [.int x, .int y]) (rest := []) F (c_X2_isPlace l dC dI cI cZ cY x y) (cwS 2 hts gX2_would_X2_isPlace rfl rfl rfl hd_X2_isPlace ⟨Nat.le_of_ble_eq_true rfl, Nat.le_of_ble_eq_true rfl⟩) va_P0 hK rfl hl.1 rfl (lv_room (Nat.le_of_ble_eq_true rfl)) dX2_would_7 ⟨Nat.le_of_ble_eq_true rfl, Nat.le_of_ble_eq_true rfl⟩ ?_
  refine lv_if_neB (tgt := 19) hx hb dX2_would_10 (by decide) (fun c_1 => ?_) (fun c_1 => ?_)
  · refine lv_aload_n hx hb dX2_would_19 rfl (lv_at hl 0 rfl) ?_
    refine lv_iload_n hx hb dX2_would_20 rfl (lv_at hl 1 rfl) ?_
    refine lv_iload_n hx hb dX2_would_21 rfl (lv_at hl 2 rfl) ?_
    refine rd_cVi (As := [.int x, .int y]) (rest := []) F (c_X2_cairnAt l dC dI cI cZ cY h qx qy qh qt qs rw 0 n xs ys hs t tb sg fl x y (by omega)) (cwV 2 hts gX2_would_X2_cairnAt rfl rfl rfl hd_X2_cairnAt ⟨Nat.le_of_ble_eq_true rfl, Nat.le_of_ble_eq_true rfl⟩) hP hK (va_recv hK hP (ci := 2) (q0 := 0) rfl rfl) rfl hl.1 rfl (lv_room (Nat.le_of_ble_eq_true rfl)) dX2_would_22 ⟨Nat.le_of_ble_eq_true rfl, Nat.le_of_ble_eq_true rfl⟩ ?_
    refine lv_iconst (v := (-1)) hx hb dX2_would_25 (by decide) ?_
    refine lv_icmp_eq (tgt := 35) hx hb dX2_would_26 (by decide) (fun c_2 => ?_) (fun c_2 => ?_)
    · refine lv_aload_n hx hb dX2_would_35 rfl (lv_at hl 0 rfl) ?_
      refine va_get (D := (dC, dI)) (ci := 2) (v := .int (nI t)) (C := RX2) (T := TX2) (N := 9) hx hb hts in_X2_would_X2 hown hK hP 0 rfl rfl 5 (by decide) (hts (.fieldLink RX2 55 "MoorTrianglesModel" "triangles" "I") fl_X2_would_55) (fun _ h9 => h9) rfl dX2_would_36 ?_
      refine lv_istore_n (lv' := [(3, .int (nI t)), (0, .ref h), (1, .int x), (2, .int y)]) hx hb dX2_would_39 rfl hl (by decide) rfl (fun ls hl => ?_)
      refine lv_aload_n hx hb dX2_would_40 rfl (lv_at hl 1 rfl) ?_
      have hP : va_P (dC, dI) vwCl (wR cI cZ cY h qx qy qh qt qs rw 0 n xs ys hs t tb sg fl ++ []) H := by rw [List.append_nil]; exact hP
      have hD : va_D A (wR cI cZ cY h qx qy qh qt qs rw 0 n xs ys hs t tb sg fl ++ []) := by rw [List.append_nil]; exact hD
      refine wk_cVrE (As := []) (rest := []) hk F (c_X2_keptTriangles l dC dI cI cZ cY h qx qy qh qt qs rw 0 n xs ys hs t tb sg fl H.size) (cwV 0 hts gX2_would_X2_keptTriangles rfl rfl rfl hd_X2_keptTriangles ⟨Nat.le_of_ble_eq_true rfl, Nat.le_of_ble_eq_true rfl⟩) hP hK hD hS hA (va_recv hK hP (ci := 2) (q0 := 0) rfl rfl) rfl hl.1 rfl (lv_room (Nat.le_of_ble_eq_true rfl)) dX2_would_41 ⟨Nat.le_of_ble_eq_true rfl, Nat.le_of_ble_eq_true rfl⟩ (fun _ q9 H locs hP hD hS => ?_)
      have hP : va_P (dC, dI) vwCl (wR cI cZ cY h qx qy qh qt qs rw 0 n xs ys hs t tb sg fl ++ [(q9, .inl (cI, 36, .inl tb))]) H := by rw [List.append_nil] at hP; exact hP
      have hD : va_D A (wR cI cZ cY h qx qy qh qt qs rw 0 n xs ys hs t tb sg fl ++ [(q9, .inl (cI, 36, .inl tb))]) := by rw [List.append_nil] at hD; exact hD
      refine lv_astore (lv' := [(4, .ref q9), (3, .int (nI t)), (0, .ref h), (1, .int x), (2, .int y)]) hx hb dX2_would_44 hl (by decide) rfl (fun ls hl => ?_)
      refine lv_aload_n hx hb dX2_would_46 rfl (lv_at hl 2 rfl) ?_
      refine wk_cVrE (As := []) (rest := []) hk F (c_X2_keptStays l dC dI cI cZ cY h qx qy qh qt qs rw 0 n xs ys hs t tb sg fl H.size h01) (cwV 0 hts gX2_would_X2_keptStays rfl rfl rfl hd_X2_keptStays ⟨Nat.le_of_ble_eq_true rfl, Nat.le_of_ble_eq_true rfl⟩) hP hK hD hS hA (va_recv hK hP (ci := 2) (q0 := 0) rfl rfl) rfl hl.1 rfl (lv_room (Nat.le_of_ble_eq_true rfl)) dX2_would_47 ⟨Nat.le_of_ble_eq_true rfl, Nat.le_of_ble_eq_true rfl⟩ (fun rz g H locs hP hD hS => ?_)
      have hP : va_P (dC, dI) vwCl (wR cI cZ cY h qx qy qh qt qs rw 0 n xs ys hs t tb sg fl ++ wKp cI cZ cY q9 tb g rz sg) H := by rw [List.append_assoc] at hP; exact hP
      have hD : va_D A (wR cI cZ cY h qx qy qh qt qs rw 0 n xs ys hs t tb sg fl ++ wKp cI cZ cY q9 tb g rz sg) := by rw [List.append_assoc] at hD; exact hD
      refine lv_astore (lv' := [(5, .ref g), (4, .ref q9), (3, .int (nI t)), (0, .ref h), (1, .int x), (2, .int y)]) hx hb dX2_would_50 hl (by decide) rfl (fun ls hl => ?_)
      refine lv_aload_n hx hb dX2_would_52 rfl (lv_at hl 3 rfl) ?_
      refine lv_iload_n hx hb dX2_would_53 rfl (lv_at hl 4 rfl) ?_
      refine lv_iload_n hx hb dX2_would_54 rfl (lv_at hl 5 rfl) ?_
      refine lv_iconst (v := 0) hx hb dX2_would_55 (by decide) ?_
      refine wx_cVvE (As := [.int x, .int y, .int 0]) (rest := []) F (c_X2_add l dC dI cI cZ cY h qx qy qh qt qs rw 0 n xs ys hs t tb sg fl x y 0 H.size (by omega) ht hok (had (show r_okO n xs ys x y = true from by simp [r_okO, c_1, c_2])).1 (had (show r_okO n xs ys x y = true from by simp [r_okO, c_1, c_2])).2.1 (had (show r_okO n xs ys x y = true from by simp [r_okO, c_1, c_2])).2.2) (cwV 3 hts gX2_would_X2_add rfl rfl rfl hd_X2_add ⟨Nat.le_of_ble_eq_true rfl, Nat.le_of_ble_eq_true rfl⟩) hP hK hD hS hA (va_recv hK hP (ci := 2) (q0 := 0) rfl rfl) rfl hl.1 rfl (lv_room (Nat.le_of_ble_eq_true rfl)) dX2_would_56 ⟨Nat.le_of_ble_eq_true rfl, Nat.le_of_ble_eq_true rfl⟩ (fun H locs hP hD hS => ?_)
      have hP : va_P (dC, dI) vwCl (wR cI cZ cY h qx qy qh qt qs rw 0 (n + 1) (m_ac n xs x) (m_ac n ys y) (m_ac n hs 0) ((r_adS n t xs ys tb sg x y).1) ((r_adS n t xs ys tb sg x y).2.1) (r_adSg n t xs ys tb sg x y) fl ++ wKp cI cZ cY q9 tb g rz sg) H := hP
      have hD : va_D A (wR cI cZ cY h qx qy qh qt qs rw 0 (n + 1) (m_ac n xs x) (m_ac n ys y) (m_ac n hs 0) ((r_adS n t xs ys tb sg x y).1) ((r_adS n t xs ys tb sg x y).2.1) (r_adSg n t xs ys tb sg x y) fl ++ wKp cI cZ cY q9 tb g rz sg) := hD
      refine lv_aload_n hx hb dX2_would_59 rfl (lv_at hl 3 rfl) ?_
      refine lv_iconst (v := 3) hx hb dX2_would_60 (by decide) ?_
      refine rd_cVi (As := [.int 3]) (rest := []) F (c_X2_edges l dC dI cI cZ cY h qx qy qh qt qs rw 0 (n + 1) (m_ac n xs x) (m_ac n ys y) (m_ac n hs 0) ((r_adS n t xs ys tb sg x y).1) ((r_adS n t xs ys tb sg x y).2.1) (r_adSg n t xs ys tb sg x y) fl 3 (had (show r_okO n xs ys x y = true from by simp [r_okO, c_1, c_2])).2.2 (by omega) (hFF (show r_okO n xs ys x y = true from by simp [r_okO, c_1, c_2]))) (cwV 1 hts gX2_would_X2_edges rfl rfl rfl hd_X2_edges ⟨Nat.le_of_ble_eq_true rfl, Nat.le_of_ble_eq_true rfl⟩) hP.left hK (va_recv hK hP (ci := 2) (q0 := 0) rfl rfl) rfl hl.1 rfl (lv_room (Nat.le_of_ble_eq_true rfl)) dX2_would_61 ⟨Nat.le_of_ble_eq_true rfl, Nat.le_of_ble_eq_true rfl⟩ ?_
      refine lv_istore (lv' := [(6, .int (r_edges (n + 1) ((r_adS n t xs ys tb sg x y).1) (m_ac n xs x) (m_ac n ys y) ((r_adS n t xs ys tb sg x y).2.1) (r_adSg n t xs ys tb sg x y) 3)), (5, .ref g), (4, .ref q9), (3, .int (nI t)), (0, .ref h), (1, .int x), (2, .int y)]) hx hb dX2_would_64 hl (by decide) rfl (fun ls hl => ?_)
      refine lv_aload_n hx hb dX2_would_66 rfl (lv_at hl 4 rfl) ?_
      refine lv_dup hx hb dX2_would_67 rfl ?_
      refine va_get (D := (dC, dI)) (ci := 2) (v := .int (nI (n + 1))) (C := RX2) (T := TX2) (N := 9) hx hb hts in_X2_would_X2 hown hK hP 0 rfl rfl 1 (by decide) (hts (.fieldLink RX2 7 "MoorTrianglesModel" "cairns" "I") fl_X2_would_7) (fun _ h9 => h9) rfl dX2_would_68 ?_
      refine lv_iconst (v := 1) hx hb dX2_would_71 (by decide) ?_
      refine lv_isub hx hb dX2_would_72 ?_
      refine lv_cvi (nI_pred _) ?_
      refine va_put (D := (dC, dI)) (ci := 2) (v := .int (nI n)) (ty := .int) (C := RX2) (T := TX2) (N := 9) hx hb hts in_X2_would_X2 tyX2 tyX2_ok nmX2 hown hK hP hD hS 0 rfl rfl 1 (by decide) (hts (.fieldLink RX2 7 "MoorTrianglesModel" "cairns" "I") fl_X2_would_7) (fun _ h9 => h9) rfl (by decide +kernel) rfl rfl (Nat.le_of_ble_eq_true rfl) dX2_would_73 (fun H locs hP hD hS => ?_)
      have hP : va_P (dC, dI) vwCl (wR cI cZ cY h qx qy qh qt qs rw 0 n (m_ac n xs x) (m_ac n ys y) (m_ac n hs 0) ((r_adS n t xs ys tb sg x y).1) ((r_adS n t xs ys tb sg x y).2.1) (r_adSg n t xs ys tb sg x y) fl ++ wKp cI cZ cY q9 tb g rz sg) H := hP
      have hD : va_D A (wR cI cZ cY h qx qy qh qt qs rw 0 n (m_ac n xs x) (m_ac n ys y) (m_ac n hs 0) ((r_adS n t xs ys tb sg x y).1) ((r_adS n t xs ys tb sg x y).2.1) (r_adSg n t xs ys tb sg x y) fl ++ wKp cI cZ cY q9 tb g rz sg) := hD
      refine lv_aload_n hx hb dX2_would_76 rfl (lv_at hl 4 rfl) ?_
      refine lv_iload_n hx hb dX2_would_77 rfl (lv_at hl 3 rfl) ?_
      refine lv_aload hx hb dX2_would_78 (lv_at hl 2 rfl) ?_
      refine lv_aload hx hb dX2_would_80 (lv_at hl 1 rfl) ?_
      refine wx_cVv (As := [.int (nI t), .ref q9, .ref g]) (rest := []) F (c_X2_bringBack l dC dI cI cZ cY h qx qy qh qt qs rw 0 n (m_ac n xs x) (m_ac n ys y) (m_ac n hs 0) ((r_adS n t xs ys tb sg x y).1) ((r_adS n t xs ys tb sg x y).2.1) (r_adSg n t xs ys tb sg x y) fl t q9 tb g rz sg H.size (fun i hi j hj => h01 i j hi hj)) (cwV 3 hts gX2_would_X2_bringBack rfl rfl rfl hd_X2_bringBack ⟨Nat.le_of_ble_eq_true rfl, Nat.le_of_ble_eq_true rfl⟩) hP hK hD hS hA (va_recv hK hP (ci := 2) (q0 := 0) rfl rfl) rfl hl.1 rfl (lv_room (Nat.le_of_ble_eq_true rfl)) dX2_would_82 ⟨Nat.le_of_ble_eq_true rfl, Nat.le_of_ble_eq_true rfl⟩ (fun H locs hP hD hS => ?_)
      have hP : va_P (dC, dI) vwCl (wR cI cZ cY h qx qy qh qt qs rw 0 n (m_ac n xs x) (m_ac n ys y) (m_ac n hs 0) t tb sg fl ++ wKp cI cZ cY q9 tb g rz sg) H := hP
      have hD : va_D A (wR cI cZ cY h qx qy qh qt qs rw 0 n (m_ac n xs x) (m_ac n ys y) (m_ac n hs 0) t tb sg fl ++ wKp cI cZ cY q9 tb g rz sg) := hD
      refine lv_iload hx hb dX2_would_85 (lv_at hl 0 rfl) ?_
      have hP : va_P (dC, dI) vwCl (wR cI cZ cY h qx qy qh qt qs rw 0 n (m_ac n xs x) (m_ac n ys y) (m_ac n hs 0) t tb sg fl) H := hP.left
      have hD : va_D A (wR cI cZ cY h qx qy qh qt qs rw 0 n (m_ac n xs x) (m_ac n ys y) (m_ac n hs 0) t tb sg fl) := hD.left
      have e_th : (r_thO n xs ys x y : Int32) = 0 := by first | (simp only [r_b1, r_okO, r_thO, c_1, c_2]; done) | (simp only [r_b1, r_okO, r_thO, c_1, c_2]; rfl) | (simp [r_b1, r_okO, r_thO, c_1, c_2]; done)
      have e_xs : (r_b1 (r_okO n xs ys x y) (m_ac n xs x) xs : Nat → Int32) = m_ac n xs x := by first | (simp only [r_b1, r_okO, r_thO, c_1, c_2]; done) | (simp only [r_b1, r_okO, r_thO, c_1, c_2]; rfl) | (simp [r_b1, r_okO, r_thO, c_1, c_2]; done)
      have e_ys : (r_b1 (r_okO n xs ys x y) (m_ac n ys y) ys : Nat → Int32) = m_ac n ys y := by first | (simp only [r_b1, r_okO, r_thO, c_1, c_2]; done) | (simp only [r_b1, r_okO, r_thO, c_1, c_2]; rfl) | (simp [r_b1, r_okO, r_thO, c_1, c_2]; done)
      have e_hs : (r_b1 (r_okO n xs ys x y) (m_ac n hs 0) hs : Nat → Int32) = m_ac n hs 0 := by first | (simp only [r_b1, r_okO, r_thO, c_1, c_2]; done) | (simp only [r_b1, r_okO, r_thO, c_1, c_2]; rfl) | (simp [r_b1, r_okO, r_thO, c_1, c_2]; done)
      have hP : va_P (dC, dI) vwCl (wR cI cZ cY h qx qy qh qt qs rw (r_thO n xs ys x y) n (r_b1 (r_okO n xs ys x y) (m_ac n xs x) xs) (r_b1 (r_okO n xs ys x y) (m_ac n ys y) ys) (r_b1 (r_okO n xs ys x y) (m_ac n hs 0) hs) t tb sg fl) H := by rw [e_th, e_xs, e_ys, e_hs]; exact hP
      have hD : va_D A (wR cI cZ cY h qx qy qh qt qs rw (r_thO n xs ys x y) n (r_b1 (r_okO n xs ys x y) (m_ac n xs x) xs) (r_b1 (r_okO n xs ys x y) (m_ac n ys y) ys) (r_b1 (r_okO n xs ys x y) (m_ac n hs 0) hs) t tb sg fl) := by rw [e_th, e_xs, e_ys, e_hs]; exact hD
      exact wr_iret hx hb hr hlocks (by first | (simp only [r_b1, r_okO, r_thO, c_1, c_2]; done) | (simp only [r_b1, r_okO, r_thO, c_1, c_2]; rfl) | (simp [r_b1, r_okO, r_thO, c_1, c_2]; done)) hP hK hD hS dX2_would_87
    · refine lv_aload_n hx hb dX2_would_29 rfl (lv_at hl 0 rfl) ?_
      refine lv_iconst (v := 2) hx hb dX2_would_30 (by decide) ?_
      refine wx_cVi (As := [.int 2]) (rest := []) F (c_X2_fail l dC dI cI cZ cY h qx qy qh qt qs rw 0 n xs ys hs t tb sg fl 2 H.size) (cwV 1 hts gX2_would_X2_fail rfl rfl rfl hd_X2_fail ⟨Nat.le_of_ble_eq_true rfl, Nat.le_of_ble_eq_true rfl⟩) hP hK hD hS hA (va_recv hK hP (ci := 2) (q0 := 0) rfl rfl) rfl hl.1 rfl (lv_room (Nat.le_of_ble_eq_true rfl)) dX2_would_31 ⟨Nat.le_of_ble_eq_true rfl, Nat.le_of_ble_eq_true rfl⟩ (fun H locs hP hD hS => ?_)
      have hP : va_P (dC, dI) vwCl (wR cI cZ cY h qx qy qh qt qs rw 2 n xs ys hs t tb sg fl) H := hP
      have hD : va_D A (wR cI cZ cY h qx qy qh qt qs rw 2 n xs ys hs t tb sg fl) := hD
      refine W.widen (k := 22) (n := 350) (by omega) (by omega) ?_
      have e_th : (r_thO n xs ys x y : Int32) = 2 := by first | (simp only [r_b1, r_okO, r_thO, c_1, c_2]; done) | (simp only [r_b1, r_okO, r_thO, c_1, c_2]; rfl) | (simp [r_b1, r_okO, r_thO, c_1, c_2]; done)
      have e_xs : (r_b1 (r_okO n xs ys x y) (m_ac n xs x) xs : Nat → Int32) = xs := by first | (simp only [r_b1, r_okO, r_thO, c_1, c_2]; done) | (simp only [r_b1, r_okO, r_thO, c_1, c_2]; rfl) | (simp [r_b1, r_okO, r_thO, c_1, c_2]; done)
      have e_ys : (r_b1 (r_okO n xs ys x y) (m_ac n ys y) ys : Nat → Int32) = ys := by first | (simp only [r_b1, r_okO, r_thO, c_1, c_2]; done) | (simp only [r_b1, r_okO, r_thO, c_1, c_2]; rfl) | (simp [r_b1, r_okO, r_thO, c_1, c_2]; done)
      have e_hs : (r_b1 (r_okO n xs ys x y) (m_ac n hs 0) hs : Nat → Int32) = hs := by first | (simp only [r_b1, r_okO, r_thO, c_1, c_2]; done) | (simp only [r_b1, r_okO, r_thO, c_1, c_2]; rfl) | (simp [r_b1, r_okO, r_thO, c_1, c_2]; done)
      have hP : va_P (dC, dI) vwCl (wR cI cZ cY h qx qy qh qt qs rw (r_thO n xs ys x y) n (r_b1 (r_okO n xs ys x y) (m_ac n xs x) xs) (r_b1 (r_okO n xs ys x y) (m_ac n ys y) ys) (r_b1 (r_okO n xs ys x y) (m_ac n hs 0) hs) t tb sg fl) H := by rw [e_th, e_xs, e_ys, e_hs]; exact hP
      have hD : va_D A (wR cI cZ cY h qx qy qh qt qs rw (r_thO n xs ys x y) n (r_b1 (r_okO n xs ys x y) (m_ac n xs x) xs) (r_b1 (r_okO n xs ys x y) (m_ac n ys y) ys) (r_b1 (r_okO n xs ys x y) (m_ac n hs 0) hs) t tb sg fl) := by rw [e_th, e_xs, e_ys, e_hs]; exact hD
      exact wr_iret hx hb hr hlocks (by first | (simp only [r_b1, r_okO, r_thO, c_1, c_2]; done) | (simp only [r_b1, r_okO, r_thO, c_1, c_2]; rfl) | (simp [r_b1, r_okO, r_thO, c_1, c_2]; done)) hP hK hD hS dX2_would_34
  · refine lv_aload_n hx hb dX2_would_13 rfl (lv_at hl 0 rfl) ?_
    refine lv_iconst (v := 1) hx hb dX2_would_14 (by decide) ?_
    refine wx_cVi (As := [.int 1]) (rest := []) F (c_X2_fail l dC dI cI cZ cY h qx qy qh qt qs rw 0 n xs ys hs t tb sg fl 1 H.size) (cwV 1 hts gX2_would_X2_fail rfl rfl rfl hd_X2_fail ⟨Nat.le_of_ble_eq_true rfl, Nat.le_of_ble_eq_true rfl⟩) hP hK hD hS hA (va_recv hK hP (ci := 2) (q0 := 0) rfl rfl) rfl hl.1 rfl (lv_room (Nat.le_of_ble_eq_true rfl)) dX2_would_15 ⟨Nat.le_of_ble_eq_true rfl, Nat.le_of_ble_eq_true rfl⟩ (fun H locs hP hD hS => ?_)
    have hP : va_P (dC, dI) vwCl (wR cI cZ cY h qx qy qh qt qs rw 1 n xs ys hs t tb sg fl) H := hP
    have hD : va_D A (wR cI cZ cY h qx qy qh qt qs rw 1 n xs ys hs t tb sg fl) := hD
    refine W.widen (k := 22) (n := 350) (by omega) (by omega) ?_
    have e_th : (r_thO n xs ys x y : Int32) = 1 := by first | (simp only [r_b1, r_okO, r_thO, c_1]; done) | (simp only [r_b1, r_okO, r_thO, c_1]; rfl) | (simp [r_b1, r_okO, r_thO, c_1]; done)
    have e_xs : (r_b1 (r_okO n xs ys x y) (m_ac n xs x) xs : Nat → Int32) = xs := by first | (simp only [r_b1, r_okO, r_thO, c_1]; done) | (simp only [r_b1, r_okO, r_thO, c_1]; rfl) | (simp [r_b1, r_okO, r_thO, c_1]; done)
    have e_ys : (r_b1 (r_okO n xs ys x y) (m_ac n ys y) ys : Nat → Int32) = ys := by first | (simp only [r_b1, r_okO, r_thO, c_1]; done) | (simp only [r_b1, r_okO, r_thO, c_1]; rfl) | (simp [r_b1, r_okO, r_thO, c_1]; done)
    have e_hs : (r_b1 (r_okO n xs ys x y) (m_ac n hs 0) hs : Nat → Int32) = hs := by first | (simp only [r_b1, r_okO, r_thO, c_1]; done) | (simp only [r_b1, r_okO, r_thO, c_1]; rfl) | (simp [r_b1, r_okO, r_thO, c_1]; done)
    have hP : va_P (dC, dI) vwCl (wR cI cZ cY h qx qy qh qt qs rw (r_thO n xs ys x y) n (r_b1 (r_okO n xs ys x y) (m_ac n xs x) xs) (r_b1 (r_okO n xs ys x y) (m_ac n ys y) ys) (r_b1 (r_okO n xs ys x y) (m_ac n hs 0) hs) t tb sg fl) H := by rw [e_th, e_xs, e_ys, e_hs]; exact hP
    have hD : va_D A (wR cI cZ cY h qx qy qh qt qs rw (r_thO n xs ys x y) n (r_b1 (r_okO n xs ys x y) (m_ac n xs x) xs) (r_b1 (r_okO n xs ys x y) (m_ac n ys y) ys) (r_b1 (r_okO n xs ys x y) (m_ac n hs 0) hs) t tb sg fl) := by rw [e_th, e_xs, e_ys, e_hs]; exact hD
    exact wr_iret hx hb hr hlocks (by first | (simp only [r_b1, r_okO, r_thO, c_1]; done) | (simp only [r_b1, r_okO, r_thO, c_1]; rfl) | (simp [r_b1, r_okO, r_thO, c_1]; done)) hP hK hD hS dX2_would_18
theorem hd_X2_mean : yX2_mean.cls = RX2 ∧ yX2_mean.cls ≠ "java/lang/invoke/MethodHandle" ∧ yX2_mean.cls ≠ "java/lang/invoke/VarHandle" ∧ (parseMethodDescriptor yX2_mean.desc).map (fun d => d.parameters.length) = some 0 := by decide +kernel
theorem in_X2_mean_X2 : ∀ w ∈ wsX20, w ∈ wsX2_mean := by decide +kernel
theorem fl_X2_mean_35 : (Cond.fieldLink RX2 35 "MoorTrianglesModel" "thrown" "I") ∈ wsX2_mean := by decide +kernel
theorem fl_X2_mean_7 : (Cond.fieldLink RX2 7 "MoorTrianglesModel" "cairns" "I") ∈ wsX2_mean := by decide +kernel
set_option maxHeartbeats 4000000 in
set_option maxRecDepth 100000 in
theorem c_X2_mean (l : Launch) (dC : Nat → ClassId) (dI : Nat → Nat → Nat) (cI cZ cY : ClassId) (h qx qy qh qt qs : Nat) (rw : Nat → Nat) (th : Int32) (n : Nat) (xs ys hs : Nat → Int32) (t : Nat) (tb : Nat → Int32) (sg : Nat → Nat → Int32) (fl : Int32) (sz : Nat) (ht : t ≤ 36) (hn : n ≤ 17) (hn1 : 1 ≤ n) (hFF : ∀ a b, a < n → b < n → r_okF t tb (nI a) (nI b)) : Met l yX2_mean wsX2_mean ({ frames := 7, cells := 0, slots := 0, locals := 167 }) (va_Pc [.ref h] (wrP (dC, dI) (gTY cI cZ cY) (wR cI cZ cY h qx qy qh qt qs rw th n xs ys hs t tb sg fl) sz)) (wrQd (dC, dI) (gTY cI cZ cY) (r_mean n t xs ys tb sg) (wR cI cZ cY h qx qy qh qt qs rw 0 n xs ys hs t tb sg fl) (va_A (wR cI cZ cY h qx qy qh qt qs rw th n xs ys hs t tb sg fl) sz)) 0 0 (va_A (wR cI cZ cY h qx qy qh qt qs rw th n xs ys hs t tb sg fl) sz) := by
  refine wr_start (cc := cX2_mean) (maxL := 1) (ret := (some .double)) (Q0 := wrQd (dC, dI) (gTY cI cZ cY) (r_mean n t xs ys tb sg) (wR cI cZ cY h qx qy qh qt qs rw 0 n xs ys hs t tb sg fl)) RX2 (by decide) rfl rfl (Nat.le_of_ble_eq_true rfl) ?_
  intro p e s m below meth c ⟨hx, hb, hr, hml, hown, hts, hlocks, hin⟩ hP hK A hD hA hS ls hl
  have F : CallFix p m c cX2_mean 1 s ([.ref h] : List Value).toArray wsX2_mean RX2 := ⟨hx, hb, hml, hown, hts⟩
  have hl : lv_has ls 1 [(0, .ref h)] := hl
  refine lv_aload_n hx hb dX2_mean_0 rfl (lv_at hl 0 rfl) ?_
  refine lv_iconst (v := 0) hx hb dX2_mean_1 (by decide) ?_
  refine va_put (D := (dC, dI)) (ci := 2) (v := .int 0) (ty := .int) (C := RX2) (T := TX2) (N := 9) hx hb hts in_X2_mean_X2 tyX2 tyX2_ok nmX2 hown hK hP hD hS 0 rfl rfl 0 (by decide) (hts (.fieldLink RX2 35 "MoorTrianglesModel" "thrown" "I") fl_X2_mean_35) (fun _ h9 => h9) rfl (by decide +kernel) rfl rfl (Nat.le_of_ble_eq_true rfl) dX2_mean_2 (fun H locs hP hD hS => ?_)
  have hP : va_P (dC, dI) vwCl (wR cI cZ cY h qx qy qh qt qs rw 0 n xs ys hs t tb sg fl) H := hP
  have hD : va_D A (wR cI cZ cY h qx qy qh qt qs rw 0 n xs ys hs t tb sg fl) := hD
  refine lv_iconst (v := 2) hx hb dX2_mean_5 (by decide) ?_
  refine lv_aload_n hx hb dX2_mean_6 rfl (lv_at hl 0 rfl) ?_
  refine lv_iconst (v := 0) hx hb dX2_mean_7 (by decide) ?_
  refine rd_cVi (As := [.int 0]) (rest := [.int 2]) F (c_X2_edges l dC dI cI cZ cY h qx qy qh qt qs rw 0 n xs ys hs t tb sg fl 0 ht hn hFF) (cwV 1 hts gX2_mean_X2_edges rfl rfl rfl hd_X2_edges ⟨Nat.le_of_ble_eq_true rfl, Nat.le_of_ble_eq_true rfl⟩) hP hK (va_recv hK hP (ci := 2) (q0 := 0) rfl rfl) rfl hl.1 rfl (lv_room (Nat.le_of_ble_eq_true rfl)) dX2_mean_8 ⟨Nat.zero_le _, Nat.zero_le _⟩ ?_
  refine lv_imul hx hb dX2_mean_11 ?_
  refine lv_i2d hx hb dX2_mean_12 ?_
  refine lv_aload_n hx hb dX2_mean_13 rfl (lv_at hl 0 rfl) ?_
  refine va_get (D := (dC, dI)) (ci := 2) (v := .int (nI n)) (C := RX2) (T := TX2) (N := 9) hx hb hts in_X2_mean_X2 hown hK hP 0 rfl rfl 1 (by decide) (hts (.fieldLink RX2 7 "MoorTrianglesModel" "cairns" "I") fl_X2_mean_7) (fun _ h9 => h9) rfl dX2_mean_14 ?_
  refine lv_i2d hx hb dX2_mean_17 ?_
  refine lv_ddiv hx hb dX2_mean_18 (dv_n64 (rg_sum17 hn (fun k => rg_ct_le _ _)) hn1 hn) ?_
  exact wr_dret hx hb hr hlocks rfl hP hK hD hS dX2_mean_19
