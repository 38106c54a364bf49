/-! the law's switch, decoded entry by entry -/
theorem ld_b {α β : Type} {r : Decoder α} {f : α → Decoder β} {bs : ByteArray} {p q : Nat} {v : α} (h : r bs p = .ok (v, q)) : (r >>= f) bs p = f v bs q := by
  show Except.bind (r bs p) (fun z => f z.1 bs z.2) = _
  rw [h]
  rfl
theorem ld_g {bs : ByteArray} {p q k : Nat} {acc : Array Int} {v : Int} (h : (Reader.s4 : Decoder Int) bs p = .ok (v, q)) : (Reader.times.go (Reader.s4 : Decoder Int) (k + 1) acc) bs p = (Reader.times.go (Reader.s4 : Decoder Int) k (acc.push v)) bs q := ld_b h
theorem ld_s40 : (Reader.s4 : Decoder Int) cL_law 40 = .ok (1165, 44) := by decide +kernel
theorem ld_s44 : (Reader.s4 : Decoder Int) cL_law 44 = .ok (0, 48) := by decide +kernel
theorem ld_s48 : (Reader.s4 : Decoder Int) cL_law 48 = .ok (17, 52) := by decide +kernel
theorem ld_s52 : (Reader.s4 : Decoder Int) cL_law 52 = .ok (85, 56) := by decide +kernel
theorem ld_s56 : (Reader.s4 : Decoder Int) cL_law 56 = .ok (165, 60) := by decide +kernel
theorem ld_s60 : (Reader.s4 : Decoder Int) cL_law 60 = .ok (233, 64) := by decide +kernel
theorem ld_s64 : (Reader.s4 : Decoder Int) cL_law 64 = .ok (336, 68) := by decide +kernel
theorem ld_s68 : (Reader.s4 : Decoder Int) cL_law 68 = .ok (404, 72) := by decide +kernel
theorem ld_s72 : (Reader.s4 : Decoder Int) cL_law 72 = .ok (417, 76) := by decide +kernel
theorem ld_s76 : (Reader.s4 : Decoder Int) cL_law 76 = .ok (485, 80) := by decide +kernel
theorem ld_s80 : (Reader.s4 : Decoder Int) cL_law 80 = .ok (553, 84) := by decide +kernel
theorem ld_s84 : (Reader.s4 : Decoder Int) cL_law 84 = .ok (633, 88) := by decide +kernel
theorem ld_s88 : (Reader.s4 : Decoder Int) cL_law 88 = .ok (689, 92) := by decide +kernel
theorem ld_s92 : (Reader.s4 : Decoder Int) cL_law 92 = .ok (757, 96) := by decide +kernel
theorem ld_s96 : (Reader.s4 : Decoder Int) cL_law 96 = .ok (825, 100) := by decide +kernel
theorem ld_s100 : (Reader.s4 : Decoder Int) cL_law 100 = .ok (893, 104) := by decide +kernel
theorem ld_s104 : (Reader.s4 : Decoder Int) cL_law 104 = .ok (961, 108) := by decide +kernel
theorem ld_s108 : (Reader.s4 : Decoder Int) cL_law 108 = .ok (1029, 112) := by decide +kernel
theorem ld_s112 : (Reader.s4 : Decoder Int) cL_law 112 = .ok (1042, 116) := by decide +kernel
theorem ld_s116 : (Reader.s4 : Decoder Int) cL_law 116 = .ok (1110, 120) := by decide +kernel
theorem ld_s120 : (Reader.s4 : Decoder Int) cL_law 120 = .ok (1151, 124) := by decide +kernel
theorem ld_t : (Reader.times 18 (Reader.s4 : Decoder Int)) cL_law 52 = .ok (#[85, 165, 233, 336, 404, 417, 485, 553, 633, 689, 757, 825, 893, 961, 1029, 1042, 1110, 1151], 124) := ((ld_g ld_s52).trans ((ld_g ld_s56).trans ((ld_g ld_s60).trans ((ld_g ld_s64).trans ((ld_g ld_s68).trans ((ld_g ld_s72).trans ((ld_g ld_s76).trans ((ld_g ld_s80).trans ((ld_g ld_s84).trans ((ld_g ld_s88).trans ((ld_g ld_s92).trans ((ld_g ld_s96).trans ((ld_g ld_s100).trans ((ld_g ld_s104).trans ((ld_g ld_s108).trans ((ld_g ld_s112).trans ((ld_g ld_s116).trans ((ld_g ld_s120).trans rfl))))))))))))))))))
theorem ld_o : (Reader.u1 : Decoder Nat) cL_law 39 = .ok (170, 40) := by decide +kernel
theorem ld_p : (Decoder.padding : Decoder Unit) cL_law 40 = .ok ((), 40) := by decide +kernel
theorem ld_w : (Decoder.tableswitch 39) cL_law 40 = .ok (.tableswitch 1165 0 17 #[85, 165, 233, 336, 404, 417, 485, 553, 633, 689, 757, 825, 893, 961, 1029, 1042, 1110, 1151], 124) := by
  unfold Decoder.tableswitch
  refine (ld_b ld_p).trans ?_
  refine (ld_b ld_s40).trans ?_
  refine (ld_b ld_s44).trans ?_
  refine (ld_b ld_s48).trans ?_
  rw [if_pos (show (0 : Int) ≤ 17 by decide)]
  exact (ld_b ld_t).trans rfl
theorem ld_i : (Decoder.instr 39) cL_law 39 = .ok (.tableswitch 1165 0 17 #[85, 165, 233, 336, 404, 417, 485, 553, 633, 689, 757, 825, 893, 961, 1029, 1042, 1110, 1151], 124) := by
  unfold Decoder.instr
  refine (ld_b ld_o).trans ?_
  exact ld_w
theorem dL_law_39 : decode cL_law 39 = .ok (.tableswitch 1165 0 17 #[85, 165, 233, 336, 404, 417, 485, 553, 633, 689, 757, 825, 893, 961, 1029, 1042, 1110, 1151], 85) := by
  unfold decode
  rw [show (Decoder.instr 39).runAt cL_law 39 = .ok (.tableswitch 1165 0 17 #[85, 165, 233, 336, 404, 417, 485, 553, 633, 689, 757, 825, 893, 961, 1029, 1042, 1110, 1151], 124) from ld_i]
  rfl
