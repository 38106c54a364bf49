/-! the law's own small methods: they catch -/
/-- what a small method answers: 0, or by which row the throw was caught -/
def x_k (ok : Bool) (E c1 : String) : Int32 := if ok = true then 0 else if E = c1 then 1 else 2
theorem x_exBd_c {x y z : Int32} : x_exBd x y z = xIAE ∨ x_exBd x y z = xISE := by
  unfold x_exBd; split
  · split
    · exact Or.inr rfl
    · exact Or.inl rfl
  · exact Or.inl rfl
theorem x_exRs_c {n : Nat} {a : Int32} : x_exRs n a = xIOB ∨ x_exRs n a = xIAE := by
  unfold x_exRs; split
  · exact Or.inr rfl
  · exact Or.inl rfl
theorem x_exFx_c {n : Nat} {a b : Int32} : x_exFx n a b = xIOB ∨ x_exFx n a b = xISE := by
  unfold x_exFx; split
  · split
    · exact Or.inr rfl
    · exact Or.inl rfl
  · exact Or.inl rfl
theorem x_exWd_c {x y : Int32} : x_exWd x y = xIAE ∨ x_exWd x y = xISE := by
  unfold x_exWd; split
  · exact Or.inr rfl
  · exact Or.inl rfl

