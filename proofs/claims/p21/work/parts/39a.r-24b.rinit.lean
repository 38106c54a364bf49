/-! the reference: its constructor (gen_ri.py) -/
abbrev r_U : Type := Nat × Nat × Nat × Nat × Nat × (Nat → Nat)
def i_rx : Nat → Int32 := (upd (upd (fun _ => 0) (1 : Int32).toNatClampNeg 30) (2 : Int32).toNatClampNeg 30)
def i_ry : Nat → Int32 := (upd (upd (fun _ => 0) (2 : Int32).toNatClampNeg 30) (3 : Int32).toNatClampNeg 30)
def i_rt : Nat → Int32 := r_put 1 (r_put 0 (fun _ => 0) 0 1 2) 0 2 3
