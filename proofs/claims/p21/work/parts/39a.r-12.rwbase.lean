/-! the reference's writing methods: the grid, and calls on the whole world -/
def r_up (sg : Nat → Nat → Int32) (i : Nat) (f : Nat → Int32) : Nat → Nat → Int32 := fun k => if k = i then f else sg k
/-! models of what it writes -/
def r_let (sg : Nat → Nat → Int32) (a b z : Int32) : Nat → Nat → Int32 := r_up (r_up sg a.toNatClampNeg (upd (sg a.toNatClampNeg) b.toNatClampNeg z)) b.toNatClampNeg (upd (r_up sg a.toNatClampNeg (upd (sg a.toNatClampNeg) b.toNatClampNeg z) b.toNatClampNeg) a.toNatClampNeg z)
/-- a new code goes to its place -/
def r_ins (tb : Nat → Int32) (its : Int32) : Nat → Nat → Int32
  | 0 => upd tb 0 its
  | k + 1 => if tb k ≤ its then upd tb (k + 1) its else r_ins (upd tb (k + 1) (tb k)) its k
def r_put (t : Nat) (tb : Nat → Int32) (a b k : Int32) : Nat → Int32 := r_ins tb (r_code a b k) t
/-- the code at place i goes away; u behind it are left in all -/
def r_take (u i : Nat) (tb : Nat → Int32) : Nat → Int32 := va_cpy tb tb (i + 1) i (u - i)

