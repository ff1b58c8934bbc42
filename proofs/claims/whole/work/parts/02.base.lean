/-! words of the predicates -/
def xt_arr (l : List Int32) : Nat → Value := fun j => .int (l.getD j 0)
def xt_above : List Int32 := [-1, 0, 0, 0, 1, 2, 0]
def xt_places : List Int32 := [125, 25, 5, 1]
def xt_bodies : List Int32 := [10, 11, 12, 13, 20, 0, 0, 21, 0, 30, 0, 0, 0, 0, 40, 0, 50, 0, 51, 0, 0, 60, 0, 0, 70, 71, 0, 0]
def xt_names : List Int32 := [102, 104, 109, 117, 97, 104]
abbrev xF : Type := Nat → Int32
abbrev xA : Type := Nat → Nat → Int32
def xst (G : xA) (k j : Nat) (x : Int32) : xA := va_up G k (upd (G k) j x)
def xsub {α : Type} (f : Nat → α) (o : Nat) : Nat → α := fun k => f (o + k)
def xcat {α : Type} (n : Nat) (f g : Nat → α) : Nat → α := fun k => if k < n then f k else g (k - n)
def xspl {α : Type} (f : Nat → α) (o n : Nat) (g : Nat → α) : Nat → α := fun k => if k < o then f k else if k < o + n then g (k - o) else f k
