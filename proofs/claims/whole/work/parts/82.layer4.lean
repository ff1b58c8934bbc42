theorem xpermF {bf : Nat → va_W} {ns : List Nat} {w X Y : va_W} (hw : w = ns.flatMap bf) (js is : List Nat) (h : ns.Perm (js ++ is)) (hX : js.flatMap bf = X) (hY : is.flatMap bf = Y) : w.Perm (X ++ Y) := by
  subst hw
  subst hX
  subst hY
  rw [← List.flatMap_append]
  exact h.flatMap_right _
