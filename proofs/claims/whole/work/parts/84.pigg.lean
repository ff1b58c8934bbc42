section
variable {p : Program} {l : Launch} {e : Env} {s : State} {m : MethodId} {args : Array Value} {below : List Frame} {meth : Method} {c : Code} {D : va_G} {cI cO : ClassId} {A : Nat → Prop} {a : Nat → Nat} {d : Nat}
/-! X6_told -/
abbrev rmX6_told : Room := { frames := 3, cells := 0, slots := 0, locals := 82 }
theorem dsX6_told : xDesc yX6_told 1 := by decide +kernel
theorem uX6_told_f74 : Cond.fieldLink RX6 74 "PigNinths" "errors" "[I" ∈ wsX6_told := nw_in nwl_X6_told nwe_349 (by decide +kernel)
theorem hinX6_told_X6 : ∀ w ∈ wsX60, w ∈ wsX6_told := nw_all nwl_X6_told nwl_X60 (by decide +kernel)
set_option maxHeartbeats 4000000 in
set_option maxRecDepth 100000 in
theorem mX6_told (l : Launch) (D : va_G) (cI cO : ClassId) (a : Nat → Nat)  (x1 : Int32) : MI l yX6_told wsX6_told rmX6_told D (xtys cI cO) [.ref (a 0), .int x1] (w6 cI cO a) (qX6_told x1) := by
  refine MI_of (cc := cX6_told) (maxL := 2) (own := RX6) (by decide) rfl rfl (Nat.le_of_ble_eq_true rfl) ?_
  intro p e s m args below meth c A F G Q h K
  refine x_locals [0, 1] (L' := [(0, .ref (a 0)), (1, .int _)]) rfl ?_
  refine x_iload_n (pc' := 1) K dX6_told_0 1 rfl rfl ?_
  refine x_iconst (pc' := 2) (v := 1) K dX6_told_1 (by decide) rfl ?_
  refine x_bipush (pc' := 4) (v := 6) K dX6_told_2 (by decide) rfl ?_
  refine x_callS (pc' := 7) K (mX6_within l D cI cO a _ _ _) rfl gX6_told_X6_within dsX6_within ⟨rfl, rfl, ⟨Nat.le_of_ble_eq_true rfl, Nat.le_of_ble_eq_true rfl⟩, Nat.le_of_ble_eq_true rfl, Nat.le_of_ble_eq_true rfl⟩ h (st := []) rfl rfl (Nat.le_of_ble_eq_true rfl) dX6_told_4 rfl (fun r4 h => ?_)
  refine x_if_ne (tgt := 16) (pc' := 10) K dX6_told_7 rfl rfl (fun c7 => ?_) (fun c7 => ?_)
  · replace h := h.1 c7
    refine x_aload_n (pc' := 17) K dX6_told_16 0 rfl rfl ?_
    refine xw6_0g_errors (pc' := 20) K hinX6_told_X6 uX6_told_f74 dX6_told_17 rfl ?_
    refine x_iload_n (pc' := 21) K dX6_told_20 1 rfl rfl ?_
    obtain ⟨i21, h⟩ := h
    refine xw6_87l (pc' := 22) K i21 rfl dX6_told_21 rfl ?_
    exact x_iret (wf := w6 cI cO a) K h dX6_told_22
  · replace h := h.2 c7
    refine x_aload_n (pc' := 11) K dX6_told_10 0 rfl rfl ?_
    refine x_iconst (pc' := 12) (v := 1) K dX6_told_11 (by decide) rfl ?_
    refine x_callI (pc' := 15) K (mX6_error l D cI cO a _) rfl gX6_told_X6_error rfl dsX6_error ⟨rfl, rfl, ⟨Nat.le_of_ble_eq_true rfl, Nat.le_of_ble_eq_true rfl⟩, Nat.le_of_ble_eq_true rfl, Nat.le_of_ble_eq_true rfl⟩ h 6 0 rfl rfl (st := []) rfl rfl (Nat.le_of_ble_eq_true rfl) dX6_told_12 rfl (fun r12 F12 G12 h => ?_)
    exact x_iret (wf := w6 cI cO a) K h dX6_told_15
end
