section
variable {p : Program} {l : Launch} {e : Env} {s : State} {m : MethodId} {args : Array Value} {below : List Frame} {meth : Method} {c : Code} {D : va_G} {cI cO : ClassId} {A : Nat → Prop} {a : Nat → Nat} {d : Nat}
/-! X7_error -/
abbrev rmX7_error : Room := { frames := 2, cells := 0, slots := 0, locals := 60 }
theorem dsX7_error : xDesc yX7_error 1 := by decide +kernel
theorem uX7_error_f19 : Cond.fieldLink RX7 19 "PigNinthsModel" "errors" "[I" ∈ wsX7_error := nw_in nwl_X7_error nwe_518 (by decide +kernel)
theorem hinX7_error_X7 : ∀ w ∈ wsX70, w ∈ wsX7_error := nw_all nwl_X7_error nwl_X70 (by decide +kernel)
theorem uX7_error_k63 : Jvm.Cond.constant RX7 63 (-1000000000) ∈ wsX7_error := nw_in nwl_X7_error nwe_537 (by decide +kernel)
set_option maxHeartbeats 4000000 in
set_option maxRecDepth 100000 in
theorem mX7_error (l : Launch) (D : va_G) (cI cO : ClassId) (a : Nat → Nat)  (x1 : Int32) : MI l yX7_error wsX7_error rmX7_error D (xtys cI cO) [.ref (a 0), .int x1] (w7 cI a) (qX7_error x1) := by
  refine MI_of (cc := cX7_error) (maxL := 2) (own := RX7) (by decide) rfl rfl (Nat.le_of_ble_eq_true rfl) ?_
  intro p e s m args below meth c A F G Q h K
  refine x_locals [0, 1] (L' := [(0, .ref (a 0)), (1, .int _)]) rfl ?_
  refine x_aload_n (pc' := 1) K dX7_error_0 0 rfl rfl ?_
  refine xw7_0g_errors (pc' := 4) K hinX7_error_X7 uX7_error_f19 dX7_error_1 rfl ?_
  refine x_iload_n (pc' := 5) K dX7_error_4 1 rfl rfl ?_
  refine x_dup2 (pc' := 6) K dX7_error_5 rfl rfl rfl ?_
  obtain ⟨i6, h⟩ := h
  refine xw7_4l (pc' := 7) K i6 rfl dX7_error_6 rfl ?_
  refine x_iconst (pc' := 8) (v := 1) K dX7_error_7 (by decide) rfl ?_
  refine x_iadd (pc' := 9) K dX7_error_8 rfl ?_
  obtain ⟨i9, h⟩ := h
  refine xw7_4s (pc' := 10) K i9 rfl dX7_error_9 rfl (fun G9 eG9 => ?_)
  replace h := h G9 eG9
  refine x_ldc (pc' := 12) K dX7_error_10 uX7_error_k63 rfl ?_
  refine x_iload_n (pc' := 13) K dX7_error_12 1 rfl rfl ?_
  refine x_isub (pc' := 14) K dX7_error_13 rfl ?_
  exact x_iret (wf := w7 cI a) K h dX7_error_14
/-! X7_in -/
abbrev rmX7_in : Room := { frames := 2, cells := 0, slots := 0, locals := 60 }
theorem dsX7_in : xDesc yX7_in 3 := by decide +kernel
set_option maxHeartbeats 4000000 in
set_option maxRecDepth 100000 in
theorem mX7_in (l : Launch) (D : va_G) (cI cO : ClassId) (a : Nat → Nat)  (x0 : Int32) (x1 : Int32) (x2 : Int32) : MS l yX7_in wsX7_in rmX7_in D (xtys cI cO) [.int x0, .int x1, .int x2] (qX7_in x0 x1 x2) := by
  refine MSZ_of (cc := cX7_in) (maxL := 3) (own := RX7) (by decide) rfl rfl (Nat.le_of_ble_eq_true rfl) ?_
  intro p e s m args below meth c A Q h K
  refine x_locals [0, 1, 2] (L' := [(0, .int _), (1, .int _), (2, .int _)]) rfl ?_
  refine x_iload_n (pc' := 1) K dX7_in_0 0 rfl rfl ?_
  refine x_iload_n (pc' := 2) K dX7_in_1 1 rfl rfl ?_
  refine x_icmp_lt (tgt := 14) (pc' := 5) K dX7_in_2 rfl rfl (fun c2 => ?_) (fun c2 => ?_)
  · replace h := h.1 c2
    refine x_iconst (pc' := 15) (v := 0) K dX7_in_14 (by decide) rfl ?_
    exact x_szret K (Or.inl rfl) h dX7_in_15
  · replace h := h.2 c2
    refine x_iload_n (pc' := 6) K dX7_in_5 0 rfl rfl ?_
    refine x_iload_n (pc' := 7) K dX7_in_6 2 rfl rfl ?_
    refine x_icmp_gt (tgt := 14) (pc' := 10) K dX7_in_7 rfl rfl (fun c7 => ?_) (fun c7 => ?_)
    · replace h := h.1 c7
      refine x_iconst (pc' := 15) (v := 0) K dX7_in_14 (by decide) rfl ?_
      exact x_szret K (Or.inl rfl) h dX7_in_15
    · replace h := h.2 c7
      refine x_iconst (pc' := 11) (v := 1) K dX7_in_10 (by decide) rfl ?_
      refine x_goto (tgt := 15) K dX7_in_11 rfl ?_
      exact x_szret K (Or.inr rfl) h dX7_in_15
/-! X7_held -/
abbrev rmX7_held : Room := { frames := 2, cells := 0, slots := 0, locals := 60 }
theorem dsX7_held : xDesc yX7_held 3 := by decide +kernel
set_option maxHeartbeats 4000000 in
set_option maxRecDepth 100000 in
theorem mX7_held (l : Launch) (D : va_G) (cI cO : ClassId) (a : Nat → Nat)  (x0 : Int32) (x1 : Int32) (x2 : Int32) : MS l yX7_held wsX7_held rmX7_held D (xtys cI cO) [.int x0, .int x1, .int x2] (qX7_held x0 x1 x2) := by
  refine MS_of (cc := cX7_held) (maxL := 3) (own := RX7) (by decide) rfl rfl (Nat.le_of_ble_eq_true rfl) ?_
  intro p e s m args below meth c A Q h K
  refine x_locals [0, 1, 2] (L' := [(0, .int _), (1, .int _), (2, .int _)]) rfl ?_
  refine x_iload_n (pc' := 1) K dX7_held_0 0 rfl rfl ?_
  refine x_iload_n (pc' := 2) K dX7_held_1 1 rfl rfl ?_
  refine x_icmp_ge (tgt := 9) (pc' := 5) K dX7_held_2 rfl rfl (fun c2 => ?_) (fun c2 => ?_)
  · replace h := h.1 c2
    refine x_iload_n (pc' := 10) K dX7_held_9 0 rfl rfl ?_
    refine x_iload_n (pc' := 11) K dX7_held_10 2 rfl rfl ?_
    refine x_icmp_le (tgt := 18) (pc' := 14) K dX7_held_11 rfl rfl (fun c11 => ?_) (fun c11 => ?_)
    · replace h := h.1 c11
      refine x_iload_n (pc' := 19) K dX7_held_18 0 rfl rfl ?_
      exact x_siret K h dX7_held_19
    · replace h := h.2 c11
      refine x_iload_n (pc' := 15) K dX7_held_14 2 rfl rfl ?_
      refine x_goto (tgt := 19) K dX7_held_15 rfl ?_
      exact x_siret K h dX7_held_19
  · replace h := h.2 c2
    refine x_iload_n (pc' := 6) K dX7_held_5 1 rfl rfl ?_
    refine x_goto (tgt := 19) K dX7_held_6 rfl ?_
    exact x_siret K h dX7_held_19
/-! X7_carry_1_3 -/
abbrev rmX7_carry_1_3 : Room := { frames := 2, cells := 0, slots := 0, locals := 60 }
theorem dsX7_carry : xDesc yX7_carry 3 := by decide +kernel
set_option maxHeartbeats 4000000 in
set_option maxRecDepth 100000 in
theorem tX7_carry_1_3_2 (K : XK p m c cX7_carry 4 s args wsX7_carry RX7 D (xtys cI cO) A meth none) {Q : xF → xA → Prop} : ∀ (n : Nat), ∀ (x2 : Int32) (x3 : Int32) (F : xF) (G : xA), qX7_carry_1_3_2 Q n x2 x3 F G → XJ p l e rmX7_carry_1_3 s m args below meth c 0 0 (MQ below (xQv D (w7 cI a) A Q) args s 0 0 A) D (xtys cI cO) A 4 (w7 cI a F G) 2 [(0, .ref (a 1)), (1, .ref (a 3)), (2, .int x2), (3, .int x3)] [] := by
  intro n
  induction n with
  | zero =>
    intro x2 x3 F G h
    exact False.elim h
  | succ n ih =>
    intro x2 x3 F G h
    refine x_iload_n (pc' := 3) K dX7_carry_2 3 rfl rfl ?_
    refine x_iload_n (pc' := 4) K dX7_carry_3 2 rfl rfl ?_
    refine x_icmp_ge (tgt := 19) (pc' := 7) K dX7_carry_4 rfl rfl (fun c4 => ?_) (fun c4 => ?_)
    · replace h := h.1 c4
      exact x_vret (wf := w7 cI a) K h dX7_carry_19
    · replace h := h.2 c4
      refine x_aload_n (pc' := 8) K dX7_carry_7 1 rfl rfl ?_
      refine x_iload_n (pc' := 9) K dX7_carry_8 3 rfl rfl ?_
      refine x_aload_n (pc' := 10) K dX7_carry_9 0 rfl rfl ?_
      refine x_iload_n (pc' := 11) K dX7_carry_10 3 rfl rfl ?_
      obtain ⟨i11, h⟩ := h
      refine xw7_1l (pc' := 12) K i11 rfl dX7_carry_11 rfl ?_
      obtain ⟨i12, h⟩ := h
      refine xw7_3s (pc' := 13) K i12 rfl dX7_carry_12 rfl (fun G12 eG12 => ?_)
      replace h := h G12 eG12
      refine x_iinc (pc' := 16) (v := _ + (1 : Int32)) K dX7_carry_13 3 rfl rfl (by decide) [1, 2, 3, 0] (L' := [(0, .ref (a 1)), (1, .ref (a 3)), (2, .int _), (3, .int _)]) rfl rfl ?_
      refine x_goto (tgt := 2) K dX7_carry_16 rfl ?_
      exact ih _ _ _ _ h
set_option maxHeartbeats 4000000 in
set_option maxRecDepth 100000 in
theorem mX7_carry_1_3 (l : Launch) (D : va_G) (cI cO : ClassId) (a : Nat → Nat)  (x2 : Int32) : MV l yX7_carry wsX7_carry rmX7_carry_1_3 D (xtys cI cO) [.ref (a 1), .ref (a 3), .int x2] (w7 cI a) (qX7_carry_1_3 x2) := by
  refine MV_of (cc := cX7_carry) (maxL := 4) (own := RX7) (by decide) rfl rfl (Nat.le_of_ble_eq_true rfl) ?_
  intro p e s m args below meth c A F G Q h K
  refine x_locals [0, 1, 2] (L' := [(0, .ref (a 1)), (1, .ref (a 3)), (2, .int _)]) rfl ?_
  refine x_iconst (pc' := 1) (v := 0) K dX7_carry_0 (by decide) rfl ?_
  refine x_istore_n (pc' := 2) (i := 3) K dX7_carry_1 rfl (by decide) [1, 2, 3, 0] (L' := [(0, .ref (a 1)), (1, .ref (a 3)), (2, .int _), (3, .int _)]) rfl rfl ?_
  obtain ⟨n2, h⟩ := h
  exact tX7_carry_1_3_2 K n2 _ _ _ _ h
/-! X7_carry_3_1 -/
abbrev rmX7_carry_3_1 : Room := { frames := 2, cells := 0, slots := 0, locals := 60 }
set_option maxHeartbeats 4000000 in
set_option maxRecDepth 100000 in
theorem tX7_carry_3_1_2 (K : XK p m c cX7_carry 4 s args wsX7_carry RX7 D (xtys cI cO) A meth none) {Q : xF → xA → Prop} : ∀ (n : Nat), ∀ (x2 : Int32) (x3 : Int32) (F : xF) (G : xA), qX7_carry_3_1_2 Q n x2 x3 F G → XJ p l e rmX7_carry_3_1 s m args below meth c 0 0 (MQ below (xQv D (w7 cI a) A Q) args s 0 0 A) D (xtys cI cO) A 4 (w7 cI a F G) 2 [(0, .ref (a 3)), (1, .ref (a 1)), (2, .int x2), (3, .int x3)] [] := by
  intro n
  induction n with
  | zero =>
    intro x2 x3 F G h
    exact False.elim h
  | succ n ih =>
    intro x2 x3 F G h
    refine x_iload_n (pc' := 3) K dX7_carry_2 3 rfl rfl ?_
    refine x_iload_n (pc' := 4) K dX7_carry_3 2 rfl rfl ?_
    refine x_icmp_ge (tgt := 19) (pc' := 7) K dX7_carry_4 rfl rfl (fun c4 => ?_) (fun c4 => ?_)
    · replace h := h.1 c4
      exact x_vret (wf := w7 cI a) K h dX7_carry_19
    · replace h := h.2 c4
      refine x_aload_n (pc' := 8) K dX7_carry_7 1 rfl rfl ?_
      refine x_iload_n (pc' := 9) K dX7_carry_8 3 rfl rfl ?_
      refine x_aload_n (pc' := 10) K dX7_carry_9 0 rfl rfl ?_
      refine x_iload_n (pc' := 11) K dX7_carry_10 3 rfl rfl ?_
      obtain ⟨i11, h⟩ := h
      refine xw7_3l (pc' := 12) K i11 rfl dX7_carry_11 rfl ?_
      obtain ⟨i12, h⟩ := h
      refine xw7_1s (pc' := 13) K i12 rfl dX7_carry_12 rfl (fun G12 eG12 => ?_)
      replace h := h G12 eG12
      refine x_iinc (pc' := 16) (v := _ + (1 : Int32)) K dX7_carry_13 3 rfl rfl (by decide) [1, 2, 3, 0] (L' := [(0, .ref (a 3)), (1, .ref (a 1)), (2, .int _), (3, .int _)]) rfl rfl ?_
      refine x_goto (tgt := 2) K dX7_carry_16 rfl ?_
      exact ih _ _ _ _ h
set_option maxHeartbeats 4000000 in
set_option maxRecDepth 100000 in
theorem mX7_carry_3_1 (l : Launch) (D : va_G) (cI cO : ClassId) (a : Nat → Nat)  (x2 : Int32) : MV l yX7_carry wsX7_carry rmX7_carry_3_1 D (xtys cI cO) [.ref (a 3), .ref (a 1), .int x2] (w7 cI a) (qX7_carry_3_1 x2) := by
  refine MV_of (cc := cX7_carry) (maxL := 4) (own := RX7) (by decide) rfl rfl (Nat.le_of_ble_eq_true rfl) ?_
  intro p e s m args below meth c A F G Q h K
  refine x_locals [0, 1, 2] (L' := [(0, .ref (a 3)), (1, .ref (a 1)), (2, .int _)]) rfl ?_
  refine x_iconst (pc' := 1) (v := 0) K dX7_carry_0 (by decide) rfl ?_
  refine x_istore_n (pc' := 2) (i := 3) K dX7_carry_1 rfl (by decide) [1, 2, 3, 0] (L' := [(0, .ref (a 3)), (1, .ref (a 1)), (2, .int _), (3, .int _)]) rfl rfl ?_
  obtain ⟨n2, h⟩ := h
  exact tX7_carry_3_1_2 K n2 _ _ _ _ h
/-! X7_carry_1_2 -/
abbrev rmX7_carry_1_2 : Room := { frames := 2, cells := 0, slots := 0, locals := 60 }
set_option maxHeartbeats 4000000 in
set_option maxRecDepth 100000 in
theorem tX7_carry_1_2_2 (K : XK p m c cX7_carry 4 s args wsX7_carry RX7 D (xtys cI cO) A meth none) {Q : xF → xA → Prop} : ∀ (n : Nat), ∀ (x2 : Int32) (x3 : Int32) (F : xF) (G : xA), qX7_carry_1_2_2 Q n x2 x3 F G → XJ p l e rmX7_carry_1_2 s m args below meth c 0 0 (MQ below (xQv D (w7 cI a) A Q) args s 0 0 A) D (xtys cI cO) A 4 (w7 cI a F G) 2 [(0, .ref (a 1)), (1, .ref (a 2)), (2, .int x2), (3, .int x3)] [] := by
  intro n
  induction n with
  | zero =>
    intro x2 x3 F G h
    exact False.elim h
  | succ n ih =>
    intro x2 x3 F G h
    refine x_iload_n (pc' := 3) K dX7_carry_2 3 rfl rfl ?_
    refine x_iload_n (pc' := 4) K dX7_carry_3 2 rfl rfl ?_
    refine x_icmp_ge (tgt := 19) (pc' := 7) K dX7_carry_4 rfl rfl (fun c4 => ?_) (fun c4 => ?_)
    · replace h := h.1 c4
      exact x_vret (wf := w7 cI a) K h dX7_carry_19
    · replace h := h.2 c4
      refine x_aload_n (pc' := 8) K dX7_carry_7 1 rfl rfl ?_
      refine x_iload_n (pc' := 9) K dX7_carry_8 3 rfl rfl ?_
      refine x_aload_n (pc' := 10) K dX7_carry_9 0 rfl rfl ?_
      refine x_iload_n (pc' := 11) K dX7_carry_10 3 rfl rfl ?_
      obtain ⟨i11, h⟩ := h
      refine xw7_1l (pc' := 12) K i11 rfl dX7_carry_11 rfl ?_
      obtain ⟨i12, h⟩ := h
      refine xw7_2s (pc' := 13) K i12 rfl dX7_carry_12 rfl (fun G12 eG12 => ?_)
      replace h := h G12 eG12
      refine x_iinc (pc' := 16) (v := _ + (1 : Int32)) K dX7_carry_13 3 rfl rfl (by decide) [1, 2, 3, 0] (L' := [(0, .ref (a 1)), (1, .ref (a 2)), (2, .int _), (3, .int _)]) rfl rfl ?_
      refine x_goto (tgt := 2) K dX7_carry_16 rfl ?_
      exact ih _ _ _ _ h
set_option maxHeartbeats 4000000 in
set_option maxRecDepth 100000 in
theorem mX7_carry_1_2 (l : Launch) (D : va_G) (cI cO : ClassId) (a : Nat → Nat)  (x2 : Int32) : MV l yX7_carry wsX7_carry rmX7_carry_1_2 D (xtys cI cO) [.ref (a 1), .ref (a 2), .int x2] (w7 cI a) (qX7_carry_1_2 x2) := by
  refine MV_of (cc := cX7_carry) (maxL := 4) (own := RX7) (by decide) rfl rfl (Nat.le_of_ble_eq_true rfl) ?_
  intro p e s m args below meth c A F G Q h K
  refine x_locals [0, 1, 2] (L' := [(0, .ref (a 1)), (1, .ref (a 2)), (2, .int _)]) rfl ?_
  refine x_iconst (pc' := 1) (v := 0) K dX7_carry_0 (by decide) rfl ?_
  refine x_istore_n (pc' := 2) (i := 3) K dX7_carry_1 rfl (by decide) [1, 2, 3, 0] (L' := [(0, .ref (a 1)), (1, .ref (a 2)), (2, .int _), (3, .int _)]) rfl rfl ?_
  obtain ⟨n2, h⟩ := h
  exact tX7_carry_1_2_2 K n2 _ _ _ _ h
/-! X7_carry_2_1 -/
abbrev rmX7_carry_2_1 : Room := { frames := 2, cells := 0, slots := 0, locals := 60 }
set_option maxHeartbeats 4000000 in
set_option maxRecDepth 100000 in
theorem tX7_carry_2_1_2 (K : XK p m c cX7_carry 4 s args wsX7_carry RX7 D (xtys cI cO) A meth none) {Q : xF → xA → Prop} : ∀ (n : Nat), ∀ (x2 : Int32) (x3 : Int32) (F : xF) (G : xA), qX7_carry_2_1_2 Q n x2 x3 F G → XJ p l e rmX7_carry_2_1 s m args below meth c 0 0 (MQ below (xQv D (w7 cI a) A Q) args s 0 0 A) D (xtys cI cO) A 4 (w7 cI a F G) 2 [(0, .ref (a 2)), (1, .ref (a 1)), (2, .int x2), (3, .int x3)] [] := by
  intro n
  induction n with
  | zero =>
    intro x2 x3 F G h
    exact False.elim h
  | succ n ih =>
    intro x2 x3 F G h
    refine x_iload_n (pc' := 3) K dX7_carry_2 3 rfl rfl ?_
    refine x_iload_n (pc' := 4) K dX7_carry_3 2 rfl rfl ?_
    refine x_icmp_ge (tgt := 19) (pc' := 7) K dX7_carry_4 rfl rfl (fun c4 => ?_) (fun c4 => ?_)
    · replace h := h.1 c4
      exact x_vret (wf := w7 cI a) K h dX7_carry_19
    · replace h := h.2 c4
      refine x_aload_n (pc' := 8) K dX7_carry_7 1 rfl rfl ?_
      refine x_iload_n (pc' := 9) K dX7_carry_8 3 rfl rfl ?_
      refine x_aload_n (pc' := 10) K dX7_carry_9 0 rfl rfl ?_
      refine x_iload_n (pc' := 11) K dX7_carry_10 3 rfl rfl ?_
      obtain ⟨i11, h⟩ := h
      refine xw7_2l (pc' := 12) K i11 rfl dX7_carry_11 rfl ?_
      obtain ⟨i12, h⟩ := h
      refine xw7_1s (pc' := 13) K i12 rfl dX7_carry_12 rfl (fun G12 eG12 => ?_)
      replace h := h G12 eG12
      refine x_iinc (pc' := 16) (v := _ + (1 : Int32)) K dX7_carry_13 3 rfl rfl (by decide) [1, 2, 3, 0] (L' := [(0, .ref (a 2)), (1, .ref (a 1)), (2, .int _), (3, .int _)]) rfl rfl ?_
      refine x_goto (tgt := 2) K dX7_carry_16 rfl ?_
      exact ih _ _ _ _ h
set_option maxHeartbeats 4000000 in
set_option maxRecDepth 100000 in
theorem mX7_carry_2_1 (l : Launch) (D : va_G) (cI cO : ClassId) (a : Nat → Nat)  (x2 : Int32) : MV l yX7_carry wsX7_carry rmX7_carry_2_1 D (xtys cI cO) [.ref (a 2), .ref (a 1), .int x2] (w7 cI a) (qX7_carry_2_1 x2) := by
  refine MV_of (cc := cX7_carry) (maxL := 4) (own := RX7) (by decide) rfl rfl (Nat.le_of_ble_eq_true rfl) ?_
  intro p e s m args below meth c A F G Q h K
  refine x_locals [0, 1, 2] (L' := [(0, .ref (a 2)), (1, .ref (a 1)), (2, .int _)]) rfl ?_
  refine x_iconst (pc' := 1) (v := 0) K dX7_carry_0 (by decide) rfl ?_
  refine x_istore_n (pc' := 2) (i := 3) K dX7_carry_1 rfl (by decide) [1, 2, 3, 0] (L' := [(0, .ref (a 2)), (1, .ref (a 1)), (2, .int _), (3, .int _)]) rfl rfl ?_
  obtain ⟨n2, h⟩ := h
  exact tX7_carry_2_1_2 K n2 _ _ _ _ h
/-! X7_layDown -/
abbrev rmX7_layDown : Room := { frames := 3, cells := 0, slots := 0, locals := 83 }
theorem dsX7_layDown : xDesc yX7_layDown 0 := by decide +kernel
theorem uX7_layDown_f7 : Cond.fieldLink RX7 7 "PigNinthsModel" "s" "[I" ∈ wsX7_layDown := nw_in nwl_X7_layDown nwe_514 (by decide +kernel)
theorem hinX7_layDown_X7 : ∀ w ∈ wsX70, w ∈ wsX7_layDown := nw_all nwl_X7_layDown nwl_X70 (by decide +kernel)
theorem uX7_layDown_f16 : Cond.fieldLink RX7 16 "PigNinthsModel" "put" "[I" ∈ wsX7_layDown := nw_in nwl_X7_layDown nwe_517 (by decide +kernel)
set_option maxHeartbeats 4000000 in
set_option maxRecDepth 100000 in
theorem mX7_layDown (l : Launch) (D : va_G) (cI cO : ClassId) (a : Nat → Nat)   : MV l yX7_layDown wsX7_layDown rmX7_layDown D (xtys cI cO) [.ref (a 0)] (w7 cI a) qX7_layDown := by
  refine MV_of (cc := cX7_layDown) (maxL := 1) (own := RX7) (by decide) rfl rfl (Nat.le_of_ble_eq_true rfl) ?_
  intro p e s m args below meth c A F G Q h K
  refine x_locals [0] (L' := [(0, .ref (a 0))]) rfl ?_
  refine x_aload_n (pc' := 1) K dX7_layDown_0 0 rfl rfl ?_
  refine xw7_0g_s (pc' := 4) K hinX7_layDown_X7 uX7_layDown_f7 dX7_layDown_1 rfl ?_
  refine x_aload_n (pc' := 5) K dX7_layDown_4 0 rfl rfl ?_
  refine xw7_0g_put (pc' := 8) K hinX7_layDown_X7 uX7_layDown_f16 dX7_layDown_5 rfl ?_
  refine x_bipush (pc' := 10) (v := 121) K dX7_layDown_8 (by decide) rfl ?_
  refine x_callVS (pc' := 13) K (mX7_carry_1_3 l D cI cO a _) rfl gX7_layDown_X7_carry dsX7_carry ⟨rfl, rfl, ⟨Nat.le_of_ble_eq_true rfl, Nat.le_of_ble_eq_true rfl⟩, Nat.le_of_ble_eq_true rfl, Nat.le_of_ble_eq_true rfl⟩ h (st := []) rfl rfl (Nat.le_of_ble_eq_true rfl) dX7_layDown_10 rfl (fun F10 G10 h => ?_)
  exact x_vret (wf := w7 cI a) K h dX7_layDown_13
/-! X7_layBack -/
abbrev rmX7_layBack : Room := { frames := 3, cells := 0, slots := 0, locals := 83 }
theorem dsX7_layBack : xDesc yX7_layBack 0 := by decide +kernel
theorem uX7_layBack_f16 : Cond.fieldLink RX7 16 "PigNinthsModel" "put" "[I" ∈ wsX7_layBack := nw_in nwl_X7_layBack nwe_517 (by decide +kernel)
theorem hinX7_layBack_X7 : ∀ w ∈ wsX70, w ∈ wsX7_layBack := nw_all nwl_X7_layBack nwl_X70 (by decide +kernel)
theorem uX7_layBack_f7 : Cond.fieldLink RX7 7 "PigNinthsModel" "s" "[I" ∈ wsX7_layBack := nw_in nwl_X7_layBack nwe_514 (by decide +kernel)
set_option maxHeartbeats 4000000 in
set_option maxRecDepth 100000 in
theorem mX7_layBack (l : Launch) (D : va_G) (cI cO : ClassId) (a : Nat → Nat)   : MV l yX7_layBack wsX7_layBack rmX7_layBack D (xtys cI cO) [.ref (a 0)] (w7 cI a) qX7_layBack := by
  refine MV_of (cc := cX7_layBack) (maxL := 1) (own := RX7) (by decide) rfl rfl (Nat.le_of_ble_eq_true rfl) ?_
  intro p e s m args below meth c A F G Q h K
  refine x_locals [0] (L' := [(0, .ref (a 0))]) rfl ?_
  refine x_aload_n (pc' := 1) K dX7_layBack_0 0 rfl rfl ?_
  refine xw7_0g_put (pc' := 4) K hinX7_layBack_X7 uX7_layBack_f16 dX7_layBack_1 rfl ?_
  refine x_aload_n (pc' := 5) K dX7_layBack_4 0 rfl rfl ?_
  refine xw7_0g_s (pc' := 8) K hinX7_layBack_X7 uX7_layBack_f7 dX7_layBack_5 rfl ?_
  refine x_bipush (pc' := 10) (v := 121) K dX7_layBack_8 (by decide) rfl ?_
  refine x_callVS (pc' := 13) K (mX7_carry_3_1 l D cI cO a _) rfl gX7_layBack_X7_carry dsX7_carry ⟨rfl, rfl, ⟨Nat.le_of_ble_eq_true rfl, Nat.le_of_ble_eq_true rfl⟩, Nat.le_of_ble_eq_true rfl, Nat.le_of_ble_eq_true rfl⟩ h (st := []) rfl rfl (Nat.le_of_ble_eq_true rfl) dX7_layBack_10 rfl (fun F10 G10 h => ?_)
  exact x_vret (wf := w7 cI a) K h dX7_layBack_13
/-! X7_isOak -/
abbrev rmX7_isOak : Room := { frames := 3, cells := 0, slots := 0, locals := 82 }
theorem dsX7_isOak : xDesc yX7_isOak 1 := by decide +kernel
set_option maxHeartbeats 4000000 in
set_option maxRecDepth 100000 in
theorem mX7_isOak (l : Launch) (D : va_G) (cI cO : ClassId) (a : Nat → Nat)  (x0 : Int32) : MS l yX7_isOak wsX7_isOak rmX7_isOak D (xtys cI cO) [.int x0] (qX7_isOak x0) := by
  refine MSZ_of (cc := cX7_isOak) (maxL := 1) (own := RX7) (by decide) rfl rfl (Nat.le_of_ble_eq_true rfl) ?_
  intro p e s m args below meth c A Q h K
  refine x_locals [0] (L' := [(0, .int _)]) rfl ?_
  refine x_iload_n (pc' := 1) K dX7_isOak_0 0 rfl rfl ?_
  refine x_iconst (pc' := 2) (v := 0) K dX7_isOak_1 (by decide) rfl ?_
  refine x_bipush (pc' := 4) (v := 15) K dX7_isOak_2 (by decide) rfl ?_
  refine x_callS (pc' := 7) K (mX7_in l D cI cO a _ _ _) rfl gX7_isOak_X7_in dsX7_in ⟨rfl, rfl, ⟨Nat.le_of_ble_eq_true rfl, Nat.le_of_ble_eq_true rfl⟩, Nat.le_of_ble_eq_true rfl, Nat.le_of_ble_eq_true rfl⟩ h (st := []) rfl rfl (Nat.le_of_ble_eq_true rfl) dX7_isOak_4 rfl (fun r4 h => ?_)
  obtain ⟨z7, h⟩ := h
  exact x_szret K z7 h dX7_isOak_7
/-! X7_isFarmer -/
abbrev rmX7_isFarmer : Room := { frames := 3, cells := 0, slots := 0, locals := 82 }
theorem dsX7_isFarmer : xDesc yX7_isFarmer 1 := by decide +kernel
set_option maxHeartbeats 4000000 in
set_option maxRecDepth 100000 in
theorem mX7_isFarmer (l : Launch) (D : va_G) (cI cO : ClassId) (a : Nat → Nat)  (x0 : Int32) : MS l yX7_isFarmer wsX7_isFarmer rmX7_isFarmer D (xtys cI cO) [.int x0] (qX7_isFarmer x0) := by
  refine MSZ_of (cc := cX7_isFarmer) (maxL := 1) (own := RX7) (by decide) rfl rfl (Nat.le_of_ble_eq_true rfl) ?_
  intro p e s m args below meth c A Q h K
  refine x_locals [0] (L' := [(0, .int _)]) rfl ?_
  refine x_iload_n (pc' := 1) K dX7_isFarmer_0 0 rfl rfl ?_
  refine x_iconst (pc' := 2) (v := 0) K dX7_isFarmer_1 (by decide) rfl ?_
  refine x_bipush (pc' := 4) (v := 8) K dX7_isFarmer_2 (by decide) rfl ?_
  refine x_callS (pc' := 7) K (mX7_in l D cI cO a _ _ _) rfl gX7_isFarmer_X7_in dsX7_in ⟨rfl, rfl, ⟨Nat.le_of_ble_eq_true rfl, Nat.le_of_ble_eq_true rfl⟩, Nat.le_of_ble_eq_true rfl, Nat.le_of_ble_eq_true rfl⟩ h (st := []) rfl rfl (Nat.le_of_ble_eq_true rfl) dX7_isFarmer_4 rfl (fun r4 h => ?_)
  obtain ⟨z7, h⟩ := h
  exact x_szret K z7 h dX7_isFarmer_7
/-! X7_its -/
abbrev rmX7_its : Room := { frames := 2, cells := 0, slots := 0, locals := 60 }
theorem dsX7_its : xDesc yX7_its 2 := by decide +kernel
theorem uX7_its_f7 : Cond.fieldLink RX7 7 "PigNinthsModel" "s" "[I" ∈ wsX7_its := nw_in nwl_X7_its nwe_514 (by decide +kernel)
theorem hinX7_its_X7 : ∀ w ∈ wsX70, w ∈ wsX7_its := nw_all nwl_X7_its nwl_X70 (by decide +kernel)
set_option maxHeartbeats 4000000 in
set_option maxRecDepth 100000 in
theorem mX7_its (l : Launch) (D : va_G) (cI cO : ClassId) (a : Nat → Nat)  (x1 : Int32) (x2 : Int32) : MI l yX7_its wsX7_its rmX7_its D (xtys cI cO) [.ref (a 0), .int x1, .int x2] (w7 cI a) (qX7_its x1 x2) := by
  refine MI_of (cc := cX7_its) (maxL := 3) (own := RX7) (by decide) rfl rfl (Nat.le_of_ble_eq_true rfl) ?_
  intro p e s m args below meth c A F G Q h K
  refine x_locals [0, 1, 2] (L' := [(0, .ref (a 0)), (1, .int _), (2, .int _)]) rfl ?_
  refine x_aload_n (pc' := 1) K dX7_its_0 0 rfl rfl ?_
  refine xw7_0g_s (pc' := 4) K hinX7_its_X7 uX7_its_f7 dX7_its_1 rfl ?_
  refine x_bipush (pc' := 6) (v := 40) K dX7_its_4 (by decide) rfl ?_
  refine x_bipush (pc' := 8) (v := 9) K dX7_its_6 (by decide) rfl ?_
  refine x_iload_n (pc' := 9) K dX7_its_8 1 rfl rfl ?_
  refine x_imul (pc' := 10) K dX7_its_9 rfl ?_
  refine x_iadd (pc' := 11) K dX7_its_10 rfl ?_
  refine x_iload_n (pc' := 12) K dX7_its_11 2 rfl rfl ?_
  refine x_iadd (pc' := 13) K dX7_its_12 rfl ?_
  obtain ⟨i13, h⟩ := h
  refine xw7_1l (pc' := 14) K i13 rfl dX7_its_13 rfl ?_
  exact x_iret (wf := w7 cI a) K h dX7_its_14
/-! X7_lays1 -/
abbrev rmX7_lays1 : Room := { frames := 2, cells := 0, slots := 0, locals := 60 }
theorem dsX7_lays1 : xDesc yX7_lays1 3 := by decide +kernel
theorem uX7_lays1_f7 : Cond.fieldLink RX7 7 "PigNinthsModel" "s" "[I" ∈ wsX7_lays1 := nw_in nwl_X7_lays1 nwe_514 (by decide +kernel)
theorem hinX7_lays1_X7 : ∀ w ∈ wsX70, w ∈ wsX7_lays1 := nw_all nwl_X7_lays1 nwl_X70 (by decide +kernel)
set_option maxHeartbeats 4000000 in
set_option maxRecDepth 100000 in
theorem mX7_lays1 (l : Launch) (D : va_G) (cI cO : ClassId) (a : Nat → Nat)  (x1 : Int32) (x2 : Int32) (x3 : Int32) : MV l yX7_lays1 wsX7_lays1 rmX7_lays1 D (xtys cI cO) [.ref (a 0), .int x1, .int x2, .int x3] (w7 cI a) (qX7_lays1 x1 x2 x3) := by
  refine MV_of (cc := cX7_lays1) (maxL := 4) (own := RX7) (by decide) rfl rfl (Nat.le_of_ble_eq_true rfl) ?_
  intro p e s m args below meth c A F G Q h K
  refine x_locals [0, 1, 2, 3] (L' := [(0, .ref (a 0)), (1, .int _), (2, .int _), (3, .int _)]) rfl ?_
  refine x_aload_n (pc' := 1) K dX7_lays1_0 0 rfl rfl ?_
  refine xw7_0g_s (pc' := 4) K hinX7_lays1_X7 uX7_lays1_f7 dX7_lays1_1 rfl ?_
  refine x_bipush (pc' := 6) (v := 40) K dX7_lays1_4 (by decide) rfl ?_
  refine x_bipush (pc' := 8) (v := 9) K dX7_lays1_6 (by decide) rfl ?_
  refine x_iload_n (pc' := 9) K dX7_lays1_8 1 rfl rfl ?_
  refine x_imul (pc' := 10) K dX7_lays1_9 rfl ?_
  refine x_iadd (pc' := 11) K dX7_lays1_10 rfl ?_
  refine x_iload_n (pc' := 12) K dX7_lays1_11 2 rfl rfl ?_
  refine x_iadd (pc' := 13) K dX7_lays1_12 rfl ?_
  refine x_iload_n (pc' := 14) K dX7_lays1_13 3 rfl rfl ?_
  obtain ⟨i14, h⟩ := h
  refine xw7_1s (pc' := 15) K i14 rfl dX7_lays1_14 rfl (fun G14 eG14 => ?_)
  replace h := h G14 eG14
  exact x_vret (wf := w7 cI a) K h dX7_lays1_15
/-! X7_change1 -/
abbrev rmX7_change1 : Room := { frames := 2, cells := 0, slots := 0, locals := 60 }
theorem dsX7_change1 : xDesc yX7_change1 2 := by decide +kernel
theorem uX7_change1_f7 : Cond.fieldLink RX7 7 "PigNinthsModel" "s" "[I" ∈ wsX7_change1 := nw_in nwl_X7_change1 nwe_514 (by decide +kernel)
theorem hinX7_change1_X7 : ∀ w ∈ wsX70, w ∈ wsX7_change1 := nw_all nwl_X7_change1 nwl_X70 (by decide +kernel)
set_option maxHeartbeats 4000000 in
set_option maxRecDepth 100000 in
theorem mX7_change1 (l : Launch) (D : va_G) (cI cO : ClassId) (a : Nat → Nat)  (x1 : Int32) (x2 : Int32) : MI l yX7_change1 wsX7_change1 rmX7_change1 D (xtys cI cO) [.ref (a 0), .int x1, .int x2] (w7 cI a) (qX7_change1 x1 x2) := by
  refine MI_of (cc := cX7_change1) (maxL := 4) (own := RX7) (by decide) rfl rfl (Nat.le_of_ble_eq_true rfl) ?_
  intro p e s m args below meth c A F G Q h K
  refine x_locals [0, 1, 2] (L' := [(0, .ref (a 0)), (1, .int _), (2, .int _)]) rfl ?_
  refine x_aload_n (pc' := 1) K dX7_change1_0 0 rfl rfl ?_
  refine xw7_0g_s (pc' := 4) K hinX7_change1_X7 uX7_change1_f7 dX7_change1_1 rfl ?_
  refine x_iload_n (pc' := 5) K dX7_change1_4 1 rfl rfl ?_
  obtain ⟨i5, h⟩ := h
  refine xw7_1l (pc' := 6) K i5 rfl dX7_change1_5 rfl ?_
  refine x_istore_n (pc' := 7) (i := 3) K dX7_change1_6 rfl (by decide) [1, 2, 3, 0] (L' := [(0, .ref (a 0)), (1, .int _), (2, .int _), (3, .int _)]) rfl rfl ?_
  refine x_aload_n (pc' := 8) K dX7_change1_7 0 rfl rfl ?_
  refine xw7_0g_s (pc' := 11) K hinX7_change1_X7 uX7_change1_f7 dX7_change1_8 rfl ?_
  refine x_iload_n (pc' := 12) K dX7_change1_11 1 rfl rfl ?_
  refine x_iload_n (pc' := 13) K dX7_change1_12 2 rfl rfl ?_
  obtain ⟨i13, h⟩ := h
  refine xw7_1s (pc' := 14) K i13 rfl dX7_change1_13 rfl (fun G13 eG13 => ?_)
  replace h := h G13 eG13
  refine x_iload_n (pc' := 15) K dX7_change1_14 3 rfl rfl ?_
  exact x_iret (wf := w7 cI a) K h dX7_change1_15
/-! X7_allOf -/
abbrev rmX7_allOf : Room := { frames := 3, cells := 0, slots := 0, locals := 82 }
theorem dsX7_allOf : xDesc yX7_allOf 1 := by decide +kernel
set_option maxHeartbeats 4000000 in
set_option maxRecDepth 100000 in
theorem tX7_allOf_4 (K : XK p m c cX7_allOf 4 s args wsX7_allOf RX7 D (xtys cI cO) A meth (some .int)) {Q : Int32 → xF → xA → Prop} : ∀ (n : Nat), ∀ (x1 : Int32) (x2 : Int32) (x3 : Int32) (F : xF) (G : xA), qX7_allOf_4 Q n x1 x2 x3 F G → XJ p l e rmX7_allOf s m args below meth c 0 0 (MQ below (xQi D (w7 cI a) A Q) args s 0 0 A) D (xtys cI cO) A 4 (w7 cI a F G) 4 [(0, .ref (a 0)), (1, .int x1), (2, .int x2), (3, .int x3)] [] := by
  intro n
  induction n with
  | zero =>
    intro x1 x2 x3 F G h
    exact False.elim h
  | succ n ih =>
    intro x1 x2 x3 F G h
    refine x_iload_n (pc' := 5) K dX7_allOf_4 3 rfl rfl ?_
    refine x_bipush (pc' := 7) (v := 9) K dX7_allOf_5 (by decide) rfl ?_
    refine x_icmp_ge (tgt := 25) (pc' := 10) K dX7_allOf_7 rfl rfl (fun c7 => ?_) (fun c7 => ?_)
    · replace h := h.1 c7
      refine x_iload_n (pc' := 26) K dX7_allOf_25 2 rfl rfl ?_
      exact x_iret (wf := w7 cI a) K h dX7_allOf_26
    · replace h := h.2 c7
      refine x_iload_n (pc' := 11) K dX7_allOf_10 2 rfl rfl ?_
      refine x_aload_n (pc' := 12) K dX7_allOf_11 0 rfl rfl ?_
      refine x_iload_n (pc' := 13) K dX7_allOf_12 3 rfl rfl ?_
      refine x_iload_n (pc' := 14) K dX7_allOf_13 1 rfl rfl ?_
      refine x_callI (pc' := 17) K (mX7_its l D cI cO a _ _) rfl gX7_allOf_X7_its rfl dsX7_its ⟨rfl, rfl, ⟨Nat.le_of_ble_eq_true rfl, Nat.le_of_ble_eq_true rfl⟩, Nat.le_of_ble_eq_true rfl, Nat.le_of_ble_eq_true rfl⟩ h 7 0 rfl rfl (st := [.int _]) rfl rfl (Nat.le_of_ble_eq_true rfl) dX7_allOf_14 rfl (fun r14 F14 G14 h => ?_)
      refine x_iadd (pc' := 18) K dX7_allOf_17 rfl ?_
      refine x_istore_n (pc' := 19) (i := 2) K dX7_allOf_18 rfl (by decide) [1, 2, 0, 3] (L' := [(0, .ref (a 0)), (1, .int _), (2, .int _), (3, .int _)]) rfl rfl ?_
      refine x_iinc (pc' := 22) (v := _ + (1 : Int32)) K dX7_allOf_19 3 rfl rfl (by decide) [1, 2, 3, 0] (L' := [(0, .ref (a 0)), (1, .int _), (2, .int _), (3, .int _)]) rfl rfl ?_
      refine x_goto (tgt := 4) K dX7_allOf_22 rfl ?_
      exact ih _ _ _ _ _ h
set_option maxHeartbeats 4000000 in
set_option maxRecDepth 100000 in
theorem mX7_allOf (l : Launch) (D : va_G) (cI cO : ClassId) (a : Nat → Nat)  (x1 : Int32) : MI l yX7_allOf wsX7_allOf rmX7_allOf D (xtys cI cO) [.ref (a 0), .int x1] (w7 cI a) (qX7_allOf x1) := by
  refine MI_of (cc := cX7_allOf) (maxL := 4) (own := RX7) (by decide) rfl rfl (Nat.le_of_ble_eq_true rfl) ?_
  intro p e s m args below meth c A F G Q h K
  refine x_locals [0, 1] (L' := [(0, .ref (a 0)), (1, .int _)]) rfl ?_
  refine x_iconst (pc' := 1) (v := 0) K dX7_allOf_0 (by decide) rfl ?_
  refine x_istore_n (pc' := 2) (i := 2) K dX7_allOf_1 rfl (by decide) [1, 2, 0] (L' := [(0, .ref (a 0)), (1, .int _), (2, .int _)]) rfl rfl ?_
  refine x_iconst (pc' := 3) (v := 0) K dX7_allOf_2 (by decide) rfl ?_
  refine x_istore_n (pc' := 4) (i := 3) K dX7_allOf_3 rfl (by decide) [1, 2, 3, 0] (L' := [(0, .ref (a 0)), (1, .int _), (2, .int _), (3, .int _)]) rfl rfl ?_
  obtain ⟨n4, h⟩ := h
  exact tX7_allOf_4 K n4 _ _ _ _ _ h
/-! X7_allUnder -/
abbrev rmX7_allUnder : Room := { frames := 2, cells := 0, slots := 0, locals := 60 }
theorem dsX7_allUnder : xDesc yX7_allUnder 0 := by decide +kernel
theorem uX7_allUnder_f7 : Cond.fieldLink RX7 7 "PigNinthsModel" "s" "[I" ∈ wsX7_allUnder := nw_in nwl_X7_allUnder nwe_514 (by decide +kernel)
theorem hinX7_allUnder_X7 : ∀ w ∈ wsX70, w ∈ wsX7_allUnder := nw_all nwl_X7_allUnder nwl_X70 (by decide +kernel)
set_option maxHeartbeats 4000000 in
set_option maxRecDepth 100000 in
theorem tX7_allUnder_4 (K : XK p m c cX7_allUnder 3 s args wsX7_allUnder RX7 D (xtys cI cO) A meth (some .int)) {Q : Int32 → xF → xA → Prop} : ∀ (n : Nat), ∀ (x1 : Int32) (x2 : Int32) (F : xF) (G : xA), qX7_allUnder_4 Q n x1 x2 F G → XJ p l e rmX7_allUnder s m args below meth c 0 0 (MQ below (xQi D (w7 cI a) A Q) args s 0 0 A) D (xtys cI cO) A 3 (w7 cI a F G) 4 [(0, .ref (a 0)), (1, .int x1), (2, .int x2)] [] := by
  intro n
  induction n with
  | zero =>
    intro x1 x2 F G h
    exact False.elim h
  | succ n ih =>
    intro x1 x2 F G h
    refine x_iload_n (pc' := 5) K dX7_allUnder_4 2 rfl rfl ?_
    refine x_bipush (pc' := 7) (v := 16) K dX7_allUnder_5 (by decide) rfl ?_
    refine x_icmp_ge (tgt := 28) (pc' := 10) K dX7_allUnder_7 rfl rfl (fun c7 => ?_) (fun c7 => ?_)
    · replace h := h.1 c7
      refine x_iload_n (pc' := 29) K dX7_allUnder_28 1 rfl rfl ?_
      exact x_iret (wf := w7 cI a) K h dX7_allUnder_29
    · replace h := h.2 c7
      refine x_iload_n (pc' := 11) K dX7_allUnder_10 1 rfl rfl ?_
      refine x_aload_n (pc' := 12) K dX7_allUnder_11 0 rfl rfl ?_
      refine xw7_0g_s (pc' := 15) K hinX7_allUnder_X7 uX7_allUnder_f7 dX7_allUnder_12 rfl ?_
      refine x_bipush (pc' := 17) (v := 24) K dX7_allUnder_15 (by decide) rfl ?_
      refine x_iload_n (pc' := 18) K dX7_allUnder_17 2 rfl rfl ?_
      refine x_iadd (pc' := 19) K dX7_allUnder_18 rfl ?_
      obtain ⟨i19, h⟩ := h
      refine xw7_1l (pc' := 20) K i19 rfl dX7_allUnder_19 rfl ?_
      refine x_iadd (pc' := 21) K dX7_allUnder_20 rfl ?_
      refine x_istore_n (pc' := 22) (i := 1) K dX7_allUnder_21 rfl (by decide) [1, 0, 2] (L' := [(0, .ref (a 0)), (1, .int _), (2, .int _)]) rfl rfl ?_
      refine x_iinc (pc' := 25) (v := _ + (1 : Int32)) K dX7_allUnder_22 2 rfl rfl (by decide) [1, 2, 0] (L' := [(0, .ref (a 0)), (1, .int _), (2, .int _)]) rfl rfl ?_
      refine x_goto (tgt := 4) K dX7_allUnder_25 rfl ?_
      exact ih _ _ _ _ h
set_option maxHeartbeats 4000000 in
set_option maxRecDepth 100000 in
theorem mX7_allUnder (l : Launch) (D : va_G) (cI cO : ClassId) (a : Nat → Nat)   : MI l yX7_allUnder wsX7_allUnder rmX7_allUnder D (xtys cI cO) [.ref (a 0)] (w7 cI a) qX7_allUnder := by
  refine MI_of (cc := cX7_allUnder) (maxL := 3) (own := RX7) (by decide) rfl rfl (Nat.le_of_ble_eq_true rfl) ?_
  intro p e s m args below meth c A F G Q h K
  refine x_locals [0] (L' := [(0, .ref (a 0))]) rfl ?_
  refine x_iconst (pc' := 1) (v := 0) K dX7_allUnder_0 (by decide) rfl ?_
  refine x_istore_n (pc' := 2) (i := 1) K dX7_allUnder_1 rfl (by decide) [1, 0] (L' := [(0, .ref (a 0)), (1, .int _)]) rfl rfl ?_
  refine x_iconst (pc' := 3) (v := 0) K dX7_allUnder_2 (by decide) rfl ?_
  refine x_istore_n (pc' := 4) (i := 2) K dX7_allUnder_3 rfl (by decide) [1, 2, 0] (L' := [(0, .ref (a 0)), (1, .int _), (2, .int _)]) rfl rfl ?_
  obtain ⟨n4, h⟩ := h
  exact tX7_allUnder_4 K n4 _ _ _ _ h
/-! X7_feed -/
abbrev rmX7_feed : Room := { frames := 3, cells := 0, slots := 0, locals := 82 }
theorem dsX7_feed : xDesc yX7_feed 2 := by decide +kernel
theorem uX7_feed_f7 : Cond.fieldLink RX7 7 "PigNinthsModel" "s" "[I" ∈ wsX7_feed := nw_in nwl_X7_feed nwe_514 (by decide +kernel)
theorem hinX7_feed_X7 : ∀ w ∈ wsX70, w ∈ wsX7_feed := nw_all nwl_X7_feed nwl_X70 (by decide +kernel)
theorem uX7_feed_k80 : Jvm.Cond.constantLong RX7 80 (255) ∈ wsX7_feed := nw_in nwl_X7_feed nwe_557 (by decide +kernel)
set_option maxHeartbeats 4000000 in
set_option maxRecDepth 100000 in
theorem tX7_feed_38 (K : XK p m c cX7_feed 5 s args wsX7_feed RX7 D (xtys cI cO) A meth (some .int)) {Q : Int32 → xF → xA → Prop} : ∀ (n : Nat), ∀ (x1 : Int64) (x3 : Int32) (x4 : Int32) (F : xF) (G : xA), qX7_feed_38 Q n x1 x3 x4 F G → XJ p l e rmX7_feed s m args below meth c 0 0 (MQ below (xQi D (w7 cI a) A Q) args s 0 0 A) D (xtys cI cO) A 5 (w7 cI a F G) 38 [(0, .ref (a 0)), (1, .long x1), (3, .int x3), (4, .int x4)] [] := by
  intro n
  induction n with
  | zero =>
    intro x1 x3 x4 F G h
    exact False.elim h
  | succ n ih =>
    intro x1 x3 x4 F G h
    refine x_iload (pc' := 40) K dX7_feed_38 3 rfl rfl ?_
    refine x_iload_n (pc' := 41) K dX7_feed_40 2 rfl rfl ?_
    refine x_icmp_ge (tgt := 87) (pc' := 44) K dX7_feed_41 rfl rfl (fun c41 => ?_) (fun c41 => ?_)
    · replace h := h.1 c41
      refine x_aload_n (pc' := 88) K dX7_feed_87 0 rfl rfl ?_
      refine xw7_0g_s (pc' := 91) K hinX7_feed_X7 uX7_feed_f7 dX7_feed_88 rfl ?_
      refine x_iconst (pc' := 92) (v := 4) K dX7_feed_91 (by decide) rfl ?_
      refine xw7_1l (pc' := 93) K (j := 4) (xin_of (by decide +kernel)) (by decide +kernel) dX7_feed_92 rfl ?_
      exact x_iret (wf := w7 cI a) K h dX7_feed_93
    · replace h := h.2 c41
      refine x_aload_n (pc' := 45) K dX7_feed_44 0 rfl rfl ?_
      refine xw7_0g_s (pc' := 48) K hinX7_feed_X7 uX7_feed_f7 dX7_feed_45 rfl ?_
      refine x_sipush (pc' := 51) (v := 371) K dX7_feed_48 (by decide) rfl ?_
      refine x_aload_n (pc' := 52) K dX7_feed_51 0 rfl rfl ?_
      refine xw7_0g_s (pc' := 55) K hinX7_feed_X7 uX7_feed_f7 dX7_feed_52 rfl ?_
      refine x_iconst (pc' := 56) (v := 4) K dX7_feed_55 (by decide) rfl ?_
      refine xw7_1l (pc' := 57) K (j := 4) (xin_of (by decide +kernel)) (by decide +kernel) dX7_feed_56 rfl ?_
      refine x_iadd (pc' := 58) K dX7_feed_57 rfl ?_
      refine x_lload_n (pc' := 59) K dX7_feed_58 1 rfl rfl ?_
      refine x_bipush (pc' := 61) (v := 8) K dX7_feed_59 (by decide) rfl ?_
      refine x_iload (pc' := 63) K dX7_feed_61 3 rfl rfl ?_
      refine x_imul (pc' := 64) K dX7_feed_63 rfl ?_
      refine x_lshr (pc' := 65) K dX7_feed_64 rfl ?_
      refine x_ldc2 (pc' := 68) K dX7_feed_65 uX7_feed_k80 rfl ?_
      refine x_land (pc' := 69) K dX7_feed_68 rfl ?_
      refine x_l2i (pc' := 70) K dX7_feed_69 rfl ?_
      obtain ⟨i70, h⟩ := h
      refine xw7_1s (pc' := 71) K i70 rfl dX7_feed_70 rfl (fun G70 eG70 => ?_)
      replace h := h G70 eG70
      refine x_aload_n (pc' := 72) K dX7_feed_71 0 rfl rfl ?_
      refine xw7_0g_s (pc' := 75) K hinX7_feed_X7 uX7_feed_f7 dX7_feed_72 rfl ?_
      refine x_iconst (pc' := 76) (v := 4) K dX7_feed_75 (by decide) rfl ?_
      refine x_dup2 (pc' := 77) K dX7_feed_76 rfl rfl rfl ?_
      refine xw7_1l (pc' := 78) K (j := 4) (xin_of (by decide +kernel)) (by decide +kernel) dX7_feed_77 rfl ?_
      refine x_iconst (pc' := 79) (v := 1) K dX7_feed_78 (by decide) rfl ?_
      refine x_iadd (pc' := 80) K dX7_feed_79 rfl ?_
      refine xw7_1s (pc' := 81) K (j := 4) (xin_of (by decide +kernel)) (by decide +kernel) dX7_feed_80 rfl (fun G80 eG80 => ?_)
      replace h := h G80 eG80
      refine x_iinc (pc' := 84) (v := _ + (1 : Int32)) K dX7_feed_81 3 rfl rfl (by decide) [1, 2, 3, 0] (L' := [(0, .ref (a 0)), (1, .long _), (3, .int _), (4, .int _)]) rfl rfl ?_
      refine x_goto (tgt := 38) K dX7_feed_84 rfl ?_
      exact ih _ _ _ _ _ h
set_option maxHeartbeats 4000000 in
set_option maxRecDepth 100000 in
theorem mX7_feed (l : Launch) (D : va_G) (cI cO : ClassId) (a : Nat → Nat)  (x1 : Int64) (x3 : Int32) : MI l yX7_feed wsX7_feed rmX7_feed D (xtys cI cO) [.ref (a 0), .long x1, .int x3] (w7 cI a) (qX7_feed x1 x3) := by
  refine MI_of (cc := cX7_feed) (maxL := 5) (own := RX7) (by decide) rfl rfl (Nat.le_of_ble_eq_true rfl) ?_
  intro p e s m args below meth c A F G Q h K
  refine x_locals [0, 1, 2] (L' := [(0, .ref (a 0)), (1, .long _), (3, .int _)]) rfl ?_
  refine x_iload_n (pc' := 1) K dX7_feed_0 2 rfl rfl ?_
  refine x_iconst (pc' := 2) (v := 1) K dX7_feed_1 (by decide) rfl ?_
  refine x_bipush (pc' := 4) (v := 8) K dX7_feed_2 (by decide) rfl ?_
  refine x_callS (pc' := 7) K (mX7_in l D cI cO a _ _ _) rfl gX7_feed_X7_in dsX7_in ⟨rfl, rfl, ⟨Nat.le_of_ble_eq_true rfl, Nat.le_of_ble_eq_true rfl⟩, Nat.le_of_ble_eq_true rfl, Nat.le_of_ble_eq_true rfl⟩ h (st := []) rfl rfl (Nat.le_of_ble_eq_true rfl) dX7_feed_4 rfl (fun r4 h => ?_)
  refine x_if_ne (tgt := 16) (pc' := 10) K dX7_feed_7 rfl rfl (fun c7 => ?_) (fun c7 => ?_)
  · replace h := h.1 c7
    refine x_aload_n (pc' := 17) K dX7_feed_16 0 rfl rfl ?_
    refine xw7_0g_s (pc' := 20) K hinX7_feed_X7 uX7_feed_f7 dX7_feed_17 rfl ?_
    refine x_iconst (pc' := 21) (v := 4) K dX7_feed_20 (by decide) rfl ?_
    refine xw7_1l (pc' := 22) K (j := 4) (xin_of (by decide +kernel)) (by decide +kernel) dX7_feed_21 rfl ?_
    refine x_iload_n (pc' := 23) K dX7_feed_22 2 rfl rfl ?_
    refine x_iadd (pc' := 24) K dX7_feed_23 rfl ?_
    refine x_bipush (pc' := 26) (v := 60) K dX7_feed_24 (by decide) rfl ?_
    refine x_icmp_le (tgt := 35) (pc' := 29) K dX7_feed_26 rfl rfl (fun c26 => ?_) (fun c26 => ?_)
    · replace h := h.1 c26
      refine x_iconst (pc' := 36) (v := 0) K dX7_feed_35 (by decide) rfl ?_
      refine x_istore (pc' := 38) (i := 4) K dX7_feed_36 (by decide) [1, 2, 3, 0] (L' := [(0, .ref (a 0)), (1, .long _), (3, .int _), (4, .int _)]) rfl rfl ?_
      obtain ⟨n38, h⟩ := h
      exact tX7_feed_38 K n38 _ _ _ _ _ h
    · replace h := h.2 c26
      refine x_aload_n (pc' := 30) K dX7_feed_29 0 rfl rfl ?_
      refine x_iconst (pc' := 31) (v := 4) K dX7_feed_30 (by decide) rfl ?_
      refine x_callI (pc' := 34) K (mX7_error l D cI cO a _) rfl gX7_feed_X7_error rfl dsX7_error ⟨rfl, rfl, ⟨Nat.le_of_ble_eq_true rfl, Nat.le_of_ble_eq_true rfl⟩, Nat.le_of_ble_eq_true rfl, Nat.le_of_ble_eq_true rfl⟩ h 7 0 rfl rfl (st := []) rfl rfl (Nat.le_of_ble_eq_true rfl) dX7_feed_31 rfl (fun r31 F31 G31 h => ?_)
      exact x_iret (wf := w7 cI a) K h dX7_feed_34
  · replace h := h.2 c7
    refine x_aload_n (pc' := 11) K dX7_feed_10 0 rfl rfl ?_
    refine x_iconst (pc' := 12) (v := 1) K dX7_feed_11 (by decide) rfl ?_
    refine x_callI (pc' := 15) K (mX7_error l D cI cO a _) rfl gX7_feed_X7_error rfl dsX7_error ⟨rfl, rfl, ⟨Nat.le_of_ble_eq_true rfl, Nat.le_of_ble_eq_true rfl⟩, Nat.le_of_ble_eq_true rfl, Nat.le_of_ble_eq_true rfl⟩ h 7 0 rfl rfl (st := []) rfl rfl (Nat.le_of_ble_eq_true rfl) dX7_feed_12 rfl (fun r12 F12 G12 h => ?_)
    exact x_iret (wf := w7 cI a) K h dX7_feed_15
/-! X7_look -/
abbrev rmX7_look : Room := { frames := 2, cells := 0, slots := 0, locals := 60 }
theorem dsX7_look : xDesc yX7_look 0 := by decide +kernel
theorem uX7_look_f82 : Cond.fieldLink RX7 82 "PigNinthsModel" "at" "I" ∈ wsX7_look := nw_in nwl_X7_look nwe_562 (by decide +kernel)
theorem hinX7_look_X7 : ∀ w ∈ wsX70, w ∈ wsX7_look := nw_all nwl_X7_look nwl_X70 (by decide +kernel)
theorem uX7_look_f7 : Cond.fieldLink RX7 7 "PigNinthsModel" "s" "[I" ∈ wsX7_look := nw_in nwl_X7_look nwe_514 (by decide +kernel)
set_option maxHeartbeats 4000000 in
set_option maxRecDepth 100000 in
theorem mX7_look (l : Launch) (D : va_G) (cI cO : ClassId) (a : Nat → Nat)   : MI l yX7_look wsX7_look rmX7_look D (xtys cI cO) [.ref (a 0)] (w7 cI a) qX7_look := by
  refine MI_of (cc := cX7_look) (maxL := 1) (own := RX7) (by decide) rfl rfl (Nat.le_of_ble_eq_true rfl) ?_
  intro p e s m args below meth c A F G Q h K
  refine x_locals [0] (L' := [(0, .ref (a 0))]) rfl ?_
  refine x_aload_n (pc' := 1) K dX7_look_0 0 rfl rfl ?_
  refine xw7_0g_at (pc' := 4) K hinX7_look_X7 uX7_look_f82 dX7_look_1 rfl ?_
  refine x_aload_n (pc' := 5) K dX7_look_4 0 rfl rfl ?_
  refine xw7_0g_s (pc' := 8) K hinX7_look_X7 uX7_look_f7 dX7_look_5 rfl ?_
  refine x_iconst (pc' := 9) (v := 4) K dX7_look_8 (by decide) rfl ?_
  refine xw7_1l (pc' := 10) K (j := 4) (xin_of (by decide +kernel)) (by decide +kernel) dX7_look_9 rfl ?_
  refine x_icmp_ge (tgt := 29) (pc' := 13) K dX7_look_10 rfl rfl (fun c10 => ?_) (fun c10 => ?_)
  · replace h := h.1 c10
    refine x_iconst (pc' := 30) (v := -1) K dX7_look_29 (by decide) rfl ?_
    exact x_iret (wf := w7 cI a) K h dX7_look_30
  · replace h := h.2 c10
    refine x_aload_n (pc' := 14) K dX7_look_13 0 rfl rfl ?_
    refine xw7_0g_s (pc' := 17) K hinX7_look_X7 uX7_look_f7 dX7_look_14 rfl ?_
    refine x_sipush (pc' := 20) (v := 371) K dX7_look_17 (by decide) rfl ?_
    refine x_aload_n (pc' := 21) K dX7_look_20 0 rfl rfl ?_
    refine xw7_0g_at (pc' := 24) K hinX7_look_X7 uX7_look_f82 dX7_look_21 rfl ?_
    refine x_iadd (pc' := 25) K dX7_look_24 rfl ?_
    obtain ⟨i25, h⟩ := h
    refine xw7_1l (pc' := 26) K i25 rfl dX7_look_25 rfl ?_
    refine x_goto (tgt := 30) K dX7_look_26 rfl ?_
    exact x_iret (wf := w7 cI a) K h dX7_look_30
/-! X7_isName -/
abbrev rmX7_isName : Room := { frames := 2, cells := 0, slots := 0, locals := 60 }
theorem dsX7_isName : xDesc yX7_isName 1 := by decide +kernel
theorem uX7_isName_f85 : Cond.fieldLink RX7 85 "PigNinthsModel" "use" "I" ∈ wsX7_isName := nw_in nwl_X7_isName nwe_564 (by decide +kernel)
theorem hinX7_isName_X7 : ∀ w ∈ wsX70, w ∈ wsX7_isName := nw_all nwl_X7_isName nwl_X70 (by decide +kernel)
set_option maxHeartbeats 4000000 in
set_option maxRecDepth 100000 in
theorem mX7_isName (l : Launch) (D : va_G) (cI cO : ClassId) (a : Nat → Nat)  (x1 : Int32) : MI l yX7_isName wsX7_isName rmX7_isName D (xtys cI cO) [.ref (a 0), .int x1] (w7 cI a) (qX7_isName x1) := by
  refine MZ_of (cc := cX7_isName) (maxL := 2) (own := RX7) (by decide) rfl rfl (Nat.le_of_ble_eq_true rfl) ?_
  intro p e s m args below meth c A F G Q h K
  refine x_locals [0, 1] (L' := [(0, .ref (a 0)), (1, .int _)]) rfl ?_
  refine x_iload_n (pc' := 1) K dX7_isName_0 1 rfl rfl ?_
  refine x_bipush (pc' := 3) (v := 104) K dX7_isName_1 (by decide) rfl ?_
  refine x_icmp_ne (tgt := 8) (pc' := 6) K dX7_isName_3 rfl rfl (fun c3 => ?_) (fun c3 => ?_)
  · replace h := h.1 c3
    refine x_aload_n (pc' := 9) K dX7_isName_8 0 rfl rfl ?_
    refine xw7_0g_use (pc' := 12) K hinX7_isName_X7 uX7_isName_f85 dX7_isName_9 rfl ?_
    refine x_if_ne (tgt := 35) (pc' := 15) K dX7_isName_12 rfl rfl (fun c12 => ?_) (fun c12 => ?_)
    · replace h := h.1 c12
      refine x_iload_n (pc' := 36) K dX7_isName_35 1 rfl rfl ?_
      refine x_bipush (pc' := 38) (v := 117) K dX7_isName_36 (by decide) rfl ?_
      refine x_icmp_eq (tgt := 47) (pc' := 41) K dX7_isName_38 rfl rfl (fun c38 => ?_) (fun c38 => ?_)
      · replace h := h.1 c38
        refine x_iconst (pc' := 48) (v := 1) K dX7_isName_47 (by decide) rfl ?_
        refine x_goto (tgt := 52) K dX7_isName_48 rfl ?_
        exact x_zret (wf := w7 cI a) K (Or.inr rfl) h dX7_isName_52
      · replace h := h.2 c38
        refine x_iload_n (pc' := 42) K dX7_isName_41 1 rfl rfl ?_
        refine x_bipush (pc' := 44) (v := 97) K dX7_isName_42 (by decide) rfl ?_
        refine x_icmp_ne (tgt := 51) (pc' := 47) K dX7_isName_44 rfl rfl (fun c44 => ?_) (fun c44 => ?_)
        · replace h := h.1 c44
          refine x_iconst (pc' := 52) (v := 0) K dX7_isName_51 (by decide) rfl ?_
          exact x_zret (wf := w7 cI a) K (Or.inl rfl) h dX7_isName_52
        · replace h := h.2 c44
          refine x_iconst (pc' := 48) (v := 1) K dX7_isName_47 (by decide) rfl ?_
          refine x_goto (tgt := 52) K dX7_isName_48 rfl ?_
          exact x_zret (wf := w7 cI a) K (Or.inr rfl) h dX7_isName_52
    · replace h := h.2 c12
      refine x_iload_n (pc' := 16) K dX7_isName_15 1 rfl rfl ?_
      refine x_bipush (pc' := 18) (v := 102) K dX7_isName_16 (by decide) rfl ?_
      refine x_icmp_eq (tgt := 27) (pc' := 21) K dX7_isName_18 rfl rfl (fun c18 => ?_) (fun c18 => ?_)
      · replace h := h.1 c18
        refine x_iconst (pc' := 28) (v := 1) K dX7_isName_27 (by decide) rfl ?_
        refine x_goto (tgt := 52) K dX7_isName_28 rfl ?_
        exact x_zret (wf := w7 cI a) K (Or.inr rfl) h dX7_isName_52
      · replace h := h.2 c18
        refine x_iload_n (pc' := 22) K dX7_isName_21 1 rfl rfl ?_
        refine x_bipush (pc' := 24) (v := 109) K dX7_isName_22 (by decide) rfl ?_
        refine x_icmp_ne (tgt := 31) (pc' := 27) K dX7_isName_24 rfl rfl (fun c24 => ?_) (fun c24 => ?_)
        · replace h := h.1 c24
          refine x_iconst (pc' := 32) (v := 0) K dX7_isName_31 (by decide) rfl ?_
          refine x_goto (tgt := 52) K dX7_isName_32 rfl ?_
          exact x_zret (wf := w7 cI a) K (Or.inl rfl) h dX7_isName_52
        · replace h := h.2 c24
          refine x_iconst (pc' := 28) (v := 1) K dX7_isName_27 (by decide) rfl ?_
          refine x_goto (tgt := 52) K dX7_isName_28 rfl ?_
          exact x_zret (wf := w7 cI a) K (Or.inr rfl) h dX7_isName_52
  · replace h := h.2 c3
    refine x_iconst (pc' := 7) (v := 1) K dX7_isName_6 (by decide) rfl ?_
    exact x_zret (wf := w7 cI a) K (Or.inr rfl) h dX7_isName_7
/-! X7_step1 -/
abbrev rmX7_step1 : Room := { frames := 2, cells := 0, slots := 0, locals := 60 }
theorem dsX7_step1 : xDesc yX7_step1 2 := by decide +kernel
theorem uX7_step1_f22 : Cond.fieldLink RX7 22 "PigNinthsModel" "step" "[I" ∈ wsX7_step1 := nw_in nwl_X7_step1 nwe_519 (by decide +kernel)
theorem hinX7_step1_X7 : ∀ w ∈ wsX70, w ∈ wsX7_step1 := nw_all nwl_X7_step1 nwl_X70 (by decide +kernel)
theorem uX7_step1_f88 : Cond.fieldLink RX7 88 "PigNinthsModel" "steps" "I" ∈ wsX7_step1 := nw_in nwl_X7_step1 nwe_566 (by decide +kernel)
set_option maxHeartbeats 4000000 in
set_option maxRecDepth 100000 in
theorem mX7_step1 (l : Launch) (D : va_G) (cI cO : ClassId) (a : Nat → Nat)  (x1 : Int32) (x2 : Int32) : MV l yX7_step1 wsX7_step1 rmX7_step1 D (xtys cI cO) [.ref (a 0), .int x1, .int x2] (w7 cI a) (qX7_step1 x1 x2) := by
  refine MV_of (cc := cX7_step1) (maxL := 3) (own := RX7) (by decide) rfl rfl (Nat.le_of_ble_eq_true rfl) ?_
  intro p e s m args below meth c A F G Q h K
  refine x_locals [0, 1, 2] (L' := [(0, .ref (a 0)), (1, .int _), (2, .int _)]) rfl ?_
  refine x_aload_n (pc' := 1) K dX7_step1_0 0 rfl rfl ?_
  refine xw7_0g_step (pc' := 4) K hinX7_step1_X7 uX7_step1_f22 dX7_step1_1 rfl ?_
  refine x_iconst (pc' := 5) (v := 2) K dX7_step1_4 (by decide) rfl ?_
  refine x_aload_n (pc' := 6) K dX7_step1_5 0 rfl rfl ?_
  refine xw7_0g_steps (pc' := 9) K hinX7_step1_X7 uX7_step1_f88 dX7_step1_6 rfl ?_
  refine x_imul (pc' := 10) K dX7_step1_9 rfl ?_
  refine x_iload_n (pc' := 11) K dX7_step1_10 1 rfl rfl ?_
  obtain ⟨i11, h⟩ := h
  refine xw7_5s (pc' := 12) K i11 rfl dX7_step1_11 rfl (fun G11 eG11 => ?_)
  replace h := h G11 eG11
  refine x_aload_n (pc' := 13) K dX7_step1_12 0 rfl rfl ?_
  refine xw7_0g_step (pc' := 16) K hinX7_step1_X7 uX7_step1_f22 dX7_step1_13 rfl ?_
  refine x_iconst (pc' := 17) (v := 2) K dX7_step1_16 (by decide) rfl ?_
  refine x_aload_n (pc' := 18) K dX7_step1_17 0 rfl rfl ?_
  refine xw7_0g_steps (pc' := 21) K hinX7_step1_X7 uX7_step1_f88 dX7_step1_18 rfl ?_
  refine x_imul (pc' := 22) K dX7_step1_21 rfl ?_
  refine x_iconst (pc' := 23) (v := 1) K dX7_step1_22 (by decide) rfl ?_
  refine x_iadd (pc' := 24) K dX7_step1_23 rfl ?_
  refine x_iload_n (pc' := 25) K dX7_step1_24 2 rfl rfl ?_
  obtain ⟨i25, h⟩ := h
  refine xw7_5s (pc' := 26) K i25 rfl dX7_step1_25 rfl (fun G25 eG25 => ?_)
  replace h := h G25 eG25
  refine x_aload_n (pc' := 27) K dX7_step1_26 0 rfl rfl ?_
  refine x_dup (pc' := 28) K dX7_step1_27 rfl rfl ?_
  refine xw7_0g_steps (pc' := 31) K hinX7_step1_X7 uX7_step1_f88 dX7_step1_28 rfl ?_
  refine x_iconst (pc' := 32) (v := 1) K dX7_step1_31 (by decide) rfl ?_
  refine x_iadd (pc' := 33) K dX7_step1_32 rfl ?_
  refine xw7_0p_steps (pc' := 36) K hinX7_step1_X7 uX7_step1_f88 dX7_step1_33 rfl (fun F33 eF33 => ?_)
  replace h := h F33 eF33
  exact x_vret (wf := w7 cI a) K h dX7_step1_36
/-! X7_opens -/
abbrev rmX7_opens : Room := { frames := 2, cells := 0, slots := 0, locals := 60 }
theorem dsX7_opens : xDesc yX7_opens 0 := by decide +kernel
theorem uX7_opens_f115 : Cond.fieldLink RX7 115 "PigNinthsModel" "open" "I" ∈ wsX7_opens := nw_in nwl_X7_opens nwe_568 (by decide +kernel)
theorem hinX7_opens_X7 : ∀ w ∈ wsX70, w ∈ wsX7_opens := nw_all nwl_X7_opens nwl_X70 (by decide +kernel)
theorem uX7_opens_f82 : Cond.fieldLink RX7 82 "PigNinthsModel" "at" "I" ∈ wsX7_opens := nw_in nwl_X7_opens nwe_562 (by decide +kernel)
set_option maxHeartbeats 4000000 in
set_option maxRecDepth 100000 in
theorem mX7_opens (l : Launch) (D : va_G) (cI cO : ClassId) (a : Nat → Nat)   : MI l yX7_opens wsX7_opens rmX7_opens D (xtys cI cO) [.ref (a 0)] (w7 cI a) qX7_opens := by
  refine MZ_of (cc := cX7_opens) (maxL := 1) (own := RX7) (by decide) rfl rfl (Nat.le_of_ble_eq_true rfl) ?_
  intro p e s m args below meth c A F G Q h K
  refine x_locals [0] (L' := [(0, .ref (a 0))]) rfl ?_
  refine x_aload_n (pc' := 1) K dX7_opens_0 0 rfl rfl ?_
  refine xw7_0g_open (pc' := 4) K hinX7_opens_X7 uX7_opens_f115 dX7_opens_1 rfl ?_
  refine x_iconst (pc' := 5) (v := 5) K dX7_opens_4 (by decide) rfl ?_
  refine x_icmp_ne (tgt := 10) (pc' := 8) K dX7_opens_5 rfl rfl (fun c5 => ?_) (fun c5 => ?_)
  · replace h := h.1 c5
    refine x_aload_n (pc' := 11) K dX7_opens_10 0 rfl rfl ?_
    refine x_dup (pc' := 12) K dX7_opens_11 rfl rfl ?_
    refine xw7_0g_open (pc' := 15) K hinX7_opens_X7 uX7_opens_f115 dX7_opens_12 rfl ?_
    refine x_iconst (pc' := 16) (v := 1) K dX7_opens_15 (by decide) rfl ?_
    refine x_iadd (pc' := 17) K dX7_opens_16 rfl ?_
    refine xw7_0p_open (pc' := 20) K hinX7_opens_X7 uX7_opens_f115 dX7_opens_17 rfl (fun F17 eF17 => ?_)
    replace h := h F17 eF17
    refine x_aload_n (pc' := 21) K dX7_opens_20 0 rfl rfl ?_
    refine x_dup (pc' := 22) K dX7_opens_21 rfl rfl ?_
    refine xw7_0g_at (pc' := 25) K hinX7_opens_X7 uX7_opens_f82 dX7_opens_22 rfl ?_
    refine x_iconst (pc' := 26) (v := 1) K dX7_opens_25 (by decide) rfl ?_
    refine x_iadd (pc' := 27) K dX7_opens_26 rfl ?_
    refine xw7_0p_at (pc' := 30) K hinX7_opens_X7 uX7_opens_f82 dX7_opens_27 rfl (fun F27 eF27 => ?_)
    replace h := h F27 eF27
    refine x_iconst (pc' := 31) (v := 1) K dX7_opens_30 (by decide) rfl ?_
    exact x_zret (wf := w7 cI a) K (Or.inr rfl) h dX7_opens_31
  · replace h := h.2 c5
    refine x_iconst (pc' := 9) (v := 0) K dX7_opens_8 (by decide) rfl ?_
    exact x_zret (wf := w7 cI a) K (Or.inl rfl) h dX7_opens_9
/-! X7_hasText -/
abbrev rmX7_hasText : Room := { frames := 2, cells := 0, slots := 0, locals := 60 }
theorem dsX7_hasText : xDesc yX7_hasText 1 := by decide +kernel
theorem uX7_hasText_f7 : Cond.fieldLink RX7 7 "PigNinthsModel" "s" "[I" ∈ wsX7_hasText := nw_in nwl_X7_hasText nwe_514 (by decide +kernel)
theorem hinX7_hasText_X7 : ∀ w ∈ wsX70, w ∈ wsX7_hasText := nw_all nwl_X7_hasText nwl_X70 (by decide +kernel)
set_option maxHeartbeats 4000000 in
set_option maxRecDepth 100000 in
theorem mX7_hasText (l : Launch) (D : va_G) (cI cO : ClassId) (a : Nat → Nat)  (x1 : Int32) : MI l yX7_hasText wsX7_hasText rmX7_hasText D (xtys cI cO) [.ref (a 0), .int x1] (w7 cI a) (qX7_hasText x1) := by
  refine MZ_of (cc := cX7_hasText) (maxL := 2) (own := RX7) (by decide) rfl rfl (Nat.le_of_ble_eq_true rfl) ?_
  intro p e s m args below meth c A F G Q h K
  refine x_locals [0, 1] (L' := [(0, .ref (a 0)), (1, .int _)]) rfl ?_
  refine x_aload_n (pc' := 1) K dX7_hasText_0 0 rfl rfl ?_
  refine xw7_0g_s (pc' := 4) K hinX7_hasText_X7 uX7_hasText_f7 dX7_hasText_1 rfl ?_
  refine x_bipush (pc' := 6) (v := 121) K dX7_hasText_4 (by decide) rfl ?_
  refine x_bipush (pc' := 8) (v := 125) K dX7_hasText_6 (by decide) rfl ?_
  refine x_iload_n (pc' := 9) K dX7_hasText_8 1 rfl rfl ?_
  refine x_imul (pc' := 10) K dX7_hasText_9 rfl ?_
  refine x_iadd (pc' := 11) K dX7_hasText_10 rfl ?_
  obtain ⟨i11, h⟩ := h
  refine xw7_1l (pc' := 12) K i11 rfl dX7_hasText_11 rfl ?_
  refine x_if_le (tgt := 19) (pc' := 15) K dX7_hasText_12 rfl rfl (fun c12 => ?_) (fun c12 => ?_)
  · replace h := h.1 c12
    refine x_iconst (pc' := 20) (v := 0) K dX7_hasText_19 (by decide) rfl ?_
    exact x_zret (wf := w7 cI a) K (Or.inl rfl) h dX7_hasText_20
  · replace h := h.2 c12
    refine x_iconst (pc' := 16) (v := 1) K dX7_hasText_15 (by decide) rfl ?_
    refine x_goto (tgt := 20) K dX7_hasText_16 rfl ?_
    exact x_zret (wf := w7 cI a) K (Or.inr rfl) h dX7_hasText_20
/-! X7_untell -/
abbrev rmX7_untell : Room := { frames := 3, cells := 0, slots := 0, locals := 82 }
theorem dsX7_untell : xDesc yX7_untell 1 := by decide +kernel
theorem uX7_untell_f7 : Cond.fieldLink RX7 7 "PigNinthsModel" "s" "[I" ∈ wsX7_untell := nw_in nwl_X7_untell nwe_514 (by decide +kernel)
theorem hinX7_untell_X7 : ∀ w ∈ wsX70, w ∈ wsX7_untell := nw_all nwl_X7_untell nwl_X70 (by decide +kernel)
set_option maxHeartbeats 4000000 in
set_option maxRecDepth 100000 in
theorem mX7_untell (l : Launch) (D : va_G) (cI cO : ClassId) (a : Nat → Nat)  (x1 : Int32) : MI l yX7_untell wsX7_untell rmX7_untell D (xtys cI cO) [.ref (a 0), .int x1] (w7 cI a) (qX7_untell x1) := by
  refine MI_of (cc := cX7_untell) (maxL := 3) (own := RX7) (by decide) rfl rfl (Nat.le_of_ble_eq_true rfl) ?_
  intro p e s m args below meth c A F G Q h K
  refine x_locals [0, 1] (L' := [(0, .ref (a 0)), (1, .int _)]) rfl ?_
  refine x_iload_n (pc' := 1) K dX7_untell_0 1 rfl rfl ?_
  refine x_iconst (pc' := 2) (v := 0) K dX7_untell_1 (by decide) rfl ?_
  refine x_iconst (pc' := 3) (v := 1) K dX7_untell_2 (by decide) rfl ?_
  refine x_callS (pc' := 6) K (mX7_in l D cI cO a _ _ _) rfl gX7_untell_X7_in dsX7_in ⟨rfl, rfl, ⟨Nat.le_of_ble_eq_true rfl, Nat.le_of_ble_eq_true rfl⟩, Nat.le_of_ble_eq_true rfl, Nat.le_of_ble_eq_true rfl⟩ h (st := []) rfl rfl (Nat.le_of_ble_eq_true rfl) dX7_untell_3 rfl (fun r3 h => ?_)
  refine x_if_ne (tgt := 15) (pc' := 9) K dX7_untell_6 rfl rfl (fun c6 => ?_) (fun c6 => ?_)
  · replace h := h.1 c6
    refine x_aload_n (pc' := 16) K dX7_untell_15 0 rfl rfl ?_
    refine x_iload_n (pc' := 17) K dX7_untell_16 1 rfl rfl ?_
    refine x_callI (pc' := 20) K (mX7_hasText l D cI cO a _) rfl gX7_untell_X7_hasText rfl dsX7_hasText ⟨rfl, rfl, ⟨Nat.le_of_ble_eq_true rfl, Nat.le_of_ble_eq_true rfl⟩, Nat.le_of_ble_eq_true rfl, Nat.le_of_ble_eq_true rfl⟩ h 7 0 rfl rfl (st := []) rfl rfl (Nat.le_of_ble_eq_true rfl) dX7_untell_17 rfl (fun r17 F17 G17 h => ?_)
    refine x_if_eq (tgt := 27) (pc' := 23) K dX7_untell_20 rfl rfl (fun c20 => ?_) (fun c20 => ?_)
    · replace h := h.1 c20
      refine x_iconst (pc' := 28) (v := 0) K dX7_untell_27 (by decide) rfl ?_
      refine x_istore_n (pc' := 29) (i := 2) K dX7_untell_28 rfl (by decide) [1, 2, 0] (L' := [(0, .ref (a 0)), (1, .int _), (2, .int _)]) rfl rfl ?_
      refine x_aload_n (pc' := 30) K dX7_untell_29 0 rfl rfl ?_
      refine xw7_0g_s (pc' := 33) K hinX7_untell_X7 uX7_untell_f7 dX7_untell_30 rfl ?_
      refine x_bipush (pc' := 35) (v := 121) K dX7_untell_33 (by decide) rfl ?_
      refine x_bipush (pc' := 37) (v := 125) K dX7_untell_35 (by decide) rfl ?_
      refine x_iload_n (pc' := 38) K dX7_untell_37 1 rfl rfl ?_
      refine x_imul (pc' := 39) K dX7_untell_38 rfl ?_
      refine x_iadd (pc' := 40) K dX7_untell_39 rfl ?_
      refine x_iconst (pc' := 41) (v := 0) K dX7_untell_40 (by decide) rfl ?_
      obtain ⟨i41, h⟩ := h
      refine xw7_1s (pc' := 42) K i41 rfl dX7_untell_41 rfl (fun G41 eG41 => ?_)
      replace h := h G41 eG41
      refine x_iload_n (pc' := 43) K dX7_untell_42 2 rfl rfl ?_
      exact x_iret (wf := w7 cI a) K h dX7_untell_43
    · replace h := h.2 c20
      refine x_iconst (pc' := 24) (v := 1) K dX7_untell_23 (by decide) rfl ?_
      refine x_goto (tgt := 28) K dX7_untell_24 rfl ?_
      refine x_istore_n (pc' := 29) (i := 2) K dX7_untell_28 rfl (by decide) [1, 2, 0] (L' := [(0, .ref (a 0)), (1, .int _), (2, .int _)]) rfl rfl ?_
      refine x_aload_n (pc' := 30) K dX7_untell_29 0 rfl rfl ?_
      refine xw7_0g_s (pc' := 33) K hinX7_untell_X7 uX7_untell_f7 dX7_untell_30 rfl ?_
      refine x_bipush (pc' := 35) (v := 121) K dX7_untell_33 (by decide) rfl ?_
      refine x_bipush (pc' := 37) (v := 125) K dX7_untell_35 (by decide) rfl ?_
      refine x_iload_n (pc' := 38) K dX7_untell_37 1 rfl rfl ?_
      refine x_imul (pc' := 39) K dX7_untell_38 rfl ?_
      refine x_iadd (pc' := 40) K dX7_untell_39 rfl ?_
      refine x_iconst (pc' := 41) (v := 0) K dX7_untell_40 (by decide) rfl ?_
      obtain ⟨i41, h⟩ := h
      refine xw7_1s (pc' := 42) K i41 rfl dX7_untell_41 rfl (fun G41 eG41 => ?_)
      replace h := h G41 eG41
      refine x_iload_n (pc' := 43) K dX7_untell_42 2 rfl rfl ?_
      exact x_iret (wf := w7 cI a) K h dX7_untell_43
  · replace h := h.2 c6
    refine x_aload_n (pc' := 10) K dX7_untell_9 0 rfl rfl ?_
    refine x_iconst (pc' := 11) (v := 1) K dX7_untell_10 (by decide) rfl ?_
    refine x_callI (pc' := 14) K (mX7_error l D cI cO a _) rfl gX7_untell_X7_error rfl dsX7_error ⟨rfl, rfl, ⟨Nat.le_of_ble_eq_true rfl, Nat.le_of_ble_eq_true rfl⟩, Nat.le_of_ble_eq_true rfl, Nat.le_of_ble_eq_true rfl⟩ h 7 0 rfl rfl (st := []) rfl rfl (Nat.le_of_ble_eq_true rfl) dX7_untell_11 rfl (fun r11 F11 G11 h => ?_)
    exact x_iret (wf := w7 cI a) K h dX7_untell_14
/-! X7_joined -/
abbrev rmX7_joined : Room := { frames := 2, cells := 0, slots := 0, locals := 60 }
theorem dsX7_joined : xDesc yX7_joined 3 := by decide +kernel
set_option maxHeartbeats 4000000 in
set_option maxRecDepth 100000 in
theorem mX7_joined (l : Launch) (D : va_G) (cI cO : ClassId) (a : Nat → Nat)  (x0 : Int32) (x1 : Int32) (x2 : Int32) : MS l yX7_joined wsX7_joined rmX7_joined D (xtys cI cO) [.int x0, .int x1, .int x2] (qX7_joined x0 x1 x2) := by
  refine MS_of (cc := cX7_joined) (maxL := 3) (own := RX7) (by decide) rfl rfl (Nat.le_of_ble_eq_true rfl) ?_
  intro p e s m args below meth c A Q h K
  refine x_locals [0, 1, 2] (L' := [(0, .int _), (1, .int _), (2, .int _)]) rfl ?_
  refine x_iload_n (pc' := 1) K dX7_joined_0 0 rfl rfl ?_
  refine (Classical.em (x0 = (37 : Int32))).elim (fun e1 => ?_) (fun e1_1 => ?_)
  · replace h := h.1 e1
    refine x_tableIn (tgt := 154) (off := 153) K dX7_joined_1 (by rw [e1]; decide) (by rw [e1]; decide) (by rw [e1]; rfl) rfl ?_
    refine x_iload_n (pc' := 155) K dX7_joined_154 2 rfl rfl ?_
    refine x_if_eq (tgt := 163) (pc' := 158) K dX7_joined_155 rfl rfl (fun c155 => ?_) (fun c155 => ?_)
    · replace h := h.1 c155
      refine x_iconst (pc' := 164) (v := 0) K dX7_joined_163 (by decide) rfl ?_
      refine x_goto (tgt := 170) K dX7_joined_164 rfl ?_
      exact x_siret K h dX7_joined_170
    · replace h := h.2 c155
      refine x_iload_n (pc' := 159) K dX7_joined_158 2 rfl rfl ?_
      refine x_iconst (pc' := 160) (v := -1) K dX7_joined_159 (by decide) rfl ?_
      refine x_icmp_ne (tgt := 167) (pc' := 163) K dX7_joined_160 rfl rfl (fun c160 => ?_) (fun c160 => ?_)
      · replace h := h.1 c160
        refine x_iload_n (pc' := 168) K dX7_joined_167 1 rfl rfl ?_
        refine x_iload_n (pc' := 169) K dX7_joined_168 2 rfl rfl ?_
        obtain ⟨z169, h⟩ := h
        refine x_irem (pc' := 170) K dX7_joined_169 z169 rfl ?_
        exact x_siret K h dX7_joined_170
      · replace h := h.2 c160
        refine x_iconst (pc' := 164) (v := 0) K dX7_joined_163 (by decide) rfl ?_
        refine x_goto (tgt := 170) K dX7_joined_164 rfl ?_
        exact x_siret K h dX7_joined_170
  · replace h := h.2 e1_1
    refine (Classical.em (x0 = (38 : Int32))).elim (fun e1 => ?_) (fun e1_2 => ?_)
    · replace h := h.1 e1
      refine x_tableIn (tgt := 204) (off := 203) K dX7_joined_1 (by rw [e1]; decide) (by rw [e1]; decide) (by rw [e1]; rfl) rfl ?_
      refine x_iload_n (pc' := 205) K dX7_joined_204 1 rfl rfl ?_
      refine x_if_eq (tgt := 216) (pc' := 208) K dX7_joined_205 rfl rfl (fun c205 => ?_) (fun c205 => ?_)
      · replace h := h.1 c205
        refine x_iconst (pc' := 217) (v := 0) K dX7_joined_216 (by decide) rfl ?_
        exact x_siret K h dX7_joined_217
      · replace h := h.2 c205
        refine x_iload_n (pc' := 209) K dX7_joined_208 2 rfl rfl ?_
        refine x_if_eq (tgt := 216) (pc' := 212) K dX7_joined_209 rfl rfl (fun c209 => ?_) (fun c209 => ?_)
        · replace h := h.1 c209
          refine x_iconst (pc' := 217) (v := 0) K dX7_joined_216 (by decide) rfl ?_
          exact x_siret K h dX7_joined_217
        · replace h := h.2 c209
          refine x_iconst (pc' := 213) (v := 1) K dX7_joined_212 (by decide) rfl ?_
          refine x_goto (tgt := 217) K dX7_joined_213 rfl ?_
          exact x_siret K h dX7_joined_217
    · replace h := h.2 e1_2
      refine (Classical.em (x0 = (42 : Int32))).elim (fun e1 => ?_) (fun e1_3 => ?_)
      · replace h := h.1 e1
        refine x_tableIn (tgt := 128) (off := 127) K dX7_joined_1 (by rw [e1]; decide) (by rw [e1]; decide) (by rw [e1]; rfl) rfl ?_
        refine x_iload_n (pc' := 129) K dX7_joined_128 1 rfl rfl ?_
        refine x_iload_n (pc' := 130) K dX7_joined_129 2 rfl rfl ?_
        refine x_imul (pc' := 131) K dX7_joined_130 rfl ?_
        exact x_siret K h dX7_joined_131
      · replace h := h.2 e1_3
        refine (Classical.em (x0 = (43 : Int32))).elim (fun e1 => ?_) (fun e1_4 => ?_)
        · replace h := h.1 e1
          refine x_tableIn (tgt := 120) (off := 119) K dX7_joined_1 (by rw [e1]; decide) (by rw [e1]; decide) (by rw [e1]; rfl) rfl ?_
          refine x_iload_n (pc' := 121) K dX7_joined_120 1 rfl rfl ?_
          refine x_iload_n (pc' := 122) K dX7_joined_121 2 rfl rfl ?_
          refine x_iadd (pc' := 123) K dX7_joined_122 rfl ?_
          exact x_siret K h dX7_joined_123
        · replace h := h.2 e1_4
          refine (Classical.em (x0 = (45 : Int32))).elim (fun e1 => ?_) (fun e1_5 => ?_)
          · replace h := h.1 e1
            refine x_tableIn (tgt := 124) (off := 123) K dX7_joined_1 (by rw [e1]; decide) (by rw [e1]; decide) (by rw [e1]; rfl) rfl ?_
            refine x_iload_n (pc' := 125) K dX7_joined_124 1 rfl rfl ?_
            refine x_iload_n (pc' := 126) K dX7_joined_125 2 rfl rfl ?_
            refine x_isub (pc' := 127) K dX7_joined_126 rfl ?_
            exact x_siret K h dX7_joined_127
          · replace h := h.2 e1_5
            refine (Classical.em (x0 = (47 : Int32))).elim (fun e1 => ?_) (fun e1_6 => ?_)
            · replace h := h.1 e1
              refine x_tableIn (tgt := 132) (off := 131) K dX7_joined_1 (by rw [e1]; decide) (by rw [e1]; decide) (by rw [e1]; rfl) rfl ?_
              refine x_iload_n (pc' := 133) K dX7_joined_132 2 rfl rfl ?_
              refine x_if_ne (tgt := 140) (pc' := 136) K dX7_joined_133 rfl rfl (fun c133 => ?_) (fun c133 => ?_)
              · replace h := h.1 c133
                refine x_iload_n (pc' := 141) K dX7_joined_140 2 rfl rfl ?_
                refine x_iconst (pc' := 142) (v := -1) K dX7_joined_141 (by decide) rfl ?_
                refine x_icmp_ne (tgt := 150) (pc' := 145) K dX7_joined_142 rfl rfl (fun c142 => ?_) (fun c142 => ?_)
                · replace h := h.1 c142
                  refine x_iload_n (pc' := 151) K dX7_joined_150 1 rfl rfl ?_
                  refine x_iload_n (pc' := 152) K dX7_joined_151 2 rfl rfl ?_
                  obtain ⟨z152, h⟩ := h
                  refine x_idiv (pc' := 153) K dX7_joined_152 z152 rfl ?_
                  exact x_siret K h dX7_joined_153
                · replace h := h.2 c142
                  refine x_iload_n (pc' := 146) K dX7_joined_145 1 rfl rfl ?_
                  refine x_ineg (pc' := 147) K dX7_joined_146 rfl ?_
                  refine x_goto (tgt := 153) K dX7_joined_147 rfl ?_
                  exact x_siret K h dX7_joined_153
              · replace h := h.2 c133
                refine x_iconst (pc' := 137) (v := 0) K dX7_joined_136 (by decide) rfl ?_
                refine x_goto (tgt := 153) K dX7_joined_137 rfl ?_
                exact x_siret K h dX7_joined_153
            · replace h := h.2 e1_6
              refine (Classical.em (x0 = (60 : Int32))).elim (fun e1 => ?_) (fun e1_7 => ?_)
              · replace h := h.1 e1
                refine x_tableIn (tgt := 171) (off := 170) K dX7_joined_1 (by rw [e1]; decide) (by rw [e1]; decide) (by rw [e1]; rfl) rfl ?_
                refine x_iload_n (pc' := 172) K dX7_joined_171 1 rfl rfl ?_
                refine x_iload_n (pc' := 173) K dX7_joined_172 2 rfl rfl ?_
                refine x_icmp_ge (tgt := 180) (pc' := 176) K dX7_joined_173 rfl rfl (fun c173 => ?_) (fun c173 => ?_)
                · replace h := h.1 c173
                  refine x_iconst (pc' := 181) (v := 0) K dX7_joined_180 (by decide) rfl ?_
                  exact x_siret K h dX7_joined_181
                · replace h := h.2 c173
                  refine x_iconst (pc' := 177) (v := 1) K dX7_joined_176 (by decide) rfl ?_
                  refine x_goto (tgt := 181) K dX7_joined_177 rfl ?_
                  exact x_siret K h dX7_joined_181
              · replace h := h.2 e1_7
                refine (Classical.em (x0 = (61 : Int32))).elim (fun e1 => ?_) (fun e1_8 => ?_)
                · replace h := h.1 e1
                  refine x_tableIn (tgt := 193) (off := 192) K dX7_joined_1 (by rw [e1]; decide) (by rw [e1]; decide) (by rw [e1]; rfl) rfl ?_
                  refine x_iload_n (pc' := 194) K dX7_joined_193 1 rfl rfl ?_
                  refine x_iload_n (pc' := 195) K dX7_joined_194 2 rfl rfl ?_
                  refine x_icmp_ne (tgt := 202) (pc' := 198) K dX7_joined_195 rfl rfl (fun c195 => ?_) (fun c195 => ?_)
                  · replace h := h.1 c195
                    refine x_iconst (pc' := 203) (v := 0) K dX7_joined_202 (by decide) rfl ?_
                    exact x_siret K h dX7_joined_203
                  · replace h := h.2 c195
                    refine x_iconst (pc' := 199) (v := 1) K dX7_joined_198 (by decide) rfl ?_
                    refine x_goto (tgt := 203) K dX7_joined_199 rfl ?_
                    exact x_siret K h dX7_joined_203
                · replace h := h.2 e1_8
                  refine (Classical.em (x0 = (62 : Int32))).elim (fun e1 => ?_) (fun e1_9 => ?_)
                  · replace h := h.1 e1
                    refine x_tableIn (tgt := 182) (off := 181) K dX7_joined_1 (by rw [e1]; decide) (by rw [e1]; decide) (by rw [e1]; rfl) rfl ?_
                    refine x_iload_n (pc' := 183) K dX7_joined_182 1 rfl rfl ?_
                    refine x_iload_n (pc' := 184) K dX7_joined_183 2 rfl rfl ?_
                    refine x_icmp_le (tgt := 191) (pc' := 187) K dX7_joined_184 rfl rfl (fun c184 => ?_) (fun c184 => ?_)
                    · replace h := h.1 c184
                      refine x_iconst (pc' := 192) (v := 0) K dX7_joined_191 (by decide) rfl ?_
                      exact x_siret K h dX7_joined_192
                    · replace h := h.2 c184
                      refine x_iconst (pc' := 188) (v := 1) K dX7_joined_187 (by decide) rfl ?_
                      refine x_goto (tgt := 192) K dX7_joined_188 rfl ?_
                      exact x_siret K h dX7_joined_192
                  · replace h := h.2 e1_9
                    have f1_1 := xtin (i := 37) e1_1 (by decide)
                    have f1_2 := xtin (i := 38) e1_2 (by decide)
                    have f1_3 := xtin (i := 42) e1_3 (by decide)
                    have f1_4 := xtin (i := 43) e1_4 (by decide)
                    have f1_5 := xtin (i := 45) e1_5 (by decide)
                    have f1_6 := xtin (i := 47) e1_6 (by decide)
                    have f1_7 := xtin (i := 60) e1_7 (by decide)
                    have f1_8 := xtin (i := 61) e1_8 (by decide)
                    have f1_9 := xtin (i := 62) e1_9 (by decide)
                    refine (Classical.em (x0.toInt < 37 ∨ 62 < x0.toInt)).elim (fun g1 => ?_) (fun g1 => ?_)
                    · refine x_tableOut (tgt := 218) K dX7_joined_1 g1 rfl ?_
                      refine x_iload_n (pc' := 219) K dX7_joined_218 1 rfl rfl ?_
                      refine x_if_ne (tgt := 226) (pc' := 222) K dX7_joined_219 rfl rfl (fun c219 => ?_) (fun c219 => ?_)
                      · replace h := h.1 c219
                        refine x_iconst (pc' := 227) (v := 1) K dX7_joined_226 (by decide) rfl ?_
                        refine x_goto (tgt := 231) K dX7_joined_227 rfl ?_
                        exact x_siret K h dX7_joined_231
                      · replace h := h.2 c219
                        refine x_iload_n (pc' := 223) K dX7_joined_222 2 rfl rfl ?_
                        refine x_if_eq (tgt := 230) (pc' := 226) K dX7_joined_223 rfl rfl (fun c223 => ?_) (fun c223 => ?_)
                        · replace h := h.1 c223
                          refine x_iconst (pc' := 231) (v := 0) K dX7_joined_230 (by decide) rfl ?_
                          exact x_siret K h dX7_joined_231
                        · replace h := h.2 c223
                          refine x_iconst (pc' := 227) (v := 1) K dX7_joined_226 (by decide) rfl ?_
                          refine x_goto (tgt := 231) K dX7_joined_227 rfl ?_
                          exact x_siret K h dX7_joined_231
                    · have g := not_or.mp g1
                      refine x_tableIn (tgt := 218) (off := 217) K dX7_joined_1 g.1 g.2 (xtbl [37, 38, 42, 43, 45, 47, 60, 61, 62] (37) (62) (by decide +kernel) g.1 g.2 (by intro v hv; simp only [List.mem_cons, List.not_mem_nil, or_false] at hv; omega)) rfl ?_
                      refine x_iload_n (pc' := 219) K dX7_joined_218 1 rfl rfl ?_
                      refine x_if_ne (tgt := 226) (pc' := 222) K dX7_joined_219 rfl rfl (fun c219 => ?_) (fun c219 => ?_)
                      · replace h := h.1 c219
                        refine x_iconst (pc' := 227) (v := 1) K dX7_joined_226 (by decide) rfl ?_
                        refine x_goto (tgt := 231) K dX7_joined_227 rfl ?_
                        exact x_siret K h dX7_joined_231
                      · replace h := h.2 c219
                        refine x_iload_n (pc' := 223) K dX7_joined_222 2 rfl rfl ?_
                        refine x_if_eq (tgt := 230) (pc' := 226) K dX7_joined_223 rfl rfl (fun c223 => ?_) (fun c223 => ?_)
                        · replace h := h.1 c223
                          refine x_iconst (pc' := 231) (v := 0) K dX7_joined_230 (by decide) rfl ?_
                          exact x_siret K h dX7_joined_231
                        · replace h := h.2 c223
                          refine x_iconst (pc' := 227) (v := 1) K dX7_joined_226 (by decide) rfl ?_
                          refine x_goto (tgt := 231) K dX7_joined_227 rfl ?_
                          exact x_siret K h dX7_joined_231
/-! X7_worked -/
abbrev rmX7_worked : Room := { frames := 3, cells := 0, slots := 0, locals := 82 }
theorem dsX7_worked : xDesc yX7_worked 1 := by decide +kernel
theorem uX7_worked_f7 : Cond.fieldLink RX7 7 "PigNinthsModel" "s" "[I" ∈ wsX7_worked := nw_in nwl_X7_worked nwe_514 (by decide +kernel)
theorem hinX7_worked_X7 : ∀ w ∈ wsX70, w ∈ wsX7_worked := nw_all nwl_X7_worked nwl_X70 (by decide +kernel)
theorem uX7_worked_f28 : Cond.fieldLink RX7 28 "PigNinthsModel" "pile" "[I" ∈ wsX7_worked := nw_in nwl_X7_worked nwe_521 (by decide +kernel)
theorem uX7_worked_f25 : Cond.fieldLink RX7 25 "PigNinthsModel" "named" "[I" ∈ wsX7_worked := nw_in nwl_X7_worked nwe_520 (by decide +kernel)
set_option maxHeartbeats 4000000 in
set_option maxRecDepth 100000 in
theorem tX7_worked_65 (K : XK p m c cX7_worked 7 s args wsX7_worked RX7 D (xtys cI cO) A meth (some .int)) {Q : Int32 → xF → xA → Prop} {k13 : Int32 → Int32 → Int32 → xF → xA → Prop} (hk13 : ∀ (x2 : Int32) (x3 : Int32) (x4 : Int32) (F : xF) (G : xA), k13 x2 x3 x4 F G → XJ p l e rmX7_worked s m args below meth c 0 0 (MQ below (xQi D (w7 cI a) A Q) args s 0 0 A) D (xtys cI cO) A 7 (w7 cI a F G) 13 [(0, .ref (a 0)), (2, .int x2), (3, .int x3), (4, .int x4)] []) : ∀ (x2 : Int32) (x3 : Int32) (x4 : Int32) (x5 : Int32) (x6 : Int32) (F : xF) (G : xA), qX7_worked_65 Q k13 x2 x3 x4 x5 x6 F G → XJ p l e rmX7_worked s m args below meth c 0 0 (MQ below (xQi D (w7 cI a) A Q) args s 0 0 A) D (xtys cI cO) A 7 (w7 cI a F G) 65 [(0, .ref (a 0)), (2, .int x2), (3, .int x3), (4, .int x4), (5, .int x5), (6, .int x6)] [] := by
  intro x2 x3 x4 x5 x6 F G h
  refine x_aload_n (pc' := 66) K dX7_worked_65 0 rfl rfl ?_
  refine xw7_0g_pile (pc' := 69) K hinX7_worked_X7 uX7_worked_f28 dX7_worked_66 rfl ?_
  refine x_iload_n (pc' := 70) K dX7_worked_69 2 rfl rfl ?_
  refine x_iload (pc' := 72) K dX7_worked_70 4 rfl rfl ?_
  refine x_if_ne (tgt := 80) (pc' := 75) K dX7_worked_72 rfl rfl (fun c72 => ?_) (fun c72 => ?_)
  · replace h := h.1 c72
    refine x_aload_n (pc' := 81) K dX7_worked_80 0 rfl rfl ?_
    refine xw7_0g_named (pc' := 84) K hinX7_worked_X7 uX7_worked_f25 dX7_worked_81 rfl ?_
    refine x_iload (pc' := 86) K dX7_worked_84 5 rfl rfl ?_
    obtain ⟨i86, h⟩ := h
    refine xw7_6l (pc' := 87) K i86 rfl dX7_worked_86 rfl ?_
    obtain ⟨i87, h⟩ := h
    refine xw7_7s (pc' := 88) K i87 rfl dX7_worked_87 rfl (fun G87 eG87 => ?_)
    replace h := h G87 eG87
    refine x_iinc (pc' := 91) (v := _ + (1 : Int32)) K dX7_worked_88 2 rfl rfl (by decide) [1, 2, 0, 3, 4, 5] (L' := [(0, .ref (a 0)), (2, .int _), (3, .int _), (4, .int _), (5, .int _), (6, .int _)]) rfl rfl ?_
    refine x_goto (tgt := 157) K dX7_worked_91 rfl ?_
    refine x_iinc (pc' := 160) (v := _ + (1 : Int32)) K dX7_worked_157 3 rfl rfl (by decide) [1, 2, 3, 0, 4, 5] (L' := [(0, .ref (a 0)), (2, .int _), (3, .int _), (4, .int _), (5, .int _), (6, .int _)]) rfl rfl ?_
    refine x_goto (tgt := 13) K dX7_worked_160 rfl ?_
    refine x_locals [0, 1, 2, 3] (L' := [(0, .ref (a 0)), (2, .int _), (3, .int _), (4, .int _)]) rfl ?_
    exact hk13 _ _ _ _ _ h
  · replace h := h.2 c72
    refine x_iload (pc' := 77) K dX7_worked_75 5 rfl rfl ?_
    refine x_goto (tgt := 87) K dX7_worked_77 rfl ?_
    obtain ⟨i87, h⟩ := h
    refine xw7_7s (pc' := 88) K i87 rfl dX7_worked_87 rfl (fun G87 eG87 => ?_)
    replace h := h G87 eG87
    refine x_iinc (pc' := 91) (v := _ + (1 : Int32)) K dX7_worked_88 2 rfl rfl (by decide) [1, 2, 0, 3, 4, 5] (L' := [(0, .ref (a 0)), (2, .int _), (3, .int _), (4, .int _), (5, .int _), (6, .int _)]) rfl rfl ?_
    refine x_goto (tgt := 157) K dX7_worked_91 rfl ?_
    refine x_iinc (pc' := 160) (v := _ + (1 : Int32)) K dX7_worked_157 3 rfl rfl (by decide) [1, 2, 3, 0, 4, 5] (L' := [(0, .ref (a 0)), (2, .int _), (3, .int _), (4, .int _), (5, .int _), (6, .int _)]) rfl rfl ?_
    refine x_goto (tgt := 13) K dX7_worked_160 rfl ?_
    refine x_locals [0, 1, 2, 3] (L' := [(0, .ref (a 0)), (2, .int _), (3, .int _), (4, .int _)]) rfl ?_
    exact hk13 _ _ _ _ _ h
set_option maxHeartbeats 4000000 in
set_option maxRecDepth 100000 in
theorem tX7_worked_13 (K : XK p m c cX7_worked 7 s args wsX7_worked RX7 D (xtys cI cO) A meth (some .int)) {Q : Int32 → xF → xA → Prop} : ∀ (n : Nat), ∀ (x2 : Int32) (x3 : Int32) (x4 : Int32) (F : xF) (G : xA), qX7_worked_13 Q n x2 x3 x4 F G → XJ p l e rmX7_worked s m args below meth c 0 0 (MQ below (xQi D (w7 cI a) A Q) args s 0 0 A) D (xtys cI cO) A 7 (w7 cI a F G) 13 [(0, .ref (a 0)), (2, .int x2), (3, .int x3), (4, .int x4)] [] := by
  intro n
  induction n with
  | zero =>
    intro x2 x3 x4 F G h
    exact False.elim h
  | succ n ih =>
    intro x2 x3 x4 F G h
    refine x_iload (pc' := 15) K dX7_worked_13 3 rfl rfl ?_
    refine x_aload_n (pc' := 16) K dX7_worked_15 0 rfl rfl ?_
    refine xw7_0g_s (pc' := 19) K hinX7_worked_X7 uX7_worked_f7 dX7_worked_16 rfl ?_
    refine x_iload_n (pc' := 20) K dX7_worked_19 1 rfl rfl ?_
    obtain ⟨i20, h⟩ := h
    refine xw7_1l (pc' := 21) K i20 rfl dX7_worked_20 rfl ?_
    refine x_icmp_ge (tgt := 163) (pc' := 24) K dX7_worked_21 rfl rfl (fun c21 => ?_) (fun c21 => ?_)
    · replace h := h.1 c21
      refine x_aload_n (pc' := 164) K dX7_worked_163 0 rfl rfl ?_
      refine xw7_0g_pile (pc' := 167) K hinX7_worked_X7 uX7_worked_f28 dX7_worked_164 rfl ?_
      refine x_iconst (pc' := 168) (v := 0) K dX7_worked_167 (by decide) rfl ?_
      refine xw7_7l (pc' := 169) K (j := 0) (xin_of (by decide +kernel)) (by decide +kernel) dX7_worked_168 rfl ?_
      exact x_iret (wf := w7 cI a) K h dX7_worked_169
    · replace h := h.2 c21
      refine x_aload_n (pc' := 25) K dX7_worked_24 0 rfl rfl ?_
      refine xw7_0g_s (pc' := 28) K hinX7_worked_X7 uX7_worked_f7 dX7_worked_25 rfl ?_
      refine x_iload_n (pc' := 29) K dX7_worked_28 1 rfl rfl ?_
      refine x_iconst (pc' := 30) (v := 1) K dX7_worked_29 (by decide) rfl ?_
      refine x_iadd (pc' := 31) K dX7_worked_30 rfl ?_
      refine x_iconst (pc' := 32) (v := 2) K dX7_worked_31 (by decide) rfl ?_
      refine x_iload (pc' := 34) K dX7_worked_32 3 rfl rfl ?_
      refine x_imul (pc' := 35) K dX7_worked_34 rfl ?_
      refine x_iadd (pc' := 36) K dX7_worked_35 rfl ?_
      obtain ⟨i36, h⟩ := h
      refine xw7_1l (pc' := 37) K i36 rfl dX7_worked_36 rfl ?_
      refine x_istore (pc' := 39) (i := 5) K dX7_worked_37 (by decide) [1, 2, 3, 4, 0] (L' := [(0, .ref (a 0)), (2, .int _), (3, .int _), (4, .int _), (5, .int _)]) rfl rfl ?_
      refine x_aload_n (pc' := 40) K dX7_worked_39 0 rfl rfl ?_
      refine xw7_0g_s (pc' := 43) K hinX7_worked_X7 uX7_worked_f7 dX7_worked_40 rfl ?_
      refine x_iload_n (pc' := 44) K dX7_worked_43 1 rfl rfl ?_
      refine x_iconst (pc' := 45) (v := 2) K dX7_worked_44 (by decide) rfl ?_
      refine x_iadd (pc' := 46) K dX7_worked_45 rfl ?_
      refine x_iconst (pc' := 47) (v := 2) K dX7_worked_46 (by decide) rfl ?_
      refine x_iload (pc' := 49) K dX7_worked_47 3 rfl rfl ?_
      refine x_imul (pc' := 50) K dX7_worked_49 rfl ?_
      refine x_iadd (pc' := 51) K dX7_worked_50 rfl ?_
      obtain ⟨i51, h⟩ := h
      refine xw7_1l (pc' := 52) K i51 rfl dX7_worked_51 rfl ?_
      refine x_istore (pc' := 54) (i := 6) K dX7_worked_52 (by decide) [1, 2, 3, 4, 5, 0] (L' := [(0, .ref (a 0)), (2, .int _), (3, .int _), (4, .int _), (5, .int _), (6, .int _)]) rfl rfl ?_
      refine x_iload (pc' := 56) K dX7_worked_54 4 rfl rfl ?_
      refine x_if_eq (tgt := 65) (pc' := 59) K dX7_worked_56 rfl rfl (fun c56 => ?_) (fun c56 => ?_)
      · replace h := h.1 c56
        exact tX7_worked_65 K (fun x2 x3 x4 F G h => ih x2 x3 x4 F G h) _ _ _ _ _ _ _ h
      · replace h := h.2 c56
        refine x_iload (pc' := 61) K dX7_worked_59 4 rfl rfl ?_
        refine x_iconst (pc' := 62) (v := 1) K dX7_worked_61 (by decide) rfl ?_
        refine x_icmp_ne (tgt := 94) (pc' := 65) K dX7_worked_62 rfl rfl (fun c62 => ?_) (fun c62 => ?_)
        · replace h := h.1 c62
          refine x_iload (pc' := 96) K dX7_worked_94 4 rfl rfl ?_
          refine x_iconst (pc' := 97) (v := 2) K dX7_worked_96 (by decide) rfl ?_
          refine x_icmp_ne (tgt := 127) (pc' := 100) K dX7_worked_97 rfl rfl (fun c97 => ?_) (fun c97 => ?_)
          · replace h := h.1 c97
            refine x_iinc (pc' := 130) (v := _ + (-1 : Int32)) K dX7_worked_127 2 rfl rfl (by decide) [1, 2, 0, 3, 4, 5] (L' := [(0, .ref (a 0)), (2, .int _), (3, .int _), (4, .int _), (5, .int _), (6, .int _)]) rfl rfl ?_
            refine x_aload_n (pc' := 131) K dX7_worked_130 0 rfl rfl ?_
            refine xw7_0g_pile (pc' := 134) K hinX7_worked_X7 uX7_worked_f28 dX7_worked_131 rfl ?_
            refine x_iload_n (pc' := 135) K dX7_worked_134 2 rfl rfl ?_
            refine x_iconst (pc' := 136) (v := 1) K dX7_worked_135 (by decide) rfl ?_
            refine x_isub (pc' := 137) K dX7_worked_136 rfl ?_
            refine x_iload (pc' := 139) K dX7_worked_137 5 rfl rfl ?_
            refine x_aload_n (pc' := 140) K dX7_worked_139 0 rfl rfl ?_
            refine xw7_0g_pile (pc' := 143) K hinX7_worked_X7 uX7_worked_f28 dX7_worked_140 rfl ?_
            refine x_iload_n (pc' := 144) K dX7_worked_143 2 rfl rfl ?_
            refine x_iconst (pc' := 145) (v := 1) K dX7_worked_144 (by decide) rfl ?_
            refine x_isub (pc' := 146) K dX7_worked_145 rfl ?_
            obtain ⟨i146, h⟩ := h
            refine xw7_7l (pc' := 147) K i146 rfl dX7_worked_146 rfl ?_
            refine x_aload_n (pc' := 148) K dX7_worked_147 0 rfl rfl ?_
            refine xw7_0g_pile (pc' := 151) K hinX7_worked_X7 uX7_worked_f28 dX7_worked_148 rfl ?_
            refine x_iload_n (pc' := 152) K dX7_worked_151 2 rfl rfl ?_
            obtain ⟨i152, h⟩ := h
            refine xw7_7l (pc' := 153) K i152 rfl dX7_worked_152 rfl ?_
            refine x_callS (pc' := 156) K (mX7_joined l D cI cO a _ _ _) rfl gX7_worked_X7_joined dsX7_joined ⟨rfl, rfl, ⟨Nat.le_of_ble_eq_true rfl, Nat.le_of_ble_eq_true rfl⟩, Nat.le_of_ble_eq_true rfl, Nat.le_of_ble_eq_true rfl⟩ h (st := [.int _, .ref (a 7)]) rfl rfl (Nat.le_of_ble_eq_true rfl) dX7_worked_153 rfl (fun r153 h => ?_)
            obtain ⟨i156, h⟩ := h
            refine xw7_7s (pc' := 157) K i156 rfl dX7_worked_156 rfl (fun G156 eG156 => ?_)
            replace h := h G156 eG156
            refine x_iinc (pc' := 160) (v := _ + (1 : Int32)) K dX7_worked_157 3 rfl rfl (by decide) [1, 2, 3, 0, 4, 5] (L' := [(0, .ref (a 0)), (2, .int _), (3, .int _), (4, .int _), (5, .int _), (6, .int _)]) rfl rfl ?_
            refine x_goto (tgt := 13) K dX7_worked_160 rfl ?_
            refine x_locals [0, 1, 2, 3] (L' := [(0, .ref (a 0)), (2, .int _), (3, .int _), (4, .int _)]) rfl ?_
            exact ih _ _ _ _ _ h
          · replace h := h.2 c97
            refine x_aload_n (pc' := 101) K dX7_worked_100 0 rfl rfl ?_
            refine xw7_0g_pile (pc' := 104) K hinX7_worked_X7 uX7_worked_f28 dX7_worked_101 rfl ?_
            refine x_iload_n (pc' := 105) K dX7_worked_104 2 rfl rfl ?_
            refine x_iconst (pc' := 106) (v := 1) K dX7_worked_105 (by decide) rfl ?_
            refine x_isub (pc' := 107) K dX7_worked_106 rfl ?_
            refine x_aload_n (pc' := 108) K dX7_worked_107 0 rfl rfl ?_
            refine xw7_0g_pile (pc' := 111) K hinX7_worked_X7 uX7_worked_f28 dX7_worked_108 rfl ?_
            refine x_iload_n (pc' := 112) K dX7_worked_111 2 rfl rfl ?_
            refine x_iconst (pc' := 113) (v := 1) K dX7_worked_112 (by decide) rfl ?_
            refine x_isub (pc' := 114) K dX7_worked_113 rfl ?_
            obtain ⟨i114, h⟩ := h
            refine xw7_7l (pc' := 115) K i114 rfl dX7_worked_114 rfl ?_
            refine x_if_ne (tgt := 122) (pc' := 118) K dX7_worked_115 rfl rfl (fun c115 => ?_) (fun c115 => ?_)
            · replace h := h.1 c115
              refine x_iconst (pc' := 123) (v := 0) K dX7_worked_122 (by decide) rfl ?_
              obtain ⟨i123, h⟩ := h
              refine xw7_7s (pc' := 124) K i123 rfl dX7_worked_123 rfl (fun G123 eG123 => ?_)
              replace h := h G123 eG123
              refine x_goto (tgt := 157) K dX7_worked_124 rfl ?_
              refine x_iinc (pc' := 160) (v := _ + (1 : Int32)) K dX7_worked_157 3 rfl rfl (by decide) [1, 2, 3, 0, 4, 5] (L' := [(0, .ref (a 0)), (2, .int _), (3, .int _), (4, .int _), (5, .int _), (6, .int _)]) rfl rfl ?_
              refine x_goto (tgt := 13) K dX7_worked_160 rfl ?_
              refine x_locals [0, 1, 2, 3] (L' := [(0, .ref (a 0)), (2, .int _), (3, .int _), (4, .int _)]) rfl ?_
              exact ih _ _ _ _ _ h
            · replace h := h.2 c115
              refine x_iconst (pc' := 119) (v := 1) K dX7_worked_118 (by decide) rfl ?_
              refine x_goto (tgt := 123) K dX7_worked_119 rfl ?_
              obtain ⟨i123, h⟩ := h
              refine xw7_7s (pc' := 124) K i123 rfl dX7_worked_123 rfl (fun G123 eG123 => ?_)
              replace h := h G123 eG123
              refine x_goto (tgt := 157) K dX7_worked_124 rfl ?_
              refine x_iinc (pc' := 160) (v := _ + (1 : Int32)) K dX7_worked_157 3 rfl rfl (by decide) [1, 2, 3, 0, 4, 5] (L' := [(0, .ref (a 0)), (2, .int _), (3, .int _), (4, .int _), (5, .int _), (6, .int _)]) rfl rfl ?_
              refine x_goto (tgt := 13) K dX7_worked_160 rfl ?_
              refine x_locals [0, 1, 2, 3] (L' := [(0, .ref (a 0)), (2, .int _), (3, .int _), (4, .int _)]) rfl ?_
              exact ih _ _ _ _ _ h
        · replace h := h.2 c62
          exact tX7_worked_65 K (fun x2 x3 x4 F G h => ih x2 x3 x4 F G h) _ _ _ _ _ _ _ h
set_option maxHeartbeats 4000000 in
set_option maxRecDepth 100000 in
theorem mX7_worked (l : Launch) (D : va_G) (cI cO : ClassId) (a : Nat → Nat)  (x1 : Int32) : MI l yX7_worked wsX7_worked rmX7_worked D (xtys cI cO) [.ref (a 0), .int x1] (w7 cI a) (qX7_worked x1) := by
  refine MI_of (cc := cX7_worked) (maxL := 7) (own := RX7) (by decide) rfl rfl (Nat.le_of_ble_eq_true rfl) ?_
  intro p e s m args below meth c A F G Q h K
  refine x_locals [0, 1] (L' := [(0, .ref (a 0)), (1, .int _)]) rfl ?_
  refine x_bipush (pc' := 2) (v := 121) K dX7_worked_0 (by decide) rfl ?_
  refine x_bipush (pc' := 4) (v := 125) K dX7_worked_2 (by decide) rfl ?_
  refine x_iload_n (pc' := 5) K dX7_worked_4 1 rfl rfl ?_
  refine x_imul (pc' := 6) K dX7_worked_5 rfl ?_
  refine x_iadd (pc' := 7) K dX7_worked_6 rfl ?_
  refine x_istore_n (pc' := 8) (i := 2) K dX7_worked_7 rfl (by decide) [1, 2, 0] (L' := [(0, .ref (a 0)), (1, .int _), (2, .int _)]) rfl rfl ?_
  refine x_iconst (pc' := 9) (v := 0) K dX7_worked_8 (by decide) rfl ?_
  refine x_istore_n (pc' := 10) (i := 3) K dX7_worked_9 rfl (by decide) [1, 2, 3, 0] (L' := [(0, .ref (a 0)), (1, .int _), (2, .int _), (3, .int _)]) rfl rfl ?_
  refine x_iconst (pc' := 11) (v := 0) K dX7_worked_10 (by decide) rfl ?_
  refine x_istore (pc' := 13) (i := 4) K dX7_worked_11 (by decide) [1, 2, 3, 4, 0] (L' := [(0, .ref (a 0)), (1, .int _), (2, .int _), (3, .int _), (4, .int _)]) rfl rfl ?_
  refine x_locals [0, 2, 3, 4] (L' := [(0, .ref (a 0)), (2, .int _), (3, .int _), (4, .int _)]) rfl ?_
  obtain ⟨n13, h⟩ := h
  exact tX7_worked_13 K n13 _ _ _ _ _ h
/-! X7_feedsTold -/
abbrev rmX7_feedsTold : Room := { frames := 4, cells := 0, slots := 0, locals := 108 }
theorem dsX7_feedsTold : xDesc yX7_feedsTold 2 := by decide +kernel
theorem uX7_feedsTold_f25 : Cond.fieldLink RX7 25 "PigNinthsModel" "named" "[I" ∈ wsX7_feedsTold := nw_in nwl_X7_feedsTold nwe_520 (by decide +kernel)
theorem hinX7_feedsTold_X7 : ∀ w ∈ wsX70, w ∈ wsX7_feedsTold := nw_all nwl_X7_feedsTold nwl_X70 (by decide +kernel)
theorem uX7_feedsTold_f7 : Cond.fieldLink RX7 7 "PigNinthsModel" "s" "[I" ∈ wsX7_feedsTold := nw_in nwl_X7_feedsTold nwe_514 (by decide +kernel)
set_option maxHeartbeats 4000000 in
set_option maxRecDepth 100000 in
theorem mX7_feedsTold (l : Launch) (D : va_G) (cI cO : ClassId) (a : Nat → Nat)  (x1 : Int32) (x2 : Int32) : MI l yX7_feedsTold wsX7_feedsTold rmX7_feedsTold D (xtys cI cO) [.ref (a 0), .int x1, .int x2] (w7 cI a) (qX7_feedsTold x1 x2) := by
  refine MI_of (cc := cX7_feedsTold) (maxL := 3) (own := RX7) (by decide) rfl rfl (Nat.le_of_ble_eq_true rfl) ?_
  intro p e s m args below meth c A F G Q h K
  refine x_locals [0, 1, 2] (L' := [(0, .ref (a 0)), (1, .int _), (2, .int _)]) rfl ?_
  refine x_aload_n (pc' := 1) K dX7_feedsTold_0 0 rfl rfl ?_
  refine x_iconst (pc' := 2) (v := 0) K dX7_feedsTold_1 (by decide) rfl ?_
  refine x_callI (pc' := 5) K (mX7_hasText l D cI cO a _) rfl gX7_feedsTold_X7_hasText rfl dsX7_hasText ⟨rfl, rfl, ⟨Nat.le_of_ble_eq_true rfl, Nat.le_of_ble_eq_true rfl⟩, Nat.le_of_ble_eq_true rfl, Nat.le_of_ble_eq_true rfl⟩ h 7 0 rfl rfl (st := []) rfl rfl (Nat.le_of_ble_eq_true rfl) dX7_feedsTold_2 rfl (fun r2 F2 G2 h => ?_)
  refine x_if_ne (tgt := 10) (pc' := 8) K dX7_feedsTold_5 rfl rfl (fun c5 => ?_) (fun c5 => ?_)
  · replace h := h.1 c5
    refine x_aload_n (pc' := 11) K dX7_feedsTold_10 0 rfl rfl ?_
    refine xw7_0g_named (pc' := 14) K hinX7_feedsTold_X7 uX7_feedsTold_f25 dX7_feedsTold_11 rfl ?_
    refine x_bipush (pc' := 16) (v := 102) K dX7_feedsTold_14 (by decide) rfl ?_
    refine x_iload_n (pc' := 17) K dX7_feedsTold_16 2 rfl rfl ?_
    refine xw7_6s (pc' := 18) K (j := 102) (xin_of (by decide +kernel)) (by decide +kernel) dX7_feedsTold_17 rfl (fun G17 eG17 => ?_)
    replace h := h G17 eG17
    refine x_aload_n (pc' := 19) K dX7_feedsTold_18 0 rfl rfl ?_
    refine xw7_0g_named (pc' := 22) K hinX7_feedsTold_X7 uX7_feedsTold_f25 dX7_feedsTold_19 rfl ?_
    refine x_bipush (pc' := 24) (v := 104) K dX7_feedsTold_22 (by decide) rfl ?_
    refine x_aload_n (pc' := 25) K dX7_feedsTold_24 0 rfl rfl ?_
    refine xw7_0g_s (pc' := 28) K hinX7_feedsTold_X7 uX7_feedsTold_f7 dX7_feedsTold_25 rfl ?_
    refine x_iconst (pc' := 29) (v := 3) K dX7_feedsTold_28 (by decide) rfl ?_
    refine xw7_1l (pc' := 30) K (j := 3) (xin_of (by decide +kernel)) (by decide +kernel) dX7_feedsTold_29 rfl ?_
    refine xw7_6s (pc' := 31) K (j := 104) (xin_of (by decide +kernel)) (by decide +kernel) dX7_feedsTold_30 rfl (fun G30 eG30 => ?_)
    replace h := h G30 eG30
    refine x_aload_n (pc' := 32) K dX7_feedsTold_31 0 rfl rfl ?_
    refine xw7_0g_named (pc' := 35) K hinX7_feedsTold_X7 uX7_feedsTold_f25 dX7_feedsTold_32 rfl ?_
    refine x_bipush (pc' := 37) (v := 109) K dX7_feedsTold_35 (by decide) rfl ?_
    refine x_aload_n (pc' := 38) K dX7_feedsTold_37 0 rfl rfl ?_
    refine x_iload_n (pc' := 39) K dX7_feedsTold_38 1 rfl rfl ?_
    refine x_iconst (pc' := 40) (v := 1) K dX7_feedsTold_39 (by decide) rfl ?_
    refine x_callI (pc' := 43) K (mX7_its l D cI cO a _ _) rfl gX7_feedsTold_X7_its rfl dsX7_its ⟨rfl, rfl, ⟨Nat.le_of_ble_eq_true rfl, Nat.le_of_ble_eq_true rfl⟩, Nat.le_of_ble_eq_true rfl, Nat.le_of_ble_eq_true rfl⟩ h 7 0 rfl rfl (st := [.int _, .ref (a 6)]) rfl rfl (Nat.le_of_ble_eq_true rfl) dX7_feedsTold_40 rfl (fun r40 F40 G40 h => ?_)
    refine xw7_6s (pc' := 44) K (j := 109) (xin_of (by decide +kernel)) (by decide +kernel) dX7_feedsTold_43 rfl (fun G43 eG43 => ?_)
    replace h := h G43 eG43
    refine x_aload_n (pc' := 45) K dX7_feedsTold_44 0 rfl rfl ?_
    refine x_iconst (pc' := 46) (v := 0) K dX7_feedsTold_45 (by decide) rfl ?_
    refine x_callI (pc' := 49) K (mX7_worked l D cI cO a _) rfl gX7_feedsTold_X7_worked rfl dsX7_worked ⟨rfl, rfl, ⟨Nat.le_of_ble_eq_true rfl, Nat.le_of_ble_eq_true rfl⟩, Nat.le_of_ble_eq_true rfl, Nat.le_of_ble_eq_true rfl⟩ h 7 0 rfl rfl (st := []) rfl rfl (Nat.le_of_ble_eq_true rfl) dX7_feedsTold_46 rfl (fun r46 F46 G46 h => ?_)
    exact x_iret (wf := w7 cI a) K h dX7_feedsTold_49
  · replace h := h.2 c5
    refine x_iconst (pc' := 9) (v := 4) K dX7_feedsTold_8 (by decide) rfl ?_
    exact x_iret (wf := w7 cI a) K h dX7_feedsTold_9
end
