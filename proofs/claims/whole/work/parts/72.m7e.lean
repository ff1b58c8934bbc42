section
variable {p : Program} {l : Launch} {e : Env} {s : State} {m : MethodId} {args : Array Value} {below : List Frame} {meth : Method} {c : Code} {D : va_G} {cI cO : ClassId} {A : Nat → Prop} {a : Nat → Nat} {d : Nat}
/-! X7_lacks -/
abbrev rmX7_lacks : Room := { frames := 4, cells := 0, slots := 0, locals := 102 }
theorem dsX7_lacks : xDesc yX7_lacks 1 := by decide +kernel
theorem uX7_lacks_f47 : Cond.fieldLink RX7 47 "PigNinthsModel" "bits" "[I" ∈ wsX7_lacks := nw_in nwl_X7_lacks nwe_527 (by decide +kernel)
theorem hinX7_lacks_X7 : ∀ w ∈ wsX70, w ∈ wsX7_lacks := nw_all nwl_X7_lacks nwl_X70 (by decide +kernel)
set_option maxHeartbeats 4000000 in
set_option maxRecDepth 100000 in
theorem mX7_lacks (l : Launch) (D : va_G) (cI cO : ClassId) (a : Nat → Nat)  (x1 : Int32) : MI l yX7_lacks wsX7_lacks rmX7_lacks D (xtys cI cO) [.ref (a 0), .int x1] (w7 cI a) (qX7_lacks x1) := by
  refine MI_of (cc := cX7_lacks) (maxL := 2) (own := RX7) (by decide) rfl rfl (Nat.le_of_ble_eq_true rfl) ?_
  intro p e s m args below meth c A F G Q h K
  refine x_locals [0, 1] (L' := [(0, .ref (a 0)), (1, .int _)]) rfl ?_
  refine x_iload_n (pc' := 1) K dX7_lacks_0 1 rfl rfl ?_
  refine x_callS (pc' := 4) K (mX7_isSheet l D cI cO a _) rfl gX7_lacks_X7_isSheet dsX7_isSheet ⟨rfl, rfl, ⟨Nat.le_of_ble_eq_true rfl, Nat.le_of_ble_eq_true rfl⟩, Nat.le_of_ble_eq_true rfl, Nat.le_of_ble_eq_true rfl⟩ h (st := []) rfl rfl (Nat.le_of_ble_eq_true rfl) dX7_lacks_1 rfl (fun r1 h => ?_)
  refine x_if_ne (tgt := 11) (pc' := 7) K dX7_lacks_4 rfl rfl (fun c4 => ?_) (fun c4 => ?_)
  · replace h := h.1 c4
    refine x_aload_n (pc' := 12) K dX7_lacks_11 0 rfl rfl ?_
    refine xw7_0g_bits (pc' := 15) K hinX7_lacks_X7 uX7_lacks_f47 dX7_lacks_12 rfl ?_
    refine x_iload_n (pc' := 16) K dX7_lacks_15 1 rfl rfl ?_
    obtain ⟨i16, h⟩ := h
    refine xw7_12l (pc' := 17) K i16 rfl dX7_lacks_16 rfl ?_
    refine x_if_ne (tgt := 24) (pc' := 20) K dX7_lacks_17 rfl rfl (fun c17 => ?_) (fun c17 => ?_)
    · replace h := h.1 c17
      refine x_iconst (pc' := 25) (v := 0) K dX7_lacks_24 (by decide) rfl ?_
      exact x_iret (wf := w7 cI a) K h dX7_lacks_25
    · replace h := h.2 c17
      refine x_iconst (pc' := 21) (v := 2) K dX7_lacks_20 (by decide) rfl ?_
      refine x_goto (tgt := 25) K dX7_lacks_21 rfl ?_
      exact x_iret (wf := w7 cI a) K h dX7_lacks_25
  · replace h := h.2 c4
    refine x_iconst (pc' := 8) (v := 1) K dX7_lacks_7 (by decide) rfl ?_
    refine x_goto (tgt := 25) K dX7_lacks_8 rfl ?_
    exact x_iret (wf := w7 cI a) K h dX7_lacks_25
/-! X7_unders -/
abbrev rmX7_unders : Room := { frames := 5, cells := 0, slots := 0, locals := 123 }
theorem dsX7_unders : xDesc yX7_unders 1 := by decide +kernel
theorem uX7_unders_f50 : Cond.fieldLink RX7 50 "PigNinthsModel" "sizes" "[I" ∈ wsX7_unders := nw_in nwl_X7_unders nwe_528 (by decide +kernel)
theorem hinX7_unders_X7 : ∀ w ∈ wsX70, w ∈ wsX7_unders := nw_all nwl_X7_unders nwl_X70 (by decide +kernel)
theorem uX7_unders_f53 : Cond.fieldLink RX7 53 "PigNinthsModel" "number" "[I" ∈ wsX7_unders := nw_in nwl_X7_unders nwe_529 (by decide +kernel)
theorem uX7_unders_f7 : Cond.fieldLink RX7 7 "PigNinthsModel" "s" "[I" ∈ wsX7_unders := nw_in nwl_X7_unders nwe_514 (by decide +kernel)
set_option maxHeartbeats 4000000 in
set_option maxRecDepth 100000 in
theorem tX7_unders_18 (K : XK p m c cX7_unders 4 s args wsX7_unders RX7 D (xtys cI cO) A meth (some .int)) {Q : Int32 → xF → xA → Prop} : ∀ (n : Nat), ∀ (x1 : Int32) (x3 : Int32) (F : xF) (G : xA), qX7_unders_18 Q n x1 x3 F G → XJ p l e rmX7_unders s m args below meth c 0 0 (MQ below (xQi D (w7 cI a) A Q) args s 0 0 A) D (xtys cI cO) A 4 (w7 cI a F G) 18 [(0, .ref (a 0)), (1, .int x1), (3, .int x3)] [] := by
  intro n
  induction n with
  | zero =>
    intro x1 x3 F G h
    exact False.elim h
  | succ n ih =>
    intro x1 x3 F G h
    refine x_iload_n (pc' := 19) K dX7_unders_18 2 rfl rfl ?_
    refine x_aload_n (pc' := 20) K dX7_unders_19 0 rfl rfl ?_
    refine xw7_0g_sizes (pc' := 23) K hinX7_unders_X7 uX7_unders_f50 dX7_unders_20 rfl ?_
    refine x_iload_n (pc' := 24) K dX7_unders_23 1 rfl rfl ?_
    obtain ⟨i24, h⟩ := h
    refine xw7_13l (pc' := 25) K i24 rfl dX7_unders_24 rfl ?_
    refine x_icmp_ge (tgt := 81) (pc' := 28) K dX7_unders_25 rfl rfl (fun c25 => ?_) (fun c25 => ?_)
    · replace h := h.1 c25
      refine x_iload_n (pc' := 82) K dX7_unders_81 2 rfl rfl ?_
      exact x_iret (wf := w7 cI a) K h dX7_unders_82
    · replace h := h.2 c25
      refine x_iload_n (pc' := 29) K dX7_unders_28 2 rfl rfl ?_
      refine x_bipush (pc' := 31) (v := 16) K dX7_unders_29 (by decide) rfl ?_
      refine x_icmp_ge (tgt := 81) (pc' := 34) K dX7_unders_31 rfl rfl (fun c31 => ?_) (fun c31 => ?_)
      · replace h := h.1 c31
        refine x_iload_n (pc' := 82) K dX7_unders_81 2 rfl rfl ?_
        exact x_iret (wf := w7 cI a) K h dX7_unders_82
      · replace h := h.2 c31
        refine x_aload_n (pc' := 35) K dX7_unders_34 0 rfl rfl ?_
        refine xw7_0g_number (pc' := 38) K hinX7_unders_X7 uX7_unders_f53 dX7_unders_35 rfl ?_
        refine x_bipush (pc' := 40) (v := 24) K dX7_unders_38 (by decide) rfl ?_
        refine x_iload_n (pc' := 41) K dX7_unders_40 1 rfl rfl ?_
        refine x_imul (pc' := 42) K dX7_unders_41 rfl ?_
        refine x_iload_n (pc' := 43) K dX7_unders_42 2 rfl rfl ?_
        refine x_iadd (pc' := 44) K dX7_unders_43 rfl ?_
        obtain ⟨i44, h⟩ := h
        refine xw7_14l (pc' := 45) K i44 rfl dX7_unders_44 rfl ?_
        refine x_iconst (pc' := 46) (v := 0) K dX7_unders_45 (by decide) rfl ?_
        refine x_sipush (pc' := 49) (v := 999) K dX7_unders_46 (by decide) rfl ?_
        refine x_callS (pc' := 52) K (mX7_in l D cI cO a _ _ _) rfl gX7_unders_X7_in dsX7_in ⟨rfl, rfl, ⟨Nat.le_of_ble_eq_true rfl, Nat.le_of_ble_eq_true rfl⟩, Nat.le_of_ble_eq_true rfl, Nat.le_of_ble_eq_true rfl⟩ h (st := []) rfl rfl (Nat.le_of_ble_eq_true rfl) dX7_unders_49 rfl (fun r49 h => ?_)
        refine x_if_eq (tgt := 81) (pc' := 55) K dX7_unders_52 rfl rfl (fun c52 => ?_) (fun c52 => ?_)
        · replace h := h.1 c52
          refine x_iload_n (pc' := 82) K dX7_unders_81 2 rfl rfl ?_
          exact x_iret (wf := w7 cI a) K h dX7_unders_82
        · replace h := h.2 c52
          refine x_aload_n (pc' := 56) K dX7_unders_55 0 rfl rfl ?_
          refine xw7_0g_s (pc' := 59) K hinX7_unders_X7 uX7_unders_f7 dX7_unders_56 rfl ?_
          refine x_bipush (pc' := 61) (v := 24) K dX7_unders_59 (by decide) rfl ?_
          refine x_iload_n (pc' := 62) K dX7_unders_61 2 rfl rfl ?_
          refine x_iadd (pc' := 63) K dX7_unders_62 rfl ?_
          refine x_aload_n (pc' := 64) K dX7_unders_63 0 rfl rfl ?_
          refine xw7_0g_number (pc' := 67) K hinX7_unders_X7 uX7_unders_f53 dX7_unders_64 rfl ?_
          refine x_bipush (pc' := 69) (v := 24) K dX7_unders_67 (by decide) rfl ?_
          refine x_iload_n (pc' := 70) K dX7_unders_69 1 rfl rfl ?_
          refine x_imul (pc' := 71) K dX7_unders_70 rfl ?_
          refine x_iload_n (pc' := 72) K dX7_unders_71 2 rfl rfl ?_
          refine x_iadd (pc' := 73) K dX7_unders_72 rfl ?_
          obtain ⟨i73, h⟩ := h
          refine xw7_14l (pc' := 74) K i73 rfl dX7_unders_73 rfl ?_
          obtain ⟨i74, h⟩ := h
          refine xw7_1s (pc' := 75) K i74 rfl dX7_unders_74 rfl (fun G74 eG74 => ?_)
          replace h := h G74 eG74
          refine x_iinc (pc' := 78) (v := _ + (1 : Int32)) K dX7_unders_75 2 rfl rfl (by decide) [1, 2, 0] (L' := [(0, .ref (a 0)), (1, .int _), (3, .int _)]) rfl rfl ?_
          refine x_goto (tgt := 18) K dX7_unders_78 rfl ?_
          exact ih _ _ _ _ h
set_option maxHeartbeats 4000000 in
set_option maxRecDepth 100000 in
theorem mX7_unders (l : Launch) (D : va_G) (cI cO : ClassId) (a : Nat → Nat)  (x1 : Int32) : MI l yX7_unders wsX7_unders rmX7_unders D (xtys cI cO) [.ref (a 0), .int x1] (w7 cI a) (qX7_unders x1) := by
  refine MI_of (cc := cX7_unders) (maxL := 4) (own := RX7) (by decide) rfl rfl (Nat.le_of_ble_eq_true rfl) ?_
  intro p e s m args below meth c A F G Q h K
  refine x_locals [0, 1] (L' := [(0, .ref (a 0)), (1, .int _)]) rfl ?_
  refine x_aload_n (pc' := 1) K dX7_unders_0 0 rfl rfl ?_
  refine x_iload_n (pc' := 2) K dX7_unders_1 1 rfl rfl ?_
  refine x_callI (pc' := 5) K (mX7_lacks l D cI cO a _) rfl gX7_unders_X7_lacks rfl dsX7_lacks ⟨rfl, rfl, ⟨Nat.le_of_ble_eq_true rfl, Nat.le_of_ble_eq_true rfl⟩, Nat.le_of_ble_eq_true rfl, Nat.le_of_ble_eq_true rfl⟩ h 7 0 rfl rfl (st := []) rfl rfl (Nat.le_of_ble_eq_true rfl) dX7_unders_2 rfl (fun r2 F2 G2 h => ?_)
  refine x_istore_n (pc' := 6) (i := 2) K dX7_unders_5 rfl (by decide) [1, 2, 0] (L' := [(0, .ref (a 0)), (1, .int _), (2, .int _)]) rfl rfl ?_
  refine x_iload_n (pc' := 7) K dX7_unders_6 2 rfl rfl ?_
  refine x_if_le (tgt := 16) (pc' := 10) K dX7_unders_7 rfl rfl (fun c7 => ?_) (fun c7 => ?_)
  · replace h := h.1 c7
    refine x_iconst (pc' := 17) (v := 0) K dX7_unders_16 (by decide) rfl ?_
    refine x_istore_n (pc' := 18) (i := 3) K dX7_unders_17 rfl (by decide) [1, 2, 3, 0] (L' := [(0, .ref (a 0)), (1, .int _), (2, .int _), (3, .int _)]) rfl rfl ?_
    refine x_locals [0, 1, 3] (L' := [(0, .ref (a 0)), (1, .int _), (3, .int _)]) rfl ?_
    obtain ⟨n18, h⟩ := h
    exact tX7_unders_18 K n18 _ _ _ _ h
  · replace h := h.2 c7
    refine x_aload_n (pc' := 11) K dX7_unders_10 0 rfl rfl ?_
    refine x_iload_n (pc' := 12) K dX7_unders_11 2 rfl rfl ?_
    refine x_callI (pc' := 15) K (mX7_error l D cI cO a _) rfl gX7_unders_X7_error rfl dsX7_error ⟨rfl, rfl, ⟨Nat.le_of_ble_eq_true rfl, Nat.le_of_ble_eq_true rfl⟩, Nat.le_of_ble_eq_true rfl, Nat.le_of_ble_eq_true rfl⟩ h 7 0 rfl rfl (st := []) rfl rfl (Nat.le_of_ble_eq_true rfl) dX7_unders_12 rfl (fun r12 F12 G12 h => ?_)
    exact x_iret (wf := w7 cI a) K h dX7_unders_15
/-! X7_judge -/
abbrev rmX7_judge : Room := { frames := 8, cells := 0, slots := 0, locals := 205 }
theorem dsX7_judge : xDesc yX7_judge 1 := by decide +kernel
theorem uX7_judge_f50 : Cond.fieldLink RX7 50 "PigNinthsModel" "sizes" "[I" ∈ wsX7_judge := nw_in nwl_X7_judge nwe_528 (by decide +kernel)
theorem hinX7_judge_X7 : ∀ w ∈ wsX70, w ∈ wsX7_judge := nw_all nwl_X7_judge nwl_X70 (by decide +kernel)
theorem uX7_judge_f53 : Cond.fieldLink RX7 53 "PigNinthsModel" "number" "[I" ∈ wsX7_judge := nw_in nwl_X7_judge nwe_529 (by decide +kernel)
theorem uX7_judge_f7 : Cond.fieldLink RX7 7 "PigNinthsModel" "s" "[I" ∈ wsX7_judge := nw_in nwl_X7_judge nwe_514 (by decide +kernel)
set_option maxHeartbeats 4000000 in
set_option maxRecDepth 100000 in
theorem tX7_judge_22 (K : XK p m c cX7_judge 5 s args wsX7_judge RX7 D (xtys cI cO) A meth (some .int)) {Q : Int32 → xF → xA → Prop} : ∀ (n : Nat), ∀ (x1 : Int32) (x3 : Int32) (F : xF) (G : xA), qX7_judge_22 Q n x1 x3 F G → XJ p l e rmX7_judge s m args below meth c 0 0 (MQ below (xQi D (w7 cI a) A Q) args s 0 0 A) D (xtys cI cO) A 5 (w7 cI a F G) 22 [(0, .ref (a 0)), (1, .int x1), (3, .int x3)] [] := by
  intro n
  induction n with
  | zero =>
    intro x1 x3 F G h
    exact False.elim h
  | succ n ih =>
    intro x1 x3 F G h
    refine x_iload_n (pc' := 23) K dX7_judge_22 2 rfl rfl ?_
    refine x_aload_n (pc' := 24) K dX7_judge_23 0 rfl rfl ?_
    refine xw7_0g_sizes (pc' := 27) K hinX7_judge_X7 uX7_judge_f50 dX7_judge_24 rfl ?_
    refine x_iload_n (pc' := 28) K dX7_judge_27 1 rfl rfl ?_
    obtain ⟨i28, h⟩ := h
    refine xw7_13l (pc' := 29) K i28 rfl dX7_judge_28 rfl ?_
    refine x_icmp_ge (tgt := 64) (pc' := 32) K dX7_judge_29 rfl rfl (fun c29 => ?_) (fun c29 => ?_)
    · replace h := h.1 c29
      refine x_aload_n (pc' := 65) K dX7_judge_64 0 rfl rfl ?_
      refine x_callV (pc' := 68) K (mX7_layBack l D cI cO a) rfl gX7_judge_X7_layBack rfl dsX7_layBack ⟨rfl, rfl, ⟨Nat.le_of_ble_eq_true rfl, Nat.le_of_ble_eq_true rfl⟩, Nat.le_of_ble_eq_true rfl, Nat.le_of_ble_eq_true rfl⟩ h 7 0 rfl rfl (st := []) rfl rfl (Nat.le_of_ble_eq_true rfl) dX7_judge_65 rfl (fun F65 G65 h => ?_)
      refine x_iload_n (pc' := 69) K dX7_judge_68 2 rfl rfl ?_
      exact x_iret (wf := w7 cI a) K h dX7_judge_69
    · replace h := h.2 c29
      refine x_aload_n (pc' := 33) K dX7_judge_32 0 rfl rfl ?_
      refine xw7_0g_number (pc' := 36) K hinX7_judge_X7 uX7_judge_f53 dX7_judge_33 rfl ?_
      refine x_bipush (pc' := 38) (v := 24) K dX7_judge_36 (by decide) rfl ?_
      refine x_iload_n (pc' := 39) K dX7_judge_38 1 rfl rfl ?_
      refine x_imul (pc' := 40) K dX7_judge_39 rfl ?_
      refine x_iload_n (pc' := 41) K dX7_judge_40 2 rfl rfl ?_
      refine x_iadd (pc' := 42) K dX7_judge_41 rfl ?_
      obtain ⟨i42, h⟩ := h
      refine xw7_14l (pc' := 43) K i42 rfl dX7_judge_42 rfl ?_
      refine x_aload_n (pc' := 44) K dX7_judge_43 0 rfl rfl ?_
      refine xw7_0g_s (pc' := 47) K hinX7_judge_X7 uX7_judge_f7 dX7_judge_44 rfl ?_
      refine x_iconst (pc' := 48) (v := 2) K dX7_judge_47 (by decide) rfl ?_
      refine xw7_1l (pc' := 49) K (j := 2) (xin_of (by decide +kernel)) (by decide +kernel) dX7_judge_48 rfl ?_
      refine x_icmp_ne (tgt := 64) (pc' := 52) K dX7_judge_49 rfl rfl (fun c49 => ?_) (fun c49 => ?_)
      · replace h := h.1 c49
        refine x_aload_n (pc' := 65) K dX7_judge_64 0 rfl rfl ?_
        refine x_callV (pc' := 68) K (mX7_layBack l D cI cO a) rfl gX7_judge_X7_layBack rfl dsX7_layBack ⟨rfl, rfl, ⟨Nat.le_of_ble_eq_true rfl, Nat.le_of_ble_eq_true rfl⟩, Nat.le_of_ble_eq_true rfl, Nat.le_of_ble_eq_true rfl⟩ h 7 0 rfl rfl (st := []) rfl rfl (Nat.le_of_ble_eq_true rfl) dX7_judge_65 rfl (fun F65 G65 h => ?_)
        refine x_iload_n (pc' := 69) K dX7_judge_68 2 rfl rfl ?_
        exact x_iret (wf := w7 cI a) K h dX7_judge_69
      · replace h := h.2 c49
        refine x_aload_n (pc' := 53) K dX7_judge_52 0 rfl rfl ?_
        refine x_callI (pc' := 56) K (mX7_day l D cI cO a) rfl gX7_judge_X7_day rfl dsX7_day ⟨rfl, rfl, ⟨Nat.le_of_ble_eq_true rfl, Nat.le_of_ble_eq_true rfl⟩, Nat.le_of_ble_eq_true rfl, Nat.le_of_ble_eq_true rfl⟩ h 7 0 rfl rfl (st := []) rfl rfl (Nat.le_of_ble_eq_true rfl) dX7_judge_53 rfl (fun r53 F53 G53 h => ?_)
        refine x_istore (pc' := 58) (i := 4) K dX7_judge_56 (by decide) [1, 2, 3, 0] (L' := [(0, .ref (a 0)), (1, .int _), (3, .int _), (4, .int _)]) rfl rfl ?_
        refine x_iinc (pc' := 61) (v := _ + (1 : Int32)) K dX7_judge_58 2 rfl rfl (by decide) [1, 2, 0, 3] (L' := [(0, .ref (a 0)), (1, .int _), (3, .int _), (4, .int _)]) rfl rfl ?_
        refine x_goto (tgt := 22) K dX7_judge_61 rfl ?_
        refine x_locals [0, 1, 2] (L' := [(0, .ref (a 0)), (1, .int _), (3, .int _)]) rfl ?_
        exact ih _ _ _ _ h
set_option maxHeartbeats 4000000 in
set_option maxRecDepth 100000 in
theorem mX7_judge (l : Launch) (D : va_G) (cI cO : ClassId) (a : Nat → Nat)  (x1 : Int32) : MI l yX7_judge wsX7_judge rmX7_judge D (xtys cI cO) [.ref (a 0), .int x1] (w7 cI a) (qX7_judge x1) := by
  refine MI_of (cc := cX7_judge) (maxL := 5) (own := RX7) (by decide) rfl rfl (Nat.le_of_ble_eq_true rfl) ?_
  intro p e s m args below meth c A F G Q h K
  refine x_locals [0, 1] (L' := [(0, .ref (a 0)), (1, .int _)]) rfl ?_
  refine x_aload_n (pc' := 1) K dX7_judge_0 0 rfl rfl ?_
  refine x_iload_n (pc' := 2) K dX7_judge_1 1 rfl rfl ?_
  refine x_callI (pc' := 5) K (mX7_lacks l D cI cO a _) rfl gX7_judge_X7_lacks rfl dsX7_lacks ⟨rfl, rfl, ⟨Nat.le_of_ble_eq_true rfl, Nat.le_of_ble_eq_true rfl⟩, Nat.le_of_ble_eq_true rfl, Nat.le_of_ble_eq_true rfl⟩ h 7 0 rfl rfl (st := []) rfl rfl (Nat.le_of_ble_eq_true rfl) dX7_judge_2 rfl (fun r2 F2 G2 h => ?_)
  refine x_istore_n (pc' := 6) (i := 2) K dX7_judge_5 rfl (by decide) [1, 2, 0] (L' := [(0, .ref (a 0)), (1, .int _), (2, .int _)]) rfl rfl ?_
  refine x_iload_n (pc' := 7) K dX7_judge_6 2 rfl rfl ?_
  refine x_if_le (tgt := 16) (pc' := 10) K dX7_judge_7 rfl rfl (fun c7 => ?_) (fun c7 => ?_)
  · replace h := h.1 c7
    refine x_aload_n (pc' := 17) K dX7_judge_16 0 rfl rfl ?_
    refine x_callV (pc' := 20) K (mX7_layDown l D cI cO a) rfl gX7_judge_X7_layDown rfl dsX7_layDown ⟨rfl, rfl, ⟨Nat.le_of_ble_eq_true rfl, Nat.le_of_ble_eq_true rfl⟩, Nat.le_of_ble_eq_true rfl, Nat.le_of_ble_eq_true rfl⟩ h 7 0 rfl rfl (st := []) rfl rfl (Nat.le_of_ble_eq_true rfl) dX7_judge_17 rfl (fun F17 G17 h => ?_)
    refine x_iconst (pc' := 21) (v := 0) K dX7_judge_20 (by decide) rfl ?_
    refine x_istore_n (pc' := 22) (i := 3) K dX7_judge_21 rfl (by decide) [1, 2, 3, 0] (L' := [(0, .ref (a 0)), (1, .int _), (2, .int _), (3, .int _)]) rfl rfl ?_
    refine x_locals [0, 1, 3] (L' := [(0, .ref (a 0)), (1, .int _), (3, .int _)]) rfl ?_
    obtain ⟨n22, h⟩ := h
    exact tX7_judge_22 K n22 _ _ _ _ h
  · replace h := h.2 c7
    refine x_aload_n (pc' := 11) K dX7_judge_10 0 rfl rfl ?_
    refine x_iload_n (pc' := 12) K dX7_judge_11 2 rfl rfl ?_
    refine x_callI (pc' := 15) K (mX7_error l D cI cO a _) rfl gX7_judge_X7_error rfl dsX7_error ⟨rfl, rfl, ⟨Nat.le_of_ble_eq_true rfl, Nat.le_of_ble_eq_true rfl⟩, Nat.le_of_ble_eq_true rfl, Nat.le_of_ble_eq_true rfl⟩ h 7 0 rfl rfl (st := []) rfl rfl (Nat.le_of_ble_eq_true rfl) dX7_judge_12 rfl (fun r12 F12 G12 h => ?_)
    exact x_iret (wf := w7 cI a) K h dX7_judge_15
/-! X7_image -/
abbrev rmX7_image : Room := { frames := 3, cells := 0, slots := 0, locals := 83 }
theorem dsX7_image : xDesc yX7_image 0 := by decide +kernel
theorem uX7_image_f7 : Cond.fieldLink RX7 7 "PigNinthsModel" "s" "[I" ∈ wsX7_image := nw_in nwl_X7_image nwe_514 (by decide +kernel)
theorem hinX7_image_X7 : ∀ w ∈ wsX70, w ∈ wsX7_image := nw_all nwl_X7_image nwl_X70 (by decide +kernel)
theorem uX7_image_f13 : Cond.fieldLink RX7 13 "PigNinthsModel" "kept" "[I" ∈ wsX7_image := nw_in nwl_X7_image nwe_516 (by decide +kernel)
theorem uX7_image_f265 : Cond.fieldLink RX7 265 "PigNinthsModel" "images" "I" ∈ wsX7_image := nw_in nwl_X7_image nwe_784 (by decide +kernel)
set_option maxHeartbeats 4000000 in
set_option maxRecDepth 100000 in
theorem mX7_image (l : Launch) (D : va_G) (cI cO : ClassId) (a : Nat → Nat)   : MI l yX7_image wsX7_image rmX7_image D (xtys cI cO) [.ref (a 0)] (w7 cI a) qX7_image := by
  refine MI_of (cc := cX7_image) (maxL := 1) (own := RX7) (by decide) rfl rfl (Nat.le_of_ble_eq_true rfl) ?_
  intro p e s m args below meth c A F G Q h K
  refine x_locals [0] (L' := [(0, .ref (a 0))]) rfl ?_
  refine x_aload_n (pc' := 1) K dX7_image_0 0 rfl rfl ?_
  refine xw7_0g_s (pc' := 4) K hinX7_image_X7 uX7_image_f7 dX7_image_1 rfl ?_
  refine x_aload_n (pc' := 5) K dX7_image_4 0 rfl rfl ?_
  refine xw7_0g_kept (pc' := 8) K hinX7_image_X7 uX7_image_f13 dX7_image_5 rfl ?_
  refine x_sipush (pc' := 11) (v := 455) K dX7_image_8 (by decide) rfl ?_
  refine x_callVS (pc' := 14) K (mX7_carry_1_2 l D cI cO a _) rfl gX7_image_X7_carry dsX7_carry ⟨rfl, rfl, ⟨Nat.le_of_ble_eq_true rfl, Nat.le_of_ble_eq_true rfl⟩, Nat.le_of_ble_eq_true rfl, Nat.le_of_ble_eq_true rfl⟩ h (st := []) rfl rfl (Nat.le_of_ble_eq_true rfl) dX7_image_11 rfl (fun F11 G11 h => ?_)
  refine x_aload_n (pc' := 15) K dX7_image_14 0 rfl rfl ?_
  refine x_dup (pc' := 16) K dX7_image_15 rfl rfl ?_
  refine xw7_0g_images (pc' := 19) K hinX7_image_X7 uX7_image_f265 dX7_image_16 rfl ?_
  refine x_iconst (pc' := 20) (v := 1) K dX7_image_19 (by decide) rfl ?_
  refine x_iadd (pc' := 21) K dX7_image_20 rfl ?_
  refine xw7_0p_images (pc' := 24) K hinX7_image_X7 uX7_image_f265 dX7_image_21 rfl (fun F21 eF21 => ?_)
  replace h := h F21 eF21
  refine x_aload_n (pc' := 25) K dX7_image_24 0 rfl rfl ?_
  refine xw7_0g_images (pc' := 28) K hinX7_image_X7 uX7_image_f265 dX7_image_25 rfl ?_
  exact x_iret (wf := w7 cI a) K h dX7_image_28
/-! X7_restore -/
abbrev rmX7_restore : Room := { frames := 3, cells := 0, slots := 0, locals := 83 }
theorem dsX7_restore : xDesc yX7_restore 0 := by decide +kernel
theorem uX7_restore_f265 : Cond.fieldLink RX7 265 "PigNinthsModel" "images" "I" ∈ wsX7_restore := nw_in nwl_X7_restore nwe_784 (by decide +kernel)
theorem hinX7_restore_X7 : ∀ w ∈ wsX70, w ∈ wsX7_restore := nw_all nwl_X7_restore nwl_X70 (by decide +kernel)
theorem uX7_restore_f13 : Cond.fieldLink RX7 13 "PigNinthsModel" "kept" "[I" ∈ wsX7_restore := nw_in nwl_X7_restore nwe_516 (by decide +kernel)
theorem uX7_restore_f7 : Cond.fieldLink RX7 7 "PigNinthsModel" "s" "[I" ∈ wsX7_restore := nw_in nwl_X7_restore nwe_514 (by decide +kernel)
set_option maxHeartbeats 4000000 in
set_option maxRecDepth 100000 in
theorem mX7_restore (l : Launch) (D : va_G) (cI cO : ClassId) (a : Nat → Nat)   : MI l yX7_restore wsX7_restore rmX7_restore D (xtys cI cO) [.ref (a 0)] (w7 cI a) qX7_restore := by
  refine MI_of (cc := cX7_restore) (maxL := 1) (own := RX7) (by decide) rfl rfl (Nat.le_of_ble_eq_true rfl) ?_
  intro p e s m args below meth c A F G Q h K
  refine x_locals [0] (L' := [(0, .ref (a 0))]) rfl ?_
  refine x_aload_n (pc' := 1) K dX7_restore_0 0 rfl rfl ?_
  refine xw7_0g_images (pc' := 4) K hinX7_restore_X7 uX7_restore_f265 dX7_restore_1 rfl ?_
  refine x_if_ne (tgt := 13) (pc' := 7) K dX7_restore_4 rfl rfl (fun c4 => ?_) (fun c4 => ?_)
  · replace h := h.1 c4
    refine x_aload_n (pc' := 14) K dX7_restore_13 0 rfl rfl ?_
    refine xw7_0g_kept (pc' := 17) K hinX7_restore_X7 uX7_restore_f13 dX7_restore_14 rfl ?_
    refine x_aload_n (pc' := 18) K dX7_restore_17 0 rfl rfl ?_
    refine xw7_0g_s (pc' := 21) K hinX7_restore_X7 uX7_restore_f7 dX7_restore_18 rfl ?_
    refine x_sipush (pc' := 24) (v := 455) K dX7_restore_21 (by decide) rfl ?_
    refine x_callVS (pc' := 27) K (mX7_carry_2_1 l D cI cO a _) rfl gX7_restore_X7_carry dsX7_carry ⟨rfl, rfl, ⟨Nat.le_of_ble_eq_true rfl, Nat.le_of_ble_eq_true rfl⟩, Nat.le_of_ble_eq_true rfl, Nat.le_of_ble_eq_true rfl⟩ h (st := []) rfl rfl (Nat.le_of_ble_eq_true rfl) dX7_restore_24 rfl (fun F24 G24 h => ?_)
    refine x_aload_n (pc' := 28) K dX7_restore_27 0 rfl rfl ?_
    refine xw7_0g_s (pc' := 31) K hinX7_restore_X7 uX7_restore_f7 dX7_restore_28 rfl ?_
    refine x_iconst (pc' := 32) (v := 0) K dX7_restore_31 (by decide) rfl ?_
    refine xw7_1l (pc' := 33) K (j := 0) (xin_of (by decide +kernel)) (by decide +kernel) dX7_restore_32 rfl ?_
    exact x_iret (wf := w7 cI a) K h dX7_restore_33
  · replace h := h.2 c4
    refine x_aload_n (pc' := 8) K dX7_restore_7 0 rfl rfl ?_
    refine x_iconst (pc' := 9) (v := 2) K dX7_restore_8 (by decide) rfl ?_
    refine x_callI (pc' := 12) K (mX7_error l D cI cO a _) rfl gX7_restore_X7_error rfl dsX7_error ⟨rfl, rfl, ⟨Nat.le_of_ble_eq_true rfl, Nat.le_of_ble_eq_true rfl⟩, Nat.le_of_ble_eq_true rfl, Nat.le_of_ble_eq_true rfl⟩ h 7 0 rfl rfl (st := []) rfl rfl (Nat.le_of_ble_eq_true rfl) dX7_restore_9 rfl (fun r9 F9 G9 h => ?_)
    exact x_iret (wf := w7 cI a) K h dX7_restore_12
/-! X7_tell -/
abbrev rmX7_tell : Room := { frames := 3, cells := 0, slots := 0, locals := 81 }
theorem dsX7_tell : xDesc yX7_tell 1 := by decide +kernel
theorem uX7_tell_f7 : Cond.fieldLink RX7 7 "PigNinthsModel" "s" "[I" ∈ wsX7_tell := nw_in nwl_X7_tell nwe_514 (by decide +kernel)
theorem hinX7_tell_X7 : ∀ w ∈ wsX70, w ∈ wsX7_tell := nw_all nwl_X7_tell nwl_X70 (by decide +kernel)
set_option maxHeartbeats 4000000 in
set_option maxRecDepth 100000 in
theorem mX7_tell (l : Launch) (D : va_G) (cI cO : ClassId) (a : Nat → Nat)  (x1 : Int32) : MI l yX7_tell wsX7_tell rmX7_tell D (xtys cI cO) [.ref (a 0), .int x1] (w7 cI a) (qX7_tell x1) := by
  refine MI_of (cc := cX7_tell) (maxL := 2) (own := RX7) (by decide) rfl rfl (Nat.le_of_ble_eq_true rfl) ?_
  intro p e s m args below meth c A F G Q h K
  refine x_locals [0, 1] (L' := [(0, .ref (a 0)), (1, .int _)]) rfl ?_
  refine x_aload_n (pc' := 1) K dX7_tell_0 0 rfl rfl ?_
  refine xw7_0g_s (pc' := 4) K hinX7_tell_X7 uX7_tell_f7 dX7_tell_1 rfl ?_
  refine x_iconst (pc' := 5) (v := 5) K dX7_tell_4 (by decide) rfl ?_
  refine xw7_1l (pc' := 6) K (j := 5) (xin_of (by decide +kernel)) (by decide +kernel) dX7_tell_5 rfl ?_
  refine x_bipush (pc' := 8) (v := 24) K dX7_tell_6 (by decide) rfl ?_
  refine x_icmp_ne (tgt := 17) (pc' := 11) K dX7_tell_8 rfl rfl (fun c8 => ?_) (fun c8 => ?_)
  · replace h := h.1 c8
    refine x_aload_n (pc' := 18) K dX7_tell_17 0 rfl rfl ?_
    refine xw7_0g_s (pc' := 21) K hinX7_tell_X7 uX7_tell_f7 dX7_tell_18 rfl ?_
    refine x_sipush (pc' := 24) (v := 431) K dX7_tell_21 (by decide) rfl ?_
    refine x_aload_n (pc' := 25) K dX7_tell_24 0 rfl rfl ?_
    refine xw7_0g_s (pc' := 28) K hinX7_tell_X7 uX7_tell_f7 dX7_tell_25 rfl ?_
    refine x_iconst (pc' := 29) (v := 5) K dX7_tell_28 (by decide) rfl ?_
    refine xw7_1l (pc' := 30) K (j := 5) (xin_of (by decide +kernel)) (by decide +kernel) dX7_tell_29 rfl ?_
    refine x_iadd (pc' := 31) K dX7_tell_30 rfl ?_
    refine x_iload_n (pc' := 32) K dX7_tell_31 1 rfl rfl ?_
    obtain ⟨i32, h⟩ := h
    refine xw7_1s (pc' := 33) K i32 rfl dX7_tell_32 rfl (fun G32 eG32 => ?_)
    replace h := h G32 eG32
    refine x_aload_n (pc' := 34) K dX7_tell_33 0 rfl rfl ?_
    refine xw7_0g_s (pc' := 37) K hinX7_tell_X7 uX7_tell_f7 dX7_tell_34 rfl ?_
    refine x_iconst (pc' := 38) (v := 5) K dX7_tell_37 (by decide) rfl ?_
    refine x_dup2 (pc' := 39) K dX7_tell_38 rfl rfl rfl ?_
    refine xw7_1l (pc' := 40) K (j := 5) (xin_of (by decide +kernel)) (by decide +kernel) dX7_tell_39 rfl ?_
    refine x_iconst (pc' := 41) (v := 1) K dX7_tell_40 (by decide) rfl ?_
    refine x_iadd (pc' := 42) K dX7_tell_41 rfl ?_
    refine xw7_1s (pc' := 43) K (j := 5) (xin_of (by decide +kernel)) (by decide +kernel) dX7_tell_42 rfl (fun G42 eG42 => ?_)
    replace h := h G42 eG42
    refine x_aload_n (pc' := 44) K dX7_tell_43 0 rfl rfl ?_
    refine xw7_0g_s (pc' := 47) K hinX7_tell_X7 uX7_tell_f7 dX7_tell_44 rfl ?_
    refine x_iconst (pc' := 48) (v := 5) K dX7_tell_47 (by decide) rfl ?_
    refine xw7_1l (pc' := 49) K (j := 5) (xin_of (by decide +kernel)) (by decide +kernel) dX7_tell_48 rfl ?_
    exact x_iret (wf := w7 cI a) K h dX7_tell_49
  · replace h := h.2 c8
    refine x_aload_n (pc' := 12) K dX7_tell_11 0 rfl rfl ?_
    refine x_iconst (pc' := 13) (v := 4) K dX7_tell_12 (by decide) rfl ?_
    refine x_callI (pc' := 16) K (mX7_error l D cI cO a _) rfl gX7_tell_X7_error rfl dsX7_error ⟨rfl, rfl, ⟨Nat.le_of_ble_eq_true rfl, Nat.le_of_ble_eq_true rfl⟩, Nat.le_of_ble_eq_true rfl, Nat.le_of_ble_eq_true rfl⟩ h 7 0 rfl rfl (st := []) rfl rfl (Nat.le_of_ble_eq_true rfl) dX7_tell_13 rfl (fun r13 F13 G13 h => ?_)
    exact x_iret (wf := w7 cI a) K h dX7_tell_16
/-! X7_check -/
abbrev rmX7_check : Room := { frames := 8, cells := 0, slots := 0, locals := 205 }
theorem dsX7_check : xDesc yX7_check 0 := by decide +kernel
theorem uX7_check_f7 : Cond.fieldLink RX7 7 "PigNinthsModel" "s" "[I" ∈ wsX7_check := nw_in nwl_X7_check nwe_514 (by decide +kernel)
theorem hinX7_check_X7 : ∀ w ∈ wsX70, w ∈ wsX7_check := nw_all nwl_X7_check nwl_X70 (by decide +kernel)
set_option maxHeartbeats 4000000 in
set_option maxRecDepth 100000 in
theorem tX7_check_53 (K : XK p m c cX7_check 4 s args wsX7_check RX7 D (xtys cI cO) A meth (some .int)) {Q : Int32 → xF → xA → Prop} {k22 : Int32 → Int32 → Int32 → xF → xA → Prop} (hk22 : ∀ (x1 : Int32) (x2 : Int32) (x3 : Int32) (F : xF) (G : xA), k22 x1 x2 x3 F G → XJ p l e rmX7_check s m args below meth c 0 0 (MQ below (xQi D (w7 cI a) A Q) args s 0 0 A) D (xtys cI cO) A 4 (w7 cI a F G) 22 [(0, .ref (a 0)), (1, .int x1), (2, .int x2), (3, .int x3)] []) : ∀ (x1 : Int32) (x2 : Int32) (y0 : Int32) (F : xF) (G : xA), qX7_check_53 Q k22 x1 x2 y0 F G → XJ p l e rmX7_check s m args below meth c 0 0 (MQ below (xQi D (w7 cI a) A Q) args s 0 0 A) D (xtys cI cO) A 4 (w7 cI a F G) 53 [(0, .ref (a 0)), (1, .int x1), (2, .int x2)] [.int y0] := by
  intro x1 x2 y0 F G h
  refine x_istore_n (pc' := 54) (i := 3) K dX7_check_53 rfl (by decide) [1, 2, 3, 0] (L' := [(0, .ref (a 0)), (1, .int _), (2, .int _), (3, .int _)]) rfl rfl ?_
  refine x_iload_n (pc' := 55) K dX7_check_54 2 rfl rfl ?_
  refine x_iload_n (pc' := 56) K dX7_check_55 3 rfl rfl ?_
  refine x_if_eq (tgt := 63) (pc' := 59) K dX7_check_56 rfl rfl (fun c56 => ?_) (fun c56 => ?_)
  · replace h := h.1 c56
    refine x_iconst (pc' := 64) (v := 0) K dX7_check_63 (by decide) rfl ?_
    refine x_iadd (pc' := 65) K dX7_check_64 rfl ?_
    refine x_istore_n (pc' := 66) (i := 2) K dX7_check_65 rfl (by decide) [1, 2, 0, 3] (L' := [(0, .ref (a 0)), (1, .int _), (2, .int _), (3, .int _)]) rfl rfl ?_
    refine x_goto (tgt := 22) K dX7_check_66 rfl ?_
    exact hk22 _ _ _ _ _ h
  · replace h := h.2 c56
    refine x_iconst (pc' := 60) (v := 1) K dX7_check_59 (by decide) rfl ?_
    refine x_goto (tgt := 64) K dX7_check_60 rfl ?_
    refine x_iadd (pc' := 65) K dX7_check_64 rfl ?_
    refine x_istore_n (pc' := 66) (i := 2) K dX7_check_65 rfl (by decide) [1, 2, 0, 3] (L' := [(0, .ref (a 0)), (1, .int _), (2, .int _), (3, .int _)]) rfl rfl ?_
    refine x_goto (tgt := 22) K dX7_check_66 rfl ?_
    exact hk22 _ _ _ _ _ h
set_option maxHeartbeats 4000000 in
set_option maxRecDepth 100000 in
theorem tX7_check_22 (K : XK p m c cX7_check 4 s args wsX7_check RX7 D (xtys cI cO) A meth (some .int)) {Q : Int32 → xF → xA → Prop} : ∀ (n : Nat), ∀ (x1 : Int32) (x2 : Int32) (x3 : Int32) (F : xF) (G : xA), qX7_check_22 Q n x1 x2 x3 F G → XJ p l e rmX7_check s m args below meth c 0 0 (MQ below (xQi D (w7 cI a) A Q) args s 0 0 A) D (xtys cI cO) A 4 (w7 cI a F G) 22 [(0, .ref (a 0)), (1, .int x1), (2, .int x2), (3, .int x3)] [] := by
  intro n
  induction n with
  | zero =>
    intro x1 x2 x3 F G h
    exact False.elim h
  | succ n ih =>
    intro x1 x2 x3 F G h
    refine x_iload_n (pc' := 23) K dX7_check_22 2 rfl rfl ?_
    refine x_iload_n (pc' := 24) K dX7_check_23 1 rfl rfl ?_
    refine x_icmp_ge (tgt := 69) (pc' := 27) K dX7_check_24 rfl rfl (fun c24 => ?_) (fun c24 => ?_)
    · replace h := h.1 c24
      refine x_aload_n (pc' := 70) K dX7_check_69 0 rfl rfl ?_
      refine x_callV (pc' := 73) K (mX7_layBack l D cI cO a) rfl gX7_check_X7_layBack rfl dsX7_layBack ⟨rfl, rfl, ⟨Nat.le_of_ble_eq_true rfl, Nat.le_of_ble_eq_true rfl⟩, Nat.le_of_ble_eq_true rfl, Nat.le_of_ble_eq_true rfl⟩ h 7 0 rfl rfl (st := []) rfl rfl (Nat.le_of_ble_eq_true rfl) dX7_check_70 rfl (fun F70 G70 h => ?_)
      refine x_iload_n (pc' := 74) K dX7_check_73 3 rfl rfl ?_
      refine x_if_eq (tgt := 81) (pc' := 77) K dX7_check_74 rfl rfl (fun c74 => ?_) (fun c74 => ?_)
      · replace h := h.1 c74
        refine x_iconst (pc' := 82) (v := 1) K dX7_check_81 (by decide) rfl ?_
        refine x_iload_n (pc' := 83) K dX7_check_82 2 rfl rfl ?_
        refine x_iadd (pc' := 84) K dX7_check_83 rfl ?_
        exact x_iret (wf := w7 cI a) K h dX7_check_84
      · replace h := h.2 c74
        refine x_iconst (pc' := 78) (v := 0) K dX7_check_77 (by decide) rfl ?_
        refine x_goto (tgt := 84) K dX7_check_78 rfl ?_
        exact x_iret (wf := w7 cI a) K h dX7_check_84
    · replace h := h.2 c24
      refine x_iload_n (pc' := 28) K dX7_check_27 3 rfl rfl ?_
      refine x_if_eq (tgt := 69) (pc' := 31) K dX7_check_28 rfl rfl (fun c28 => ?_) (fun c28 => ?_)
      · replace h := h.1 c28
        refine x_aload_n (pc' := 70) K dX7_check_69 0 rfl rfl ?_
        refine x_callV (pc' := 73) K (mX7_layBack l D cI cO a) rfl gX7_check_X7_layBack rfl dsX7_layBack ⟨rfl, rfl, ⟨Nat.le_of_ble_eq_true rfl, Nat.le_of_ble_eq_true rfl⟩, Nat.le_of_ble_eq_true rfl, Nat.le_of_ble_eq_true rfl⟩ h 7 0 rfl rfl (st := []) rfl rfl (Nat.le_of_ble_eq_true rfl) dX7_check_70 rfl (fun F70 G70 h => ?_)
        refine x_iload_n (pc' := 74) K dX7_check_73 3 rfl rfl ?_
        refine x_if_eq (tgt := 81) (pc' := 77) K dX7_check_74 rfl rfl (fun c74 => ?_) (fun c74 => ?_)
        · replace h := h.1 c74
          refine x_iconst (pc' := 82) (v := 1) K dX7_check_81 (by decide) rfl ?_
          refine x_iload_n (pc' := 83) K dX7_check_82 2 rfl rfl ?_
          refine x_iadd (pc' := 84) K dX7_check_83 rfl ?_
          exact x_iret (wf := w7 cI a) K h dX7_check_84
        · replace h := h.2 c74
          refine x_iconst (pc' := 78) (v := 0) K dX7_check_77 (by decide) rfl ?_
          refine x_goto (tgt := 84) K dX7_check_78 rfl ?_
          exact x_iret (wf := w7 cI a) K h dX7_check_84
      · replace h := h.2 c28
        refine x_aload_n (pc' := 32) K dX7_check_31 0 rfl rfl ?_
        refine xw7_0g_s (pc' := 35) K hinX7_check_X7 uX7_check_f7 dX7_check_32 rfl ?_
        refine x_sipush (pc' := 38) (v := 431) K dX7_check_35 (by decide) rfl ?_
        refine x_iload_n (pc' := 39) K dX7_check_38 2 rfl rfl ?_
        refine x_iadd (pc' := 40) K dX7_check_39 rfl ?_
        obtain ⟨i40, h⟩ := h
        refine xw7_1l (pc' := 41) K i40 rfl dX7_check_40 rfl ?_
        refine x_aload_n (pc' := 42) K dX7_check_41 0 rfl rfl ?_
        refine x_callI (pc' := 45) K (mX7_day l D cI cO a) rfl gX7_check_X7_day rfl dsX7_day ⟨rfl, rfl, ⟨Nat.le_of_ble_eq_true rfl, Nat.le_of_ble_eq_true rfl⟩, Nat.le_of_ble_eq_true rfl, Nat.le_of_ble_eq_true rfl⟩ h 7 0 rfl rfl (st := [.int _]) rfl rfl (Nat.le_of_ble_eq_true rfl) dX7_check_42 rfl (fun r42 F42 G42 h => ?_)
        refine x_icmp_ne (tgt := 52) (pc' := 48) K dX7_check_45 rfl rfl (fun c45 => ?_) (fun c45 => ?_)
        · replace h := h.1 c45
          refine x_iconst (pc' := 53) (v := 0) K dX7_check_52 (by decide) rfl ?_
          refine x_locals [0, 1, 2] (L' := [(0, .ref (a 0)), (1, .int _), (2, .int _)]) rfl ?_
          exact tX7_check_53 K (fun x1 x2 x3 F G h => ih x1 x2 x3 F G h) _ _ _ _ _ h
        · replace h := h.2 c45
          refine x_iconst (pc' := 49) (v := 1) K dX7_check_48 (by decide) rfl ?_
          refine x_goto (tgt := 53) K dX7_check_49 rfl ?_
          refine x_locals [0, 1, 2] (L' := [(0, .ref (a 0)), (1, .int _), (2, .int _)]) rfl ?_
          exact tX7_check_53 K (fun x1 x2 x3 F G h => ih x1 x2 x3 F G h) _ _ _ _ _ h
set_option maxHeartbeats 4000000 in
set_option maxRecDepth 100000 in
theorem mX7_check (l : Launch) (D : va_G) (cI cO : ClassId) (a : Nat → Nat)   : MI l yX7_check wsX7_check rmX7_check D (xtys cI cO) [.ref (a 0)] (w7 cI a) qX7_check := by
  refine MI_of (cc := cX7_check) (maxL := 4) (own := RX7) (by decide) rfl rfl (Nat.le_of_ble_eq_true rfl) ?_
  intro p e s m args below meth c A F G Q h K
  refine x_locals [0] (L' := [(0, .ref (a 0))]) rfl ?_
  refine x_aload_n (pc' := 1) K dX7_check_0 0 rfl rfl ?_
  refine xw7_0g_s (pc' := 4) K hinX7_check_X7 uX7_check_f7 dX7_check_1 rfl ?_
  refine x_iconst (pc' := 5) (v := 5) K dX7_check_4 (by decide) rfl ?_
  refine xw7_1l (pc' := 6) K (j := 5) (xin_of (by decide +kernel)) (by decide +kernel) dX7_check_5 rfl ?_
  refine x_istore_n (pc' := 7) (i := 1) K dX7_check_6 rfl (by decide) [1, 0] (L' := [(0, .ref (a 0)), (1, .int _)]) rfl rfl ?_
  refine x_aload_n (pc' := 8) K dX7_check_7 0 rfl rfl ?_
  refine xw7_0g_s (pc' := 11) K hinX7_check_X7 uX7_check_f7 dX7_check_8 rfl ?_
  refine x_iconst (pc' := 12) (v := 5) K dX7_check_11 (by decide) rfl ?_
  refine x_iconst (pc' := 13) (v := 0) K dX7_check_12 (by decide) rfl ?_
  refine xw7_1s (pc' := 14) K (j := 5) (xin_of (by decide +kernel)) (by decide +kernel) dX7_check_13 rfl (fun G13 eG13 => ?_)
  replace h := h G13 eG13
  refine x_aload_n (pc' := 15) K dX7_check_14 0 rfl rfl ?_
  refine x_callV (pc' := 18) K (mX7_layDown l D cI cO a) rfl gX7_check_X7_layDown rfl dsX7_layDown ⟨rfl, rfl, ⟨Nat.le_of_ble_eq_true rfl, Nat.le_of_ble_eq_true rfl⟩, Nat.le_of_ble_eq_true rfl, Nat.le_of_ble_eq_true rfl⟩ h 7 0 rfl rfl (st := []) rfl rfl (Nat.le_of_ble_eq_true rfl) dX7_check_15 rfl (fun F15 G15 h => ?_)
  refine x_iconst (pc' := 19) (v := 0) K dX7_check_18 (by decide) rfl ?_
  refine x_istore_n (pc' := 20) (i := 2) K dX7_check_19 rfl (by decide) [1, 2, 0] (L' := [(0, .ref (a 0)), (1, .int _), (2, .int _)]) rfl rfl ?_
  refine x_iconst (pc' := 21) (v := 1) K dX7_check_20 (by decide) rfl ?_
  refine x_istore_n (pc' := 22) (i := 3) K dX7_check_21 rfl (by decide) [1, 2, 3, 0] (L' := [(0, .ref (a 0)), (1, .int _), (2, .int _), (3, .int _)]) rfl rfl ?_
  obtain ⟨n22, h⟩ := h
  exact tX7_check_22 K n22 _ _ _ _ _ h
/-! X7_count -/
abbrev rmX7_count : Room := { frames := 4, cells := 0, slots := 0, locals := 105 }
theorem dsX7_count : xDesc yX7_count 1 := by decide +kernel
theorem uX7_count_f7 : Cond.fieldLink RX7 7 "PigNinthsModel" "s" "[I" ∈ wsX7_count := nw_in nwl_X7_count nwe_514 (by decide +kernel)
theorem hinX7_count_X7 : ∀ w ∈ wsX70, w ∈ wsX7_count := nw_all nwl_X7_count nwl_X70 (by decide +kernel)
theorem uX7_count_f227 : Cond.fieldLink RX7 227 "PigNinthsModel" "traced" "I" ∈ wsX7_count := nw_in nwl_X7_count nwe_739 (by decide +kernel)
set_option maxHeartbeats 4000000 in
set_option maxRecDepth 100000 in
theorem mX7_count (l : Launch) (D : va_G) (cI cO : ClassId) (a : Nat → Nat)  (x1 : Int32) : MI l yX7_count wsX7_count rmX7_count D (xtys cI cO) [.ref (a 0), .int x1] (w7 cI a) (qX7_count x1) := by
  refine MI_of (cc := cX7_count) (maxL := 2) (own := RX7) (by decide) rfl rfl (Nat.le_of_ble_eq_true rfl) ?_
  intro p e s m args below meth c A F G Q h K
  refine x_locals [0, 1] (L' := [(0, .ref (a 0)), (1, .int _)]) rfl ?_
  refine x_iload_n (pc' := 1) K dX7_count_0 1 rfl rfl ?_
  refine (Classical.em (x1 = (0 : Int32))).elim (fun e1 => ?_) (fun e1_1 => ?_)
  · replace h := h.1 e1
    refine x_tableIn (tgt := 64) (off := 63) K dX7_count_1 (by rw [e1]; decide) (by rw [e1]; decide) (by rw [e1]; rfl) rfl ?_
    refine x_aload_n (pc' := 65) K dX7_count_64 0 rfl rfl ?_
    refine xw7_0g_s (pc' := 68) K hinX7_count_X7 uX7_count_f7 dX7_count_65 rfl ?_
    refine x_iconst (pc' := 69) (v := 0) K dX7_count_68 (by decide) rfl ?_
    refine xw7_1l (pc' := 70) K (j := 0) (xin_of (by decide +kernel)) (by decide +kernel) dX7_count_69 rfl ?_
    exact x_iret (wf := w7 cI a) K h dX7_count_70
  · replace h := h.2 e1_1
    refine (Classical.em (x1 = (1 : Int32))).elim (fun e1 => ?_) (fun e1_2 => ?_)
    · replace h := h.1 e1
      refine x_tableIn (tgt := 71) (off := 70) K dX7_count_1 (by rw [e1]; decide) (by rw [e1]; decide) (by rw [e1]; rfl) rfl ?_
      refine x_aload_n (pc' := 72) K dX7_count_71 0 rfl rfl ?_
      refine x_callI (pc' := 75) K (mX7_whoHas l D cI cO a) rfl gX7_count_X7_whoHas rfl dsX7_whoHas ⟨rfl, rfl, ⟨Nat.le_of_ble_eq_true rfl, Nat.le_of_ble_eq_true rfl⟩, Nat.le_of_ble_eq_true rfl, Nat.le_of_ble_eq_true rfl⟩ h 7 0 rfl rfl (st := []) rfl rfl (Nat.le_of_ble_eq_true rfl) dX7_count_72 rfl (fun r72 F72 G72 h => ?_)
      exact x_iret (wf := w7 cI a) K h dX7_count_75
    · replace h := h.2 e1_2
      refine (Classical.em (x1 = (2 : Int32))).elim (fun e1 => ?_) (fun e1_3 => ?_)
      · replace h := h.1 e1
        refine x_tableIn (tgt := 76) (off := 75) K dX7_count_1 (by rw [e1]; decide) (by rw [e1]; decide) (by rw [e1]; rfl) rfl ?_
        refine x_aload_n (pc' := 77) K dX7_count_76 0 rfl rfl ?_
        refine xw7_0g_s (pc' := 80) K hinX7_count_X7 uX7_count_f7 dX7_count_77 rfl ?_
        refine x_iconst (pc' := 81) (v := 2) K dX7_count_80 (by decide) rfl ?_
        refine xw7_1l (pc' := 82) K (j := 2) (xin_of (by decide +kernel)) (by decide +kernel) dX7_count_81 rfl ?_
        exact x_iret (wf := w7 cI a) K h dX7_count_82
      · replace h := h.2 e1_3
        refine (Classical.em (x1 = (3 : Int32))).elim (fun e1 => ?_) (fun e1_4 => ?_)
        · replace h := h.1 e1
          refine x_tableIn (tgt := 83) (off := 82) K dX7_count_1 (by rw [e1]; decide) (by rw [e1]; decide) (by rw [e1]; rfl) rfl ?_
          refine x_aload_n (pc' := 84) K dX7_count_83 0 rfl rfl ?_
          refine xw7_0g_s (pc' := 87) K hinX7_count_X7 uX7_count_f7 dX7_count_84 rfl ?_
          refine x_iconst (pc' := 88) (v := 3) K dX7_count_87 (by decide) rfl ?_
          refine xw7_1l (pc' := 89) K (j := 3) (xin_of (by decide +kernel)) (by decide +kernel) dX7_count_88 rfl ?_
          exact x_iret (wf := w7 cI a) K h dX7_count_89
        · replace h := h.2 e1_4
          refine (Classical.em (x1 = (4 : Int32))).elim (fun e1 => ?_) (fun e1_5 => ?_)
          · replace h := h.1 e1
            refine x_tableIn (tgt := 90) (off := 89) K dX7_count_1 (by rw [e1]; decide) (by rw [e1]; decide) (by rw [e1]; rfl) rfl ?_
            refine x_aload_n (pc' := 91) K dX7_count_90 0 rfl rfl ?_
            refine xw7_0g_s (pc' := 94) K hinX7_count_X7 uX7_count_f7 dX7_count_91 rfl ?_
            refine x_iconst (pc' := 95) (v := 1) K dX7_count_94 (by decide) rfl ?_
            refine xw7_1l (pc' := 96) K (j := 1) (xin_of (by decide +kernel)) (by decide +kernel) dX7_count_95 rfl ?_
            exact x_iret (wf := w7 cI a) K h dX7_count_96
          · replace h := h.2 e1_5
            refine (Classical.em (x1 = (5 : Int32))).elim (fun e1 => ?_) (fun e1_6 => ?_)
            · replace h := h.1 e1
              refine x_tableIn (tgt := 97) (off := 96) K dX7_count_1 (by rw [e1]; decide) (by rw [e1]; decide) (by rw [e1]; rfl) rfl ?_
              refine x_aload_n (pc' := 98) K dX7_count_97 0 rfl rfl ?_
              refine x_callI (pc' := 101) K (mX7_allUnder l D cI cO a) rfl gX7_count_X7_allUnder rfl dsX7_allUnder ⟨rfl, rfl, ⟨Nat.le_of_ble_eq_true rfl, Nat.le_of_ble_eq_true rfl⟩, Nat.le_of_ble_eq_true rfl, Nat.le_of_ble_eq_true rfl⟩ h 7 0 rfl rfl (st := []) rfl rfl (Nat.le_of_ble_eq_true rfl) dX7_count_98 rfl (fun r98 F98 G98 h => ?_)
              exact x_iret (wf := w7 cI a) K h dX7_count_101
            · replace h := h.2 e1_6
              refine (Classical.em (x1 = (6 : Int32))).elim (fun e1 => ?_) (fun e1_7 => ?_)
              · replace h := h.1 e1
                refine x_tableIn (tgt := 102) (off := 101) K dX7_count_1 (by rw [e1]; decide) (by rw [e1]; decide) (by rw [e1]; rfl) rfl ?_
                refine x_aload_n (pc' := 103) K dX7_count_102 0 rfl rfl ?_
                refine x_iconst (pc' := 104) (v := 2) K dX7_count_103 (by decide) rfl ?_
                refine x_callI (pc' := 107) K (mX7_allOf l D cI cO a _) rfl gX7_count_X7_allOf rfl dsX7_allOf ⟨rfl, rfl, ⟨Nat.le_of_ble_eq_true rfl, Nat.le_of_ble_eq_true rfl⟩, Nat.le_of_ble_eq_true rfl, Nat.le_of_ble_eq_true rfl⟩ h 7 0 rfl rfl (st := []) rfl rfl (Nat.le_of_ble_eq_true rfl) dX7_count_104 rfl (fun r104 F104 G104 h => ?_)
                exact x_iret (wf := w7 cI a) K h dX7_count_107
              · replace h := h.2 e1_7
                refine (Classical.em (x1 = (7 : Int32))).elim (fun e1 => ?_) (fun e1_8 => ?_)
                · replace h := h.1 e1
                  refine x_tableIn (tgt := 108) (off := 107) K dX7_count_1 (by rw [e1]; decide) (by rw [e1]; decide) (by rw [e1]; rfl) rfl ?_
                  refine x_aload_n (pc' := 109) K dX7_count_108 0 rfl rfl ?_
                  refine x_iconst (pc' := 110) (v := 3) K dX7_count_109 (by decide) rfl ?_
                  refine x_callI (pc' := 113) K (mX7_allOf l D cI cO a _) rfl gX7_count_X7_allOf rfl dsX7_allOf ⟨rfl, rfl, ⟨Nat.le_of_ble_eq_true rfl, Nat.le_of_ble_eq_true rfl⟩, Nat.le_of_ble_eq_true rfl, Nat.le_of_ble_eq_true rfl⟩ h 7 0 rfl rfl (st := []) rfl rfl (Nat.le_of_ble_eq_true rfl) dX7_count_110 rfl (fun r110 F110 G110 h => ?_)
                  exact x_iret (wf := w7 cI a) K h dX7_count_113
                · replace h := h.2 e1_8
                  refine (Classical.em (x1 = (8 : Int32))).elim (fun e1 => ?_) (fun e1_9 => ?_)
                  · replace h := h.1 e1
                    refine x_tableIn (tgt := 114) (off := 113) K dX7_count_1 (by rw [e1]; decide) (by rw [e1]; decide) (by rw [e1]; rfl) rfl ?_
                    refine x_aload_n (pc' := 115) K dX7_count_114 0 rfl rfl ?_
                    refine xw7_0g_s (pc' := 118) K hinX7_count_X7 uX7_count_f7 dX7_count_115 rfl ?_
                    refine x_iconst (pc' := 119) (v := 4) K dX7_count_118 (by decide) rfl ?_
                    refine xw7_1l (pc' := 120) K (j := 4) (xin_of (by decide +kernel)) (by decide +kernel) dX7_count_119 rfl ?_
                    exact x_iret (wf := w7 cI a) K h dX7_count_120
                  · replace h := h.2 e1_9
                    refine (Classical.em (x1 = (9 : Int32))).elim (fun e1 => ?_) (fun e1_10 => ?_)
                    · replace h := h.1 e1
                      refine x_tableIn (tgt := 121) (off := 120) K dX7_count_1 (by rw [e1]; decide) (by rw [e1]; decide) (by rw [e1]; rfl) rfl ?_
                      refine x_aload_n (pc' := 122) K dX7_count_121 0 rfl rfl ?_
                      refine xw7_0g_s (pc' := 125) K hinX7_count_X7 uX7_count_f7 dX7_count_122 rfl ?_
                      refine x_iconst (pc' := 126) (v := 5) K dX7_count_125 (by decide) rfl ?_
                      refine xw7_1l (pc' := 127) K (j := 5) (xin_of (by decide +kernel)) (by decide +kernel) dX7_count_126 rfl ?_
                      exact x_iret (wf := w7 cI a) K h dX7_count_127
                    · replace h := h.2 e1_10
                      refine (Classical.em (x1 = (10 : Int32))).elim (fun e1 => ?_) (fun e1_11 => ?_)
                      · replace h := h.1 e1
                        refine x_tableIn (tgt := 128) (off := 127) K dX7_count_1 (by rw [e1]; decide) (by rw [e1]; decide) (by rw [e1]; rfl) rfl ?_
                        refine x_aload_n (pc' := 129) K dX7_count_128 0 rfl rfl ?_
                        refine xw7_0g_traced (pc' := 132) K hinX7_count_X7 uX7_count_f227 dX7_count_129 rfl ?_
                        exact x_iret (wf := w7 cI a) K h dX7_count_132
                      · replace h := h.2 e1_11
                        refine (Classical.em (x1 = (11 : Int32))).elim (fun e1 => ?_) (fun e1_12 => ?_)
                        · replace h := h.1 e1
                          refine x_tableIn (tgt := 133) (off := 132) K dX7_count_1 (by rw [e1]; decide) (by rw [e1]; decide) (by rw [e1]; rfl) rfl ?_
                          refine x_aload_n (pc' := 134) K dX7_count_133 0 rfl rfl ?_
                          refine xw7_0g_s (pc' := 137) K hinX7_count_X7 uX7_count_f7 dX7_count_134 rfl ?_
                          refine x_bipush (pc' := 139) (v := 6) K dX7_count_137 (by decide) rfl ?_
                          refine xw7_1l (pc' := 140) K (j := 6) (xin_of (by decide +kernel)) (by decide +kernel) dX7_count_139 rfl ?_
                          exact x_iret (wf := w7 cI a) K h dX7_count_140
                        · replace h := h.2 e1_12
                          have f1_1 := xtin (i := 0) e1_1 (by decide)
                          have f1_2 := xtin (i := 1) e1_2 (by decide)
                          have f1_3 := xtin (i := 2) e1_3 (by decide)
                          have f1_4 := xtin (i := 3) e1_4 (by decide)
                          have f1_5 := xtin (i := 4) e1_5 (by decide)
                          have f1_6 := xtin (i := 5) e1_6 (by decide)
                          have f1_7 := xtin (i := 6) e1_7 (by decide)
                          have f1_8 := xtin (i := 7) e1_8 (by decide)
                          have f1_9 := xtin (i := 8) e1_9 (by decide)
                          have f1_10 := xtin (i := 9) e1_10 (by decide)
                          have f1_11 := xtin (i := 10) e1_11 (by decide)
                          have f1_12 := xtin (i := 11) e1_12 (by decide)
                          refine (Classical.em (x1.toInt < 0 ∨ 11 < x1.toInt)).elim (fun g1 => ?_) (fun g1 => ?_)
                          · refine x_tableOut (tgt := 141) K dX7_count_1 g1 rfl ?_
                            refine x_aload_n (pc' := 142) K dX7_count_141 0 rfl rfl ?_
                            refine x_iconst (pc' := 143) (v := 1) K dX7_count_142 (by decide) rfl ?_
                            refine x_callI (pc' := 146) K (mX7_error l D cI cO a _) rfl gX7_count_X7_error rfl dsX7_error ⟨rfl, rfl, ⟨Nat.le_of_ble_eq_true rfl, Nat.le_of_ble_eq_true rfl⟩, Nat.le_of_ble_eq_true rfl, Nat.le_of_ble_eq_true rfl⟩ h 7 0 rfl rfl (st := []) rfl rfl (Nat.le_of_ble_eq_true rfl) dX7_count_143 rfl (fun r143 F143 G143 h => ?_)
                            exact x_iret (wf := w7 cI a) K h dX7_count_146
                          · exact absurd g1 (by omega)
/-! X7_told -/
abbrev rmX7_told : Room := { frames := 3, cells := 0, slots := 0, locals := 82 }
theorem dsX7_told : xDesc yX7_told 1 := by decide +kernel
theorem uX7_told_f19 : Cond.fieldLink RX7 19 "PigNinthsModel" "errors" "[I" ∈ wsX7_told := nw_in nwl_X7_told nwe_518 (by decide +kernel)
theorem hinX7_told_X7 : ∀ w ∈ wsX70, w ∈ wsX7_told := nw_all nwl_X7_told nwl_X70 (by decide +kernel)
set_option maxHeartbeats 4000000 in
set_option maxRecDepth 100000 in
theorem mX7_told (l : Launch) (D : va_G) (cI cO : ClassId) (a : Nat → Nat)  (x1 : Int32) : MI l yX7_told wsX7_told rmX7_told D (xtys cI cO) [.ref (a 0), .int x1] (w7 cI a) (qX7_told x1) := by
  refine MI_of (cc := cX7_told) (maxL := 2) (own := RX7) (by decide) rfl rfl (Nat.le_of_ble_eq_true rfl) ?_
  intro p e s m args below meth c A F G Q h K
  refine x_locals [0, 1] (L' := [(0, .ref (a 0)), (1, .int _)]) rfl ?_
  refine x_iload_n (pc' := 1) K dX7_told_0 1 rfl rfl ?_
  refine x_iconst (pc' := 2) (v := 1) K dX7_told_1 (by decide) rfl ?_
  refine x_bipush (pc' := 4) (v := 6) K dX7_told_2 (by decide) rfl ?_
  refine x_callS (pc' := 7) K (mX7_in l D cI cO a _ _ _) rfl gX7_told_X7_in dsX7_in ⟨rfl, rfl, ⟨Nat.le_of_ble_eq_true rfl, Nat.le_of_ble_eq_true rfl⟩, Nat.le_of_ble_eq_true rfl, Nat.le_of_ble_eq_true rfl⟩ h (st := []) rfl rfl (Nat.le_of_ble_eq_true rfl) dX7_told_4 rfl (fun r4 h => ?_)
  refine x_if_eq (tgt := 19) (pc' := 10) K dX7_told_7 rfl rfl (fun c7 => ?_) (fun c7 => ?_)
  · replace h := h.1 c7
    refine x_aload_n (pc' := 20) K dX7_told_19 0 rfl rfl ?_
    refine x_iconst (pc' := 21) (v := 1) K dX7_told_20 (by decide) rfl ?_
    refine x_callI (pc' := 24) K (mX7_error l D cI cO a _) rfl gX7_told_X7_error rfl dsX7_error ⟨rfl, rfl, ⟨Nat.le_of_ble_eq_true rfl, Nat.le_of_ble_eq_true rfl⟩, Nat.le_of_ble_eq_true rfl, Nat.le_of_ble_eq_true rfl⟩ h 7 0 rfl rfl (st := []) rfl rfl (Nat.le_of_ble_eq_true rfl) dX7_told_21 rfl (fun r21 F21 G21 h => ?_)
    exact x_iret (wf := w7 cI a) K h dX7_told_24
  · replace h := h.2 c7
    refine x_aload_n (pc' := 11) K dX7_told_10 0 rfl rfl ?_
    refine xw7_0g_errors (pc' := 14) K hinX7_told_X7 uX7_told_f19 dX7_told_11 rfl ?_
    refine x_iload_n (pc' := 15) K dX7_told_14 1 rfl rfl ?_
    obtain ⟨i15, h⟩ := h
    refine xw7_4l (pc' := 16) K i15 rfl dX7_told_15 rfl ?_
    refine x_goto (tgt := 24) K dX7_told_16 rfl ?_
    exact x_iret (wf := w7 cI a) K h dX7_told_24
/-! X7_whoHid -/
abbrev rmX7_whoHid : Room := { frames := 10, cells := 0, slots := 0, locals := 255 }
theorem dsX7_whoHid : xDesc yX7_whoHid 3 := by decide +kernel
theorem uX7_whoHid_f47 : Cond.fieldLink RX7 47 "PigNinthsModel" "bits" "[I" ∈ wsX7_whoHid := nw_in nwl_X7_whoHid nwe_527 (by decide +kernel)
theorem hinX7_whoHid_X7 : ∀ w ∈ wsX70, w ∈ wsX7_whoHid := nw_all nwl_X7_whoHid nwl_X70 (by decide +kernel)
theorem uX7_whoHid_f50 : Cond.fieldLink RX7 50 "PigNinthsModel" "sizes" "[I" ∈ wsX7_whoHid := nw_in nwl_X7_whoHid nwe_528 (by decide +kernel)
set_option maxHeartbeats 4000000 in
set_option maxRecDepth 100000 in
theorem tX7_whoHid_135 (K : XK p m c cX7_whoHid 9 s args wsX7_whoHid RX7 D (xtys cI cO) A meth (some .int)) {Q : Int32 → xF → xA → Prop} {k70 : Int32 → Int32 → Int32 → Int32 → Int32 → Int32 → Int32 → xF → xA → Prop} (hk70 : ∀ (x1 : Int32) (x2 : Int32) (x3 : Int32) (x4 : Int32) (x5 : Int32) (x6 : Int32) (x7 : Int32) (F : xF) (G : xA), k70 x1 x2 x3 x4 x5 x6 x7 F G → XJ p l e rmX7_whoHid s m args below meth c 0 0 (MQ below (xQi D (w7 cI a) A Q) args s 0 0 A) D (xtys cI cO) A 9 (w7 cI a F G) 70 [(0, .ref (a 0)), (1, .int x1), (2, .int x2), (3, .int x3), (4, .int x4), (5, .int x5), (6, .int x6), (7, .int x7)] []) : ∀ (x1 : Int32) (x2 : Int32) (x3 : Int32) (x4 : Int32) (x5 : Int32) (x7 : Int32) (y0 : Int32) (F : xF) (G : xA), qX7_whoHid_135 Q k70 x1 x2 x3 x4 x5 x7 y0 F G → XJ p l e rmX7_whoHid s m args below meth c 0 0 (MQ below (xQi D (w7 cI a) A Q) args s 0 0 A) D (xtys cI cO) A 9 (w7 cI a F G) 135 [(0, .ref (a 0)), (1, .int x1), (2, .int x2), (3, .int x3), (4, .int x4), (5, .int x5), (7, .int x7)] [.int y0] := by
  intro x1 x2 x3 x4 x5 x7 y0 F G h
  refine x_istore (pc' := 137) (i := 6) K dX7_whoHid_135 (by decide) [1, 2, 3, 4, 5, 6, 0, 7] (L' := [(0, .ref (a 0)), (1, .int _), (2, .int _), (3, .int _), (4, .int _), (5, .int _), (6, .int _), (7, .int _)]) rfl rfl ?_
  refine x_iload (pc' := 139) K dX7_whoHid_137 5 rfl rfl ?_
  refine x_iconst (pc' := 140) (v := -1) K dX7_whoHid_139 (by decide) rfl ?_
  refine x_icmp_ne (tgt := 148) (pc' := 143) K dX7_whoHid_140 rfl rfl (fun c140 => ?_) (fun c140 => ?_)
  · replace h := h.1 c140
    refine x_iload (pc' := 150) K dX7_whoHid_148 5 rfl rfl ?_
    refine x_istore (pc' := 152) (i := 5) K dX7_whoHid_150 (by decide) [1, 2, 3, 4, 5, 0, 6, 7] (L' := [(0, .ref (a 0)), (1, .int _), (2, .int _), (3, .int _), (4, .int _), (5, .int _), (6, .int _), (7, .int _)]) rfl rfl ?_
    refine x_iinc (pc' := 155) (v := _ + (1 : Int32)) K dX7_whoHid_152 7 rfl rfl (by decide) [1, 2, 3, 4, 5, 6, 7, 0] (L' := [(0, .ref (a 0)), (1, .int _), (2, .int _), (3, .int _), (4, .int _), (5, .int _), (6, .int _), (7, .int _)]) rfl rfl ?_
    refine x_goto (tgt := 70) K dX7_whoHid_155 rfl ?_
    exact hk70 _ _ _ _ _ _ _ _ _ h
  · replace h := h.2 c140
    refine x_iload (pc' := 145) K dX7_whoHid_143 7 rfl rfl ?_
    refine x_goto (tgt := 150) K dX7_whoHid_145 rfl ?_
    refine x_istore (pc' := 152) (i := 5) K dX7_whoHid_150 (by decide) [1, 2, 3, 4, 5, 0, 6, 7] (L' := [(0, .ref (a 0)), (1, .int _), (2, .int _), (3, .int _), (4, .int _), (5, .int _), (6, .int _), (7, .int _)]) rfl rfl ?_
    refine x_iinc (pc' := 155) (v := _ + (1 : Int32)) K dX7_whoHid_152 7 rfl rfl (by decide) [1, 2, 3, 4, 5, 6, 7, 0] (L' := [(0, .ref (a 0)), (1, .int _), (2, .int _), (3, .int _), (4, .int _), (5, .int _), (6, .int _), (7, .int _)]) rfl rfl ?_
    refine x_goto (tgt := 70) K dX7_whoHid_155 rfl ?_
    exact hk70 _ _ _ _ _ _ _ _ _ h
set_option maxHeartbeats 4000000 in
set_option maxRecDepth 100000 in
theorem tX7_whoHid_106 (K : XK p m c cX7_whoHid 9 s args wsX7_whoHid RX7 D (xtys cI cO) A meth (some .int)) {Q : Int32 → xF → xA → Prop} {k70 : Int32 → Int32 → Int32 → Int32 → Int32 → Int32 → Int32 → xF → xA → Prop} (hk70 : ∀ (x1 : Int32) (x2 : Int32) (x3 : Int32) (x4 : Int32) (x5 : Int32) (x6 : Int32) (x7 : Int32) (F : xF) (G : xA), k70 x1 x2 x3 x4 x5 x6 x7 F G → XJ p l e rmX7_whoHid s m args below meth c 0 0 (MQ below (xQi D (w7 cI a) A Q) args s 0 0 A) D (xtys cI cO) A 9 (w7 cI a F G) 70 [(0, .ref (a 0)), (1, .int x1), (2, .int x2), (3, .int x3), (4, .int x4), (5, .int x5), (6, .int x6), (7, .int x7)] []) : ∀ (x1 : Int32) (x2 : Int32) (x3 : Int32) (x4 : Int32) (x5 : Int32) (x6 : Int32) (x7 : Int32) (x8 : Int32) (F : xF) (G : xA), qX7_whoHid_106 Q k70 x1 x2 x3 x4 x5 x6 x7 x8 F G → XJ p l e rmX7_whoHid s m args below meth c 0 0 (MQ below (xQi D (w7 cI a) A Q) args s 0 0 A) D (xtys cI cO) A 9 (w7 cI a F G) 106 [(0, .ref (a 0)), (1, .int x1), (2, .int x2), (3, .int x3), (4, .int x4), (5, .int x5), (6, .int x6), (7, .int x7), (8, .int x8)] [] := by
  intro x1 x2 x3 x4 x5 x6 x7 x8 F G h
  refine x_iload (pc' := 108) K dX7_whoHid_106 8 rfl rfl ?_
  refine x_bipush (pc' := 110) (v := 10) K dX7_whoHid_108 (by decide) rfl ?_
  refine x_icmp_ge (tgt := 152) (pc' := 113) K dX7_whoHid_110 rfl rfl (fun c110 => ?_) (fun c110 => ?_)
  · replace h := h.1 c110
    refine x_iinc (pc' := 155) (v := _ + (1 : Int32)) K dX7_whoHid_152 7 rfl rfl (by decide) [1, 2, 3, 4, 5, 6, 7, 0, 8] (L' := [(0, .ref (a 0)), (1, .int _), (2, .int _), (3, .int _), (4, .int _), (5, .int _), (6, .int _), (7, .int _), (8, .int _)]) rfl rfl ?_
    refine x_goto (tgt := 70) K dX7_whoHid_155 rfl ?_
    refine x_locals [0, 1, 2, 3, 4, 5, 6, 7] (L' := [(0, .ref (a 0)), (1, .int _), (2, .int _), (3, .int _), (4, .int _), (5, .int _), (6, .int _), (7, .int _)]) rfl ?_
    exact hk70 _ _ _ _ _ _ _ _ _ h
  · replace h := h.2 c110
    refine x_iload (pc' := 115) K dX7_whoHid_113 4 rfl rfl ?_
    refine x_iconst (pc' := 116) (v := 1) K dX7_whoHid_115 (by decide) rfl ?_
    refine x_iload (pc' := 118) K dX7_whoHid_116 7 rfl rfl ?_
    refine x_ishl (pc' := 119) K dX7_whoHid_118 rfl ?_
    refine x_ior (pc' := 120) K dX7_whoHid_119 rfl ?_
    refine x_istore (pc' := 122) (i := 4) K dX7_whoHid_120 (by decide) [1, 2, 3, 4, 0, 5, 6, 7, 8] (L' := [(0, .ref (a 0)), (1, .int _), (2, .int _), (3, .int _), (4, .int _), (5, .int _), (6, .int _), (7, .int _), (8, .int _)]) rfl rfl ?_
    refine x_iload (pc' := 124) K dX7_whoHid_122 5 rfl rfl ?_
    refine x_iconst (pc' := 125) (v := -1) K dX7_whoHid_124 (by decide) rfl ?_
    refine x_icmp_ne (tgt := 133) (pc' := 128) K dX7_whoHid_125 rfl rfl (fun c125 => ?_) (fun c125 => ?_)
    · replace h := h.1 c125
      refine x_iload (pc' := 135) K dX7_whoHid_133 6 rfl rfl ?_
      refine x_locals [0, 1, 2, 3, 4, 5, 7] (L' := [(0, .ref (a 0)), (1, .int _), (2, .int _), (3, .int _), (4, .int _), (5, .int _), (7, .int _)]) rfl ?_
      exact tX7_whoHid_135 K hk70 _ _ _ _ _ _ _ _ _ h
    · replace h := h.2 c125
      refine x_iload (pc' := 130) K dX7_whoHid_128 8 rfl rfl ?_
      refine x_goto (tgt := 135) K dX7_whoHid_130 rfl ?_
      refine x_locals [0, 1, 2, 3, 4, 5, 7] (L' := [(0, .ref (a 0)), (1, .int _), (2, .int _), (3, .int _), (4, .int _), (5, .int _), (7, .int _)]) rfl ?_
      exact tX7_whoHid_135 K hk70 _ _ _ _ _ _ _ _ _ h
set_option maxHeartbeats 4000000 in
set_option maxRecDepth 100000 in
theorem tX7_whoHid_80 (K : XK p m c cX7_whoHid 9 s args wsX7_whoHid RX7 D (xtys cI cO) A meth (some .int)) {Q : Int32 → xF → xA → Prop} {k70 : Int32 → Int32 → Int32 → Int32 → Int32 → Int32 → Int32 → xF → xA → Prop} (hk70 : ∀ (x1 : Int32) (x2 : Int32) (x3 : Int32) (x4 : Int32) (x5 : Int32) (x6 : Int32) (x7 : Int32) (F : xF) (G : xA), k70 x1 x2 x3 x4 x5 x6 x7 F G → XJ p l e rmX7_whoHid s m args below meth c 0 0 (MQ below (xQi D (w7 cI a) A Q) args s 0 0 A) D (xtys cI cO) A 9 (w7 cI a F G) 70 [(0, .ref (a 0)), (1, .int x1), (2, .int x2), (3, .int x3), (4, .int x4), (5, .int x5), (6, .int x6), (7, .int x7)] []) : ∀ (n : Nat), ∀ (x1 : Int32) (x2 : Int32) (x3 : Int32) (x4 : Int32) (x5 : Int32) (x6 : Int32) (x7 : Int32) (x8 : Int32) (F : xF) (G : xA), qX7_whoHid_80 Q k70 n x1 x2 x3 x4 x5 x6 x7 x8 F G → XJ p l e rmX7_whoHid s m args below meth c 0 0 (MQ below (xQi D (w7 cI a) A Q) args s 0 0 A) D (xtys cI cO) A 9 (w7 cI a F G) 80 [(0, .ref (a 0)), (1, .int x1), (2, .int x2), (3, .int x3), (4, .int x4), (5, .int x5), (6, .int x6), (7, .int x7), (8, .int x8)] [] := by
  intro n
  induction n with
  | zero =>
    intro x1 x2 x3 x4 x5 x6 x7 x8 F G h
    exact False.elim h
  | succ n ih =>
    intro x1 x2 x3 x4 x5 x6 x7 x8 F G h
    refine x_iload (pc' := 82) K dX7_whoHid_80 8 rfl rfl ?_
    refine x_bipush (pc' := 84) (v := 10) K dX7_whoHid_82 (by decide) rfl ?_
    refine x_icmp_ge (tgt := 106) (pc' := 87) K dX7_whoHid_84 rfl rfl (fun c84 => ?_) (fun c84 => ?_)
    · replace h := h.1 c84
      exact tX7_whoHid_106 K hk70 _ _ _ _ _ _ _ _ _ _ h
    · replace h := h.2 c84
      refine x_aload_n (pc' := 88) K dX7_whoHid_87 0 rfl rfl ?_
      refine x_iload_n (pc' := 89) K dX7_whoHid_88 1 rfl rfl ?_
      refine x_iload (pc' := 91) K dX7_whoHid_89 7 rfl rfl ?_
      refine x_iload (pc' := 93) K dX7_whoHid_91 8 rfl rfl ?_
      refine x_iload_n (pc' := 94) K dX7_whoHid_93 2 rfl rfl ?_
      refine x_callI (pc' := 97) K (mX7_explains l D cI cO a _ _ _ _) rfl gX7_whoHid_X7_explains rfl dsX7_explains ⟨rfl, rfl, ⟨Nat.le_of_ble_eq_true rfl, Nat.le_of_ble_eq_true rfl⟩, Nat.le_of_ble_eq_true rfl, Nat.le_of_ble_eq_true rfl⟩ h 7 0 rfl rfl (st := []) rfl rfl (Nat.le_of_ble_eq_true rfl) dX7_whoHid_94 rfl (fun r94 F94 G94 h => ?_)
      refine x_if_ne (tgt := 106) (pc' := 100) K dX7_whoHid_97 rfl rfl (fun c97 => ?_) (fun c97 => ?_)
      · replace h := h.1 c97
        exact tX7_whoHid_106 K hk70 _ _ _ _ _ _ _ _ _ _ h
      · replace h := h.2 c97
        refine x_iinc (pc' := 103) (v := _ + (1 : Int32)) K dX7_whoHid_100 8 rfl rfl (by decide) [1, 2, 3, 4, 5, 6, 7, 8, 0] (L' := [(0, .ref (a 0)), (1, .int _), (2, .int _), (3, .int _), (4, .int _), (5, .int _), (6, .int _), (7, .int _), (8, .int _)]) rfl rfl ?_
        refine x_goto (tgt := 80) K dX7_whoHid_103 rfl ?_
        exact ih _ _ _ _ _ _ _ _ _ _ h
set_option maxHeartbeats 4000000 in
set_option maxRecDepth 100000 in
theorem tX7_whoHid_70 (K : XK p m c cX7_whoHid 9 s args wsX7_whoHid RX7 D (xtys cI cO) A meth (some .int)) {Q : Int32 → xF → xA → Prop} : ∀ (n : Nat), ∀ (x1 : Int32) (x2 : Int32) (x3 : Int32) (x4 : Int32) (x5 : Int32) (x6 : Int32) (x7 : Int32) (F : xF) (G : xA), qX7_whoHid_70 Q n x1 x2 x3 x4 x5 x6 x7 F G → XJ p l e rmX7_whoHid s m args below meth c 0 0 (MQ below (xQi D (w7 cI a) A Q) args s 0 0 A) D (xtys cI cO) A 9 (w7 cI a F G) 70 [(0, .ref (a 0)), (1, .int x1), (2, .int x2), (3, .int x3), (4, .int x4), (5, .int x5), (6, .int x6), (7, .int x7)] [] := by
  intro n
  induction n with
  | zero =>
    intro x1 x2 x3 x4 x5 x6 x7 F G h
    exact False.elim h
  | succ n ih =>
    intro x1 x2 x3 x4 x5 x6 x7 F G h
    refine x_iload (pc' := 72) K dX7_whoHid_70 7 rfl rfl ?_
    refine x_bipush (pc' := 74) (v := 9) K dX7_whoHid_72 (by decide) rfl ?_
    refine x_icmp_ge (tgt := 158) (pc' := 77) K dX7_whoHid_74 rfl rfl (fun c74 => ?_) (fun c74 => ?_)
    · replace h := h.1 c74
      refine x_iload_n (pc' := 159) K dX7_whoHid_158 3 rfl rfl ?_
      refine x_if_ne (tgt := 167) (pc' := 162) K dX7_whoHid_159 rfl rfl (fun c159 => ?_) (fun c159 => ?_)
      · replace h := h.1 c159
        refine x_iload (pc' := 169) K dX7_whoHid_167 5 rfl rfl ?_
        refine x_iconst (pc' := 170) (v := -1) K dX7_whoHid_169 (by decide) rfl ?_
        refine x_icmp_ne (tgt := 181) (pc' := 173) K dX7_whoHid_170 rfl rfl (fun c170 => ?_) (fun c170 => ?_)
        · replace h := h.1 c170
          refine x_iload_n (pc' := 182) K dX7_whoHid_181 3 rfl rfl ?_
          refine x_iconst (pc' := 183) (v := 1) K dX7_whoHid_182 (by decide) rfl ?_
          refine x_icmp_ne (tgt := 191) (pc' := 186) K dX7_whoHid_183 rfl rfl (fun c183 => ?_) (fun c183 => ?_)
          · replace h := h.1 c183
            refine x_iload (pc' := 193) K dX7_whoHid_191 6 rfl rfl ?_
            exact x_iret (wf := w7 cI a) K h dX7_whoHid_193
          · replace h := h.2 c183
            refine x_iload (pc' := 188) K dX7_whoHid_186 5 rfl rfl ?_
            refine x_goto (tgt := 193) K dX7_whoHid_188 rfl ?_
            exact x_iret (wf := w7 cI a) K h dX7_whoHid_193
        · replace h := h.2 c170
          refine x_aload_n (pc' := 174) K dX7_whoHid_173 0 rfl rfl ?_
          refine x_iconst (pc' := 175) (v := 2) K dX7_whoHid_174 (by decide) rfl ?_
          refine x_callI (pc' := 178) K (mX7_error l D cI cO a _) rfl gX7_whoHid_X7_error rfl dsX7_error ⟨rfl, rfl, ⟨Nat.le_of_ble_eq_true rfl, Nat.le_of_ble_eq_true rfl⟩, Nat.le_of_ble_eq_true rfl, Nat.le_of_ble_eq_true rfl⟩ h 7 0 rfl rfl (st := []) rfl rfl (Nat.le_of_ble_eq_true rfl) dX7_whoHid_175 rfl (fun r175 F175 G175 h => ?_)
          refine x_goto (tgt := 193) K dX7_whoHid_178 rfl ?_
          exact x_iret (wf := w7 cI a) K h dX7_whoHid_193
      · replace h := h.2 c159
        refine x_iload (pc' := 164) K dX7_whoHid_162 4 rfl rfl ?_
        refine x_goto (tgt := 193) K dX7_whoHid_164 rfl ?_
        exact x_iret (wf := w7 cI a) K h dX7_whoHid_193
    · replace h := h.2 c74
      refine x_iconst (pc' := 78) (v := 0) K dX7_whoHid_77 (by decide) rfl ?_
      refine x_istore (pc' := 80) (i := 8) K dX7_whoHid_78 (by decide) [1, 2, 3, 4, 5, 6, 7, 8, 0] (L' := [(0, .ref (a 0)), (1, .int _), (2, .int _), (3, .int _), (4, .int _), (5, .int _), (6, .int _), (7, .int _), (8, .int _)]) rfl rfl ?_
      obtain ⟨n80, h⟩ := h
      exact tX7_whoHid_80 K (fun x1 x2 x3 x4 x5 x6 x7 F G h => ih x1 x2 x3 x4 x5 x6 x7 F G h) n80 _ _ _ _ _ _ _ _ _ _ h
set_option maxHeartbeats 4000000 in
set_option maxRecDepth 100000 in
theorem mX7_whoHid (l : Launch) (D : va_G) (cI cO : ClassId) (a : Nat → Nat)  (x1 : Int32) (x2 : Int32) (x3 : Int32) : MI l yX7_whoHid wsX7_whoHid rmX7_whoHid D (xtys cI cO) [.ref (a 0), .int x1, .int x2, .int x3] (w7 cI a) (qX7_whoHid x1 x2 x3) := by
  refine MI_of (cc := cX7_whoHid) (maxL := 9) (own := RX7) (by decide) rfl rfl (Nat.le_of_ble_eq_true rfl) ?_
  intro p e s m args below meth c A F G Q h K
  refine x_locals [0, 1, 2, 3] (L' := [(0, .ref (a 0)), (1, .int _), (2, .int _), (3, .int _)]) rfl ?_
  refine x_iload_n (pc' := 1) K dX7_whoHid_0 1 rfl rfl ?_
  refine x_callS (pc' := 4) K (mX7_isSheet l D cI cO a _) rfl gX7_whoHid_X7_isSheet dsX7_isSheet ⟨rfl, rfl, ⟨Nat.le_of_ble_eq_true rfl, Nat.le_of_ble_eq_true rfl⟩, Nat.le_of_ble_eq_true rfl, Nat.le_of_ble_eq_true rfl⟩ h (st := []) rfl rfl (Nat.le_of_ble_eq_true rfl) dX7_whoHid_1 rfl (fun r1 h => ?_)
  refine x_if_eq (tgt := 26) (pc' := 7) K dX7_whoHid_4 rfl rfl (fun c4 => ?_) (fun c4 => ?_)
  · replace h := h.1 c4
    refine x_aload_n (pc' := 27) K dX7_whoHid_26 0 rfl rfl ?_
    refine x_iconst (pc' := 28) (v := 1) K dX7_whoHid_27 (by decide) rfl ?_
    refine x_callI (pc' := 31) K (mX7_error l D cI cO a _) rfl gX7_whoHid_X7_error rfl dsX7_error ⟨rfl, rfl, ⟨Nat.le_of_ble_eq_true rfl, Nat.le_of_ble_eq_true rfl⟩, Nat.le_of_ble_eq_true rfl, Nat.le_of_ble_eq_true rfl⟩ h 7 0 rfl rfl (st := []) rfl rfl (Nat.le_of_ble_eq_true rfl) dX7_whoHid_28 rfl (fun r28 F28 G28 h => ?_)
    exact x_iret (wf := w7 cI a) K h dX7_whoHid_31
  · replace h := h.2 c4
    refine x_iload_n (pc' := 8) K dX7_whoHid_7 2 rfl rfl ?_
    refine x_iconst (pc' := 9) (v := 1) K dX7_whoHid_8 (by decide) rfl ?_
    refine x_bipush (pc' := 11) (v := 18) K dX7_whoHid_9 (by decide) rfl ?_
    refine x_callS (pc' := 14) K (mX7_in l D cI cO a _ _ _) rfl gX7_whoHid_X7_in dsX7_in ⟨rfl, rfl, ⟨Nat.le_of_ble_eq_true rfl, Nat.le_of_ble_eq_true rfl⟩, Nat.le_of_ble_eq_true rfl, Nat.le_of_ble_eq_true rfl⟩ h (st := []) rfl rfl (Nat.le_of_ble_eq_true rfl) dX7_whoHid_11 rfl (fun r11 h => ?_)
    refine x_if_eq (tgt := 26) (pc' := 17) K dX7_whoHid_14 rfl rfl (fun c14 => ?_) (fun c14 => ?_)
    · replace h := h.1 c14
      refine x_aload_n (pc' := 27) K dX7_whoHid_26 0 rfl rfl ?_
      refine x_iconst (pc' := 28) (v := 1) K dX7_whoHid_27 (by decide) rfl ?_
      refine x_callI (pc' := 31) K (mX7_error l D cI cO a _) rfl gX7_whoHid_X7_error rfl dsX7_error ⟨rfl, rfl, ⟨Nat.le_of_ble_eq_true rfl, Nat.le_of_ble_eq_true rfl⟩, Nat.le_of_ble_eq_true rfl, Nat.le_of_ble_eq_true rfl⟩ h 7 0 rfl rfl (st := []) rfl rfl (Nat.le_of_ble_eq_true rfl) dX7_whoHid_28 rfl (fun r28 F28 G28 h => ?_)
      exact x_iret (wf := w7 cI a) K h dX7_whoHid_31
    · replace h := h.2 c14
      refine x_iload_n (pc' := 18) K dX7_whoHid_17 3 rfl rfl ?_
      refine x_iconst (pc' := 19) (v := 0) K dX7_whoHid_18 (by decide) rfl ?_
      refine x_iconst (pc' := 20) (v := 2) K dX7_whoHid_19 (by decide) rfl ?_
      refine x_callS (pc' := 23) K (mX7_in l D cI cO a _ _ _) rfl gX7_whoHid_X7_in dsX7_in ⟨rfl, rfl, ⟨Nat.le_of_ble_eq_true rfl, Nat.le_of_ble_eq_true rfl⟩, Nat.le_of_ble_eq_true rfl, Nat.le_of_ble_eq_true rfl⟩ h (st := []) rfl rfl (Nat.le_of_ble_eq_true rfl) dX7_whoHid_20 rfl (fun r20 h => ?_)
      refine x_if_ne (tgt := 32) (pc' := 26) K dX7_whoHid_23 rfl rfl (fun c23 => ?_) (fun c23 => ?_)
      · replace h := h.1 c23
        refine x_aload_n (pc' := 33) K dX7_whoHid_32 0 rfl rfl ?_
        refine xw7_0g_bits (pc' := 36) K hinX7_whoHid_X7 uX7_whoHid_f47 dX7_whoHid_33 rfl ?_
        refine x_iload_n (pc' := 37) K dX7_whoHid_36 1 rfl rfl ?_
        obtain ⟨i37, h⟩ := h
        refine xw7_12l (pc' := 38) K i37 rfl dX7_whoHid_37 rfl ?_
        refine x_if_eq (tgt := 52) (pc' := 41) K dX7_whoHid_38 rfl rfl (fun c38 => ?_) (fun c38 => ?_)
        · replace h := h.1 c38
          refine x_aload_n (pc' := 53) K dX7_whoHid_52 0 rfl rfl ?_
          refine x_iconst (pc' := 54) (v := 2) K dX7_whoHid_53 (by decide) rfl ?_
          refine x_callI (pc' := 57) K (mX7_error l D cI cO a _) rfl gX7_whoHid_X7_error rfl dsX7_error ⟨rfl, rfl, ⟨Nat.le_of_ble_eq_true rfl, Nat.le_of_ble_eq_true rfl⟩, Nat.le_of_ble_eq_true rfl, Nat.le_of_ble_eq_true rfl⟩ h 7 0 rfl rfl (st := []) rfl rfl (Nat.le_of_ble_eq_true rfl) dX7_whoHid_54 rfl (fun r54 F54 G54 h => ?_)
          exact x_iret (wf := w7 cI a) K h dX7_whoHid_57
        · replace h := h.2 c38
          refine x_aload_n (pc' := 42) K dX7_whoHid_41 0 rfl rfl ?_
          refine xw7_0g_sizes (pc' := 45) K hinX7_whoHid_X7 uX7_whoHid_f50 dX7_whoHid_42 rfl ?_
          refine x_iload_n (pc' := 46) K dX7_whoHid_45 1 rfl rfl ?_
          obtain ⟨i46, h⟩ := h
          refine xw7_13l (pc' := 47) K i46 rfl dX7_whoHid_46 rfl ?_
          refine x_bipush (pc' := 49) (v := 9) K dX7_whoHid_47 (by decide) rfl ?_
          refine x_icmp_ge (tgt := 58) (pc' := 52) K dX7_whoHid_49 rfl rfl (fun c49 => ?_) (fun c49 => ?_)
          · replace h := h.1 c49
            refine x_iconst (pc' := 59) (v := 0) K dX7_whoHid_58 (by decide) rfl ?_
            refine x_istore (pc' := 61) (i := 4) K dX7_whoHid_59 (by decide) [1, 2, 3, 4, 0] (L' := [(0, .ref (a 0)), (1, .int _), (2, .int _), (3, .int _), (4, .int _)]) rfl rfl ?_
            refine x_iconst (pc' := 62) (v := -1) K dX7_whoHid_61 (by decide) rfl ?_
            refine x_istore (pc' := 64) (i := 5) K dX7_whoHid_62 (by decide) [1, 2, 3, 4, 5, 0] (L' := [(0, .ref (a 0)), (1, .int _), (2, .int _), (3, .int _), (4, .int _), (5, .int _)]) rfl rfl ?_
            refine x_iconst (pc' := 65) (v := 0) K dX7_whoHid_64 (by decide) rfl ?_
            refine x_istore (pc' := 67) (i := 6) K dX7_whoHid_65 (by decide) [1, 2, 3, 4, 5, 6, 0] (L' := [(0, .ref (a 0)), (1, .int _), (2, .int _), (3, .int _), (4, .int _), (5, .int _), (6, .int _)]) rfl rfl ?_
            refine x_iconst (pc' := 68) (v := 0) K dX7_whoHid_67 (by decide) rfl ?_
            refine x_istore (pc' := 70) (i := 7) K dX7_whoHid_68 (by decide) [1, 2, 3, 4, 5, 6, 7, 0] (L' := [(0, .ref (a 0)), (1, .int _), (2, .int _), (3, .int _), (4, .int _), (5, .int _), (6, .int _), (7, .int _)]) rfl rfl ?_
            obtain ⟨n70, h⟩ := h
            exact tX7_whoHid_70 K n70 _ _ _ _ _ _ _ _ _ h
          · replace h := h.2 c49
            refine x_aload_n (pc' := 53) K dX7_whoHid_52 0 rfl rfl ?_
            refine x_iconst (pc' := 54) (v := 2) K dX7_whoHid_53 (by decide) rfl ?_
            refine x_callI (pc' := 57) K (mX7_error l D cI cO a _) rfl gX7_whoHid_X7_error rfl dsX7_error ⟨rfl, rfl, ⟨Nat.le_of_ble_eq_true rfl, Nat.le_of_ble_eq_true rfl⟩, Nat.le_of_ble_eq_true rfl, Nat.le_of_ble_eq_true rfl⟩ h 7 0 rfl rfl (st := []) rfl rfl (Nat.le_of_ble_eq_true rfl) dX7_whoHid_54 rfl (fun r54 F54 G54 h => ?_)
            exact x_iret (wf := w7 cI a) K h dX7_whoHid_57
      · replace h := h.2 c23
        refine x_aload_n (pc' := 27) K dX7_whoHid_26 0 rfl rfl ?_
        refine x_iconst (pc' := 28) (v := 1) K dX7_whoHid_27 (by decide) rfl ?_
        refine x_callI (pc' := 31) K (mX7_error l D cI cO a _) rfl gX7_whoHid_X7_error rfl dsX7_error ⟨rfl, rfl, ⟨Nat.le_of_ble_eq_true rfl, Nat.le_of_ble_eq_true rfl⟩, Nat.le_of_ble_eq_true rfl, Nat.le_of_ble_eq_true rfl⟩ h 7 0 rfl rfl (st := []) rfl rfl (Nat.le_of_ble_eq_true rfl) dX7_whoHid_28 rfl (fun r28 F28 G28 h => ?_)
        exact x_iret (wf := w7 cI a) K h dX7_whoHid_31
end
