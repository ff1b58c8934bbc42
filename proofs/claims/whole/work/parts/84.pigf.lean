section
variable {p : Program} {l : Launch} {e : Env} {s : State} {m : MethodId} {args : Array Value} {below : List Frame} {meth : Method} {c : Code} {D : va_G} {cI cO : ClassId} {A : Nat → Prop} {a : Nat → Nat} {d : Nat}
/-! X6_unders -/
abbrev rmX6_unders : Room := { frames := 4, cells := 0, slots := 0, locals := 102 }
theorem dsX6_unders : xDesc yX6_unders 1 := by decide +kernel
theorem uX6_unders_f70 : Cond.fieldLink RX6 70 "PigNinths" "sheets" "[LPigNinths$Sheet;" ∈ wsX6_unders := nw_in nwl_X6_unders nwe_348 (by decide +kernel)
theorem hinX6_unders_X6 : ∀ w ∈ wsX60, w ∈ wsX6_unders := nw_all nwl_X6_unders nwl_X60 (by decide +kernel)
theorem uX6_unders_f212 : Cond.fieldLink RX6 212 "PigNinths$Sheet" "size" "I" ∈ wsX6_unders := nw_in nwl_X6_unders nwe_467 (by decide +kernel)
theorem hinX6_unders_X2 : ∀ w ∈ wsX20, w ∈ wsX6_unders := nw_all nwl_X6_unders nwl_X20 (by decide +kernel)
theorem uX6_unders_m252 : Cond.methodLink RX6 252 Lib.Math.min.name ∈ wsX6_unders := nw_in nwl_X6_unders nwe_499 (by decide +kernel)
theorem uX6_unders_msmin : Cond.static Lib.Math.min.name ∈ wsX6_unders := nw_in nwl_X6_unders nwe_96 (by decide +kernel)
theorem uX6_unders_mi : Cond.initialized "java/lang/Math" ∈ wsX6_unders := nw_in nwl_X6_unders nwe_79 (by decide +kernel)
theorem uX6_unders_mcmin : Cond.code Lib.Math.min.name Lib.Math.min.code 2 (some .int) ∈ wsX6_unders := nw_in nwl_X6_unders nwe_97 (by decide +kernel)
theorem uX6_unders_f10 : Cond.fieldLink RX6 10 "PigNinths" "now" "LPigNinths$World;" ∈ wsX6_unders := nw_in nwl_X6_unders nwe_329 (by decide +kernel)
theorem uX6_unders_f96 : Cond.fieldLink RX6 96 "PigNinths$World" "under" "[I" ∈ wsX6_unders := nw_in nwl_X6_unders nwe_369 (by decide +kernel)
theorem hinX6_unders_X5 : ∀ w ∈ wsX50, w ∈ wsX6_unders := nw_all nwl_X6_unders nwl_X50 (by decide +kernel)
set_option maxHeartbeats 4000000 in
set_option maxRecDepth 100000 in
theorem tX6_unders_46 (K : XK p m c cX6_unders 5 s args wsX6_unders RX6 D (xtys cI cO) A meth (some .int)) {Q : Int32 → xF → xA → Prop} : ∀ (n : Nat), ∀ (x3 : Int32) (x4 : Int32) (F : xF) (G : xA), qX6_unders_46 Q n x3 x4 F G → XJ p l e rmX6_unders s m args below meth c 0 0 (MQ below (xQi D (w6 cI cO a) A Q) args s 0 0 A) D (xtys cI cO) A 5 (w6 cI cO a F G) 46 [(0, .ref (a 0)), (2, .ref (a 97)), (3, .int x3), (4, .int x4)] [] := by
  intro n
  induction n with
  | zero =>
    intro x3 x4 F G h
    exact False.elim h
  | succ n ih =>
    intro x3 x4 F G h
    refine x_iload_n (pc' := 47) K dX6_unders_46 2 rfl rfl ?_
    refine x_iload (pc' := 49) K dX6_unders_47 3 rfl rfl ?_
    refine x_icmp_ge (tgt := 87) (pc' := 52) K dX6_unders_49 rfl rfl (fun c49 => ?_) (fun c49 => ?_)
    · replace h := h.1 c49
      refine x_iload_n (pc' := 88) K dX6_unders_87 2 rfl rfl ?_
      exact x_iret (wf := w6 cI cO a) K h dX6_unders_88
    · replace h := h.2 c49
      refine x_aload_n (pc' := 53) K dX6_unders_52 1 rfl rfl ?_
      refine x_iload_n (pc' := 54) K dX6_unders_53 2 rfl rfl ?_
      refine x_subI (pc' := 57) (wn := fun F' G' => w6 cI cO a (xspl F 42 2 F') (xspl G 66 1 G')) K (mX2_at l D cI cO (xsub a 97) _) rfl gX6_unders_X2_at rfl dsX2_at ⟨rfl, rfl, ⟨Nat.le_of_ble_eq_true rfl, Nat.le_of_ble_eq_true rfl⟩, Nat.le_of_ble_eq_true rfl, Nat.le_of_ble_eq_true rfl⟩ h 2 0 rfl rfl (xpl31 cI cO a _ _) (fun F' G' => xpr31 cI cO a _ _ F' G') (st := []) rfl rfl (Nat.le_of_ble_eq_true rfl) dX6_unders_54 rfl (fun r54 F54 G54 h => ?_)
      obtain ⟨E54, eE54⟩ : ∃ x : xF, x = (xspl F 42 2 F54) := ⟨_, rfl⟩
      obtain ⟨H54, eH54⟩ : ∃ x : xA, x = (xspl G 66 1 G54) := ⟨_, rfl⟩
      refine x_weq (w' := w6 cI cO a E54 H54) (by subst eE54; subst eH54; rfl) ?_
      replace h := h E54 eE54
      replace h := h H54 eH54
      refine x_iconst (pc' := 58) (v := 0) K dX6_unders_57 (by decide) rfl ?_
      refine x_sipush (pc' := 61) (v := 999) K dX6_unders_58 (by decide) rfl ?_
      refine x_callS (pc' := 64) K (mX6_within l D cI cO a _ _ _) rfl gX6_unders_X6_within dsX6_within ⟨rfl, rfl, ⟨Nat.le_of_ble_eq_true rfl, Nat.le_of_ble_eq_true rfl⟩, Nat.le_of_ble_eq_true rfl, Nat.le_of_ble_eq_true rfl⟩ h (st := []) rfl rfl (Nat.le_of_ble_eq_true rfl) dX6_unders_61 rfl (fun r61 h => ?_)
      refine x_if_eq (tgt := 87) (pc' := 67) K dX6_unders_64 rfl rfl (fun c64 => ?_) (fun c64 => ?_)
      · replace h := h.1 c64
        refine x_iload_n (pc' := 88) K dX6_unders_87 2 rfl rfl ?_
        exact x_iret (wf := w6 cI cO a) K h dX6_unders_88
      · replace h := h.2 c64
        refine x_aload_n (pc' := 68) K dX6_unders_67 0 rfl rfl ?_
        refine xw6_0g_now (pc' := 71) K hinX6_unders_X6 uX6_unders_f10 dX6_unders_68 rfl ?_
        refine xw6_1g_under (pc' := 74) K hinX6_unders_X5 uX6_unders_f96 dX6_unders_71 rfl ?_
        refine x_iload_n (pc' := 75) K dX6_unders_74 2 rfl rfl ?_
        refine x_aload_n (pc' := 76) K dX6_unders_75 1 rfl rfl ?_
        refine x_iload_n (pc' := 77) K dX6_unders_76 2 rfl rfl ?_
        refine x_subI (pc' := 80) (wn := fun F' G' => w6 cI cO a (xspl E54 42 2 F') (xspl H54 66 1 G')) K (mX2_at l D cI cO (xsub a 97) _) rfl gX6_unders_X2_at rfl dsX2_at ⟨rfl, rfl, ⟨Nat.le_of_ble_eq_true rfl, Nat.le_of_ble_eq_true rfl⟩, Nat.le_of_ble_eq_true rfl, Nat.le_of_ble_eq_true rfl⟩ h 2 0 rfl rfl (xpl31 cI cO a _ _) (fun F' G' => xpr31 cI cO a _ _ F' G') (st := [.int _, .ref (a 3)]) rfl rfl (Nat.le_of_ble_eq_true rfl) dX6_unders_77 rfl (fun r77 F77 G77 h => ?_)
        obtain ⟨E77, eE77⟩ : ∃ x : xF, x = (xspl E54 42 2 F77) := ⟨_, rfl⟩
        obtain ⟨H77, eH77⟩ : ∃ x : xA, x = (xspl H54 66 1 G77) := ⟨_, rfl⟩
        refine x_weq (w' := w6 cI cO a E77 H77) (by subst eE77; subst eH77; rfl) ?_
        replace h := h E77 eE77
        replace h := h H77 eH77
        obtain ⟨i80, h⟩ := h
        refine xw6_3s (pc' := 81) K i80 rfl dX6_unders_80 rfl (fun G80 eG80 => ?_)
        replace h := h G80 eG80
        refine x_iinc (pc' := 84) (v := _ + (1 : Int32)) K dX6_unders_81 2 rfl rfl (by decide) [1, 2, 0, 3] (L' := [(0, .ref (a 0)), (2, .ref (a 97)), (3, .int _), (4, .int _)]) rfl rfl ?_
        refine x_goto (tgt := 46) K dX6_unders_84 rfl ?_
        exact ih _ _ _ _ h
set_option maxHeartbeats 4000000 in
set_option maxRecDepth 100000 in
theorem tX6_unders_46_1 (K : XK p m c cX6_unders 5 s args wsX6_unders RX6 D (xtys cI cO) A meth (some .int)) {Q : Int32 → xF → xA → Prop} : ∀ (n : Nat), ∀ (x3 : Int32) (x4 : Int32) (F : xF) (G : xA), qX6_unders_46_1 Q n x3 x4 F G → XJ p l e rmX6_unders s m args below meth c 0 0 (MQ below (xQi D (w6 cI cO a) A Q) args s 0 0 A) D (xtys cI cO) A 5 (w6 cI cO a F G) 46 [(0, .ref (a 0)), (2, .ref (a 99)), (3, .int x3), (4, .int x4)] [] := by
  intro n
  induction n with
  | zero =>
    intro x3 x4 F G h
    exact False.elim h
  | succ n ih =>
    intro x3 x4 F G h
    refine x_iload_n (pc' := 47) K dX6_unders_46 2 rfl rfl ?_
    refine x_iload (pc' := 49) K dX6_unders_47 3 rfl rfl ?_
    refine x_icmp_ge (tgt := 87) (pc' := 52) K dX6_unders_49 rfl rfl (fun c49 => ?_) (fun c49 => ?_)
    · replace h := h.1 c49
      refine x_iload_n (pc' := 88) K dX6_unders_87 2 rfl rfl ?_
      exact x_iret (wf := w6 cI cO a) K h dX6_unders_88
    · replace h := h.2 c49
      refine x_aload_n (pc' := 53) K dX6_unders_52 1 rfl rfl ?_
      refine x_iload_n (pc' := 54) K dX6_unders_53 2 rfl rfl ?_
      refine x_subI (pc' := 57) (wn := fun F' G' => w6 cI cO a (xspl F 44 2 F') (xspl G 67 1 G')) K (mX2_at l D cI cO (xsub a 99) _) rfl gX6_unders_X2_at rfl dsX2_at ⟨rfl, rfl, ⟨Nat.le_of_ble_eq_true rfl, Nat.le_of_ble_eq_true rfl⟩, Nat.le_of_ble_eq_true rfl, Nat.le_of_ble_eq_true rfl⟩ h 2 0 rfl rfl (xpl32 cI cO a _ _) (fun F' G' => xpr32 cI cO a _ _ F' G') (st := []) rfl rfl (Nat.le_of_ble_eq_true rfl) dX6_unders_54 rfl (fun r54 F54 G54 h => ?_)
      obtain ⟨E54, eE54⟩ : ∃ x : xF, x = (xspl F 44 2 F54) := ⟨_, rfl⟩
      obtain ⟨H54, eH54⟩ : ∃ x : xA, x = (xspl G 67 1 G54) := ⟨_, rfl⟩
      refine x_weq (w' := w6 cI cO a E54 H54) (by subst eE54; subst eH54; rfl) ?_
      replace h := h E54 eE54
      replace h := h H54 eH54
      refine x_iconst (pc' := 58) (v := 0) K dX6_unders_57 (by decide) rfl ?_
      refine x_sipush (pc' := 61) (v := 999) K dX6_unders_58 (by decide) rfl ?_
      refine x_callS (pc' := 64) K (mX6_within l D cI cO a _ _ _) rfl gX6_unders_X6_within dsX6_within ⟨rfl, rfl, ⟨Nat.le_of_ble_eq_true rfl, Nat.le_of_ble_eq_true rfl⟩, Nat.le_of_ble_eq_true rfl, Nat.le_of_ble_eq_true rfl⟩ h (st := []) rfl rfl (Nat.le_of_ble_eq_true rfl) dX6_unders_61 rfl (fun r61 h => ?_)
      refine x_if_eq (tgt := 87) (pc' := 67) K dX6_unders_64 rfl rfl (fun c64 => ?_) (fun c64 => ?_)
      · replace h := h.1 c64
        refine x_iload_n (pc' := 88) K dX6_unders_87 2 rfl rfl ?_
        exact x_iret (wf := w6 cI cO a) K h dX6_unders_88
      · replace h := h.2 c64
        refine x_aload_n (pc' := 68) K dX6_unders_67 0 rfl rfl ?_
        refine xw6_0g_now (pc' := 71) K hinX6_unders_X6 uX6_unders_f10 dX6_unders_68 rfl ?_
        refine xw6_1g_under (pc' := 74) K hinX6_unders_X5 uX6_unders_f96 dX6_unders_71 rfl ?_
        refine x_iload_n (pc' := 75) K dX6_unders_74 2 rfl rfl ?_
        refine x_aload_n (pc' := 76) K dX6_unders_75 1 rfl rfl ?_
        refine x_iload_n (pc' := 77) K dX6_unders_76 2 rfl rfl ?_
        refine x_subI (pc' := 80) (wn := fun F' G' => w6 cI cO a (xspl E54 44 2 F') (xspl H54 67 1 G')) K (mX2_at l D cI cO (xsub a 99) _) rfl gX6_unders_X2_at rfl dsX2_at ⟨rfl, rfl, ⟨Nat.le_of_ble_eq_true rfl, Nat.le_of_ble_eq_true rfl⟩, Nat.le_of_ble_eq_true rfl, Nat.le_of_ble_eq_true rfl⟩ h 2 0 rfl rfl (xpl32 cI cO a _ _) (fun F' G' => xpr32 cI cO a _ _ F' G') (st := [.int _, .ref (a 3)]) rfl rfl (Nat.le_of_ble_eq_true rfl) dX6_unders_77 rfl (fun r77 F77 G77 h => ?_)
        obtain ⟨E77, eE77⟩ : ∃ x : xF, x = (xspl E54 44 2 F77) := ⟨_, rfl⟩
        obtain ⟨H77, eH77⟩ : ∃ x : xA, x = (xspl H54 67 1 G77) := ⟨_, rfl⟩
        refine x_weq (w' := w6 cI cO a E77 H77) (by subst eE77; subst eH77; rfl) ?_
        replace h := h E77 eE77
        replace h := h H77 eH77
        obtain ⟨i80, h⟩ := h
        refine xw6_3s (pc' := 81) K i80 rfl dX6_unders_80 rfl (fun G80 eG80 => ?_)
        replace h := h G80 eG80
        refine x_iinc (pc' := 84) (v := _ + (1 : Int32)) K dX6_unders_81 2 rfl rfl (by decide) [1, 2, 0, 3] (L' := [(0, .ref (a 0)), (2, .ref (a 99)), (3, .int _), (4, .int _)]) rfl rfl ?_
        refine x_goto (tgt := 46) K dX6_unders_84 rfl ?_
        exact ih _ _ _ _ h
set_option maxHeartbeats 4000000 in
set_option maxRecDepth 100000 in
theorem tX6_unders_46_2 (K : XK p m c cX6_unders 5 s args wsX6_unders RX6 D (xtys cI cO) A meth (some .int)) {Q : Int32 → xF → xA → Prop} : ∀ (n : Nat), ∀ (x3 : Int32) (x4 : Int32) (F : xF) (G : xA), qX6_unders_46_2 Q n x3 x4 F G → XJ p l e rmX6_unders s m args below meth c 0 0 (MQ below (xQi D (w6 cI cO a) A Q) args s 0 0 A) D (xtys cI cO) A 5 (w6 cI cO a F G) 46 [(0, .ref (a 0)), (2, .ref (a 101)), (3, .int x3), (4, .int x4)] [] := by
  intro n
  induction n with
  | zero =>
    intro x3 x4 F G h
    exact False.elim h
  | succ n ih =>
    intro x3 x4 F G h
    refine x_iload_n (pc' := 47) K dX6_unders_46 2 rfl rfl ?_
    refine x_iload (pc' := 49) K dX6_unders_47 3 rfl rfl ?_
    refine x_icmp_ge (tgt := 87) (pc' := 52) K dX6_unders_49 rfl rfl (fun c49 => ?_) (fun c49 => ?_)
    · replace h := h.1 c49
      refine x_iload_n (pc' := 88) K dX6_unders_87 2 rfl rfl ?_
      exact x_iret (wf := w6 cI cO a) K h dX6_unders_88
    · replace h := h.2 c49
      refine x_aload_n (pc' := 53) K dX6_unders_52 1 rfl rfl ?_
      refine x_iload_n (pc' := 54) K dX6_unders_53 2 rfl rfl ?_
      refine x_subI (pc' := 57) (wn := fun F' G' => w6 cI cO a (xspl F 46 2 F') (xspl G 68 1 G')) K (mX2_at l D cI cO (xsub a 101) _) rfl gX6_unders_X2_at rfl dsX2_at ⟨rfl, rfl, ⟨Nat.le_of_ble_eq_true rfl, Nat.le_of_ble_eq_true rfl⟩, Nat.le_of_ble_eq_true rfl, Nat.le_of_ble_eq_true rfl⟩ h 2 0 rfl rfl (xpl33 cI cO a _ _) (fun F' G' => xpr33 cI cO a _ _ F' G') (st := []) rfl rfl (Nat.le_of_ble_eq_true rfl) dX6_unders_54 rfl (fun r54 F54 G54 h => ?_)
      obtain ⟨E54, eE54⟩ : ∃ x : xF, x = (xspl F 46 2 F54) := ⟨_, rfl⟩
      obtain ⟨H54, eH54⟩ : ∃ x : xA, x = (xspl G 68 1 G54) := ⟨_, rfl⟩
      refine x_weq (w' := w6 cI cO a E54 H54) (by subst eE54; subst eH54; rfl) ?_
      replace h := h E54 eE54
      replace h := h H54 eH54
      refine x_iconst (pc' := 58) (v := 0) K dX6_unders_57 (by decide) rfl ?_
      refine x_sipush (pc' := 61) (v := 999) K dX6_unders_58 (by decide) rfl ?_
      refine x_callS (pc' := 64) K (mX6_within l D cI cO a _ _ _) rfl gX6_unders_X6_within dsX6_within ⟨rfl, rfl, ⟨Nat.le_of_ble_eq_true rfl, Nat.le_of_ble_eq_true rfl⟩, Nat.le_of_ble_eq_true rfl, Nat.le_of_ble_eq_true rfl⟩ h (st := []) rfl rfl (Nat.le_of_ble_eq_true rfl) dX6_unders_61 rfl (fun r61 h => ?_)
      refine x_if_eq (tgt := 87) (pc' := 67) K dX6_unders_64 rfl rfl (fun c64 => ?_) (fun c64 => ?_)
      · replace h := h.1 c64
        refine x_iload_n (pc' := 88) K dX6_unders_87 2 rfl rfl ?_
        exact x_iret (wf := w6 cI cO a) K h dX6_unders_88
      · replace h := h.2 c64
        refine x_aload_n (pc' := 68) K dX6_unders_67 0 rfl rfl ?_
        refine xw6_0g_now (pc' := 71) K hinX6_unders_X6 uX6_unders_f10 dX6_unders_68 rfl ?_
        refine xw6_1g_under (pc' := 74) K hinX6_unders_X5 uX6_unders_f96 dX6_unders_71 rfl ?_
        refine x_iload_n (pc' := 75) K dX6_unders_74 2 rfl rfl ?_
        refine x_aload_n (pc' := 76) K dX6_unders_75 1 rfl rfl ?_
        refine x_iload_n (pc' := 77) K dX6_unders_76 2 rfl rfl ?_
        refine x_subI (pc' := 80) (wn := fun F' G' => w6 cI cO a (xspl E54 46 2 F') (xspl H54 68 1 G')) K (mX2_at l D cI cO (xsub a 101) _) rfl gX6_unders_X2_at rfl dsX2_at ⟨rfl, rfl, ⟨Nat.le_of_ble_eq_true rfl, Nat.le_of_ble_eq_true rfl⟩, Nat.le_of_ble_eq_true rfl, Nat.le_of_ble_eq_true rfl⟩ h 2 0 rfl rfl (xpl33 cI cO a _ _) (fun F' G' => xpr33 cI cO a _ _ F' G') (st := [.int _, .ref (a 3)]) rfl rfl (Nat.le_of_ble_eq_true rfl) dX6_unders_77 rfl (fun r77 F77 G77 h => ?_)
        obtain ⟨E77, eE77⟩ : ∃ x : xF, x = (xspl E54 46 2 F77) := ⟨_, rfl⟩
        obtain ⟨H77, eH77⟩ : ∃ x : xA, x = (xspl H54 68 1 G77) := ⟨_, rfl⟩
        refine x_weq (w' := w6 cI cO a E77 H77) (by subst eE77; subst eH77; rfl) ?_
        replace h := h E77 eE77
        replace h := h H77 eH77
        obtain ⟨i80, h⟩ := h
        refine xw6_3s (pc' := 81) K i80 rfl dX6_unders_80 rfl (fun G80 eG80 => ?_)
        replace h := h G80 eG80
        refine x_iinc (pc' := 84) (v := _ + (1 : Int32)) K dX6_unders_81 2 rfl rfl (by decide) [1, 2, 0, 3] (L' := [(0, .ref (a 0)), (2, .ref (a 101)), (3, .int _), (4, .int _)]) rfl rfl ?_
        refine x_goto (tgt := 46) K dX6_unders_84 rfl ?_
        exact ih _ _ _ _ h
set_option maxHeartbeats 4000000 in
set_option maxRecDepth 100000 in
theorem tX6_unders_46_3 (K : XK p m c cX6_unders 5 s args wsX6_unders RX6 D (xtys cI cO) A meth (some .int)) {Q : Int32 → xF → xA → Prop} : ∀ (n : Nat), ∀ (x3 : Int32) (x4 : Int32) (F : xF) (G : xA), qX6_unders_46_3 Q n x3 x4 F G → XJ p l e rmX6_unders s m args below meth c 0 0 (MQ below (xQi D (w6 cI cO a) A Q) args s 0 0 A) D (xtys cI cO) A 5 (w6 cI cO a F G) 46 [(0, .ref (a 0)), (2, .ref (a 103)), (3, .int x3), (4, .int x4)] [] := by
  intro n
  induction n with
  | zero =>
    intro x3 x4 F G h
    exact False.elim h
  | succ n ih =>
    intro x3 x4 F G h
    refine x_iload_n (pc' := 47) K dX6_unders_46 2 rfl rfl ?_
    refine x_iload (pc' := 49) K dX6_unders_47 3 rfl rfl ?_
    refine x_icmp_ge (tgt := 87) (pc' := 52) K dX6_unders_49 rfl rfl (fun c49 => ?_) (fun c49 => ?_)
    · replace h := h.1 c49
      refine x_iload_n (pc' := 88) K dX6_unders_87 2 rfl rfl ?_
      exact x_iret (wf := w6 cI cO a) K h dX6_unders_88
    · replace h := h.2 c49
      refine x_aload_n (pc' := 53) K dX6_unders_52 1 rfl rfl ?_
      refine x_iload_n (pc' := 54) K dX6_unders_53 2 rfl rfl ?_
      refine x_subI (pc' := 57) (wn := fun F' G' => w6 cI cO a (xspl F 48 2 F') (xspl G 69 1 G')) K (mX2_at l D cI cO (xsub a 103) _) rfl gX6_unders_X2_at rfl dsX2_at ⟨rfl, rfl, ⟨Nat.le_of_ble_eq_true rfl, Nat.le_of_ble_eq_true rfl⟩, Nat.le_of_ble_eq_true rfl, Nat.le_of_ble_eq_true rfl⟩ h 2 0 rfl rfl (xpl34 cI cO a _ _) (fun F' G' => xpr34 cI cO a _ _ F' G') (st := []) rfl rfl (Nat.le_of_ble_eq_true rfl) dX6_unders_54 rfl (fun r54 F54 G54 h => ?_)
      obtain ⟨E54, eE54⟩ : ∃ x : xF, x = (xspl F 48 2 F54) := ⟨_, rfl⟩
      obtain ⟨H54, eH54⟩ : ∃ x : xA, x = (xspl G 69 1 G54) := ⟨_, rfl⟩
      refine x_weq (w' := w6 cI cO a E54 H54) (by subst eE54; subst eH54; rfl) ?_
      replace h := h E54 eE54
      replace h := h H54 eH54
      refine x_iconst (pc' := 58) (v := 0) K dX6_unders_57 (by decide) rfl ?_
      refine x_sipush (pc' := 61) (v := 999) K dX6_unders_58 (by decide) rfl ?_
      refine x_callS (pc' := 64) K (mX6_within l D cI cO a _ _ _) rfl gX6_unders_X6_within dsX6_within ⟨rfl, rfl, ⟨Nat.le_of_ble_eq_true rfl, Nat.le_of_ble_eq_true rfl⟩, Nat.le_of_ble_eq_true rfl, Nat.le_of_ble_eq_true rfl⟩ h (st := []) rfl rfl (Nat.le_of_ble_eq_true rfl) dX6_unders_61 rfl (fun r61 h => ?_)
      refine x_if_eq (tgt := 87) (pc' := 67) K dX6_unders_64 rfl rfl (fun c64 => ?_) (fun c64 => ?_)
      · replace h := h.1 c64
        refine x_iload_n (pc' := 88) K dX6_unders_87 2 rfl rfl ?_
        exact x_iret (wf := w6 cI cO a) K h dX6_unders_88
      · replace h := h.2 c64
        refine x_aload_n (pc' := 68) K dX6_unders_67 0 rfl rfl ?_
        refine xw6_0g_now (pc' := 71) K hinX6_unders_X6 uX6_unders_f10 dX6_unders_68 rfl ?_
        refine xw6_1g_under (pc' := 74) K hinX6_unders_X5 uX6_unders_f96 dX6_unders_71 rfl ?_
        refine x_iload_n (pc' := 75) K dX6_unders_74 2 rfl rfl ?_
        refine x_aload_n (pc' := 76) K dX6_unders_75 1 rfl rfl ?_
        refine x_iload_n (pc' := 77) K dX6_unders_76 2 rfl rfl ?_
        refine x_subI (pc' := 80) (wn := fun F' G' => w6 cI cO a (xspl E54 48 2 F') (xspl H54 69 1 G')) K (mX2_at l D cI cO (xsub a 103) _) rfl gX6_unders_X2_at rfl dsX2_at ⟨rfl, rfl, ⟨Nat.le_of_ble_eq_true rfl, Nat.le_of_ble_eq_true rfl⟩, Nat.le_of_ble_eq_true rfl, Nat.le_of_ble_eq_true rfl⟩ h 2 0 rfl rfl (xpl34 cI cO a _ _) (fun F' G' => xpr34 cI cO a _ _ F' G') (st := [.int _, .ref (a 3)]) rfl rfl (Nat.le_of_ble_eq_true rfl) dX6_unders_77 rfl (fun r77 F77 G77 h => ?_)
        obtain ⟨E77, eE77⟩ : ∃ x : xF, x = (xspl E54 48 2 F77) := ⟨_, rfl⟩
        obtain ⟨H77, eH77⟩ : ∃ x : xA, x = (xspl H54 69 1 G77) := ⟨_, rfl⟩
        refine x_weq (w' := w6 cI cO a E77 H77) (by subst eE77; subst eH77; rfl) ?_
        replace h := h E77 eE77
        replace h := h H77 eH77
        obtain ⟨i80, h⟩ := h
        refine xw6_3s (pc' := 81) K i80 rfl dX6_unders_80 rfl (fun G80 eG80 => ?_)
        replace h := h G80 eG80
        refine x_iinc (pc' := 84) (v := _ + (1 : Int32)) K dX6_unders_81 2 rfl rfl (by decide) [1, 2, 0, 3] (L' := [(0, .ref (a 0)), (2, .ref (a 103)), (3, .int _), (4, .int _)]) rfl rfl ?_
        refine x_goto (tgt := 46) K dX6_unders_84 rfl ?_
        exact ih _ _ _ _ h
set_option maxHeartbeats 4000000 in
set_option maxRecDepth 100000 in
theorem mX6_unders (l : Launch) (D : va_G) (cI cO : ClassId) (a : Nat → Nat)  (x1 : Int32) : MI l yX6_unders wsX6_unders rmX6_unders D (xtys cI cO) [.ref (a 0), .int x1] (w6 cI cO a) (qX6_unders x1) := by
  refine MI_of (cc := cX6_unders) (maxL := 5) (own := RX6) (by decide) rfl rfl (Nat.le_of_ble_eq_true rfl) ?_
  intro p e s m args below meth c A F G Q h K
  refine x_locals [0, 1] (L' := [(0, .ref (a 0)), (1, .int _)]) rfl ?_
  refine x_iload_n (pc' := 1) K dX6_unders_0 1 rfl rfl ?_
  refine x_callS (pc' := 4) K (mX6_isSheet l D cI cO a _) rfl gX6_unders_X6_isSheet dsX6_isSheet ⟨rfl, rfl, ⟨Nat.le_of_ble_eq_true rfl, Nat.le_of_ble_eq_true rfl⟩, Nat.le_of_ble_eq_true rfl, Nat.le_of_ble_eq_true rfl⟩ h (st := []) rfl rfl (Nat.le_of_ble_eq_true rfl) dX6_unders_1 rfl (fun r1 h => ?_)
  refine x_if_ne (tgt := 13) (pc' := 7) K dX6_unders_4 rfl rfl (fun c4 => ?_) (fun c4 => ?_)
  · replace h := h.1 c4
    refine x_aload_n (pc' := 14) K dX6_unders_13 0 rfl rfl ?_
    refine xw6_0g_sheets (pc' := 17) K hinX6_unders_X6 uX6_unders_f70 dX6_unders_14 rfl ?_
    refine x_iload_n (pc' := 18) K dX6_unders_17 1 rfl rfl ?_
    obtain ⟨i18, h⟩ := h
    rcases xin4 i18 with e18 | e18 | e18 | e18
    · replace h := h.1 e18
      refine xw6_96q0 (pc' := 19) K i18 e18 dX6_unders_18 rfl ?_
      refine x_astore_n (pc' := 20) (i := 2) K dX6_unders_19 rfl (by decide) [1, 2, 0] (L' := [(0, .ref (a 0)), (1, .int _), (2, .ref (a 97))]) rfl rfl ?_
      refine x_aload_n (pc' := 21) K dX6_unders_20 2 rfl rfl ?_
      refine x_subI (pc' := 24) (wn := fun F' G' => w6 cI cO a (xspl F 42 2 F') (xspl G 66 1 G')) K (mX2_isMissing l D cI cO (xsub a 97)) rfl gX6_unders_X2_isMissing rfl dsX2_isMissing ⟨rfl, rfl, ⟨Nat.le_of_ble_eq_true rfl, Nat.le_of_ble_eq_true rfl⟩, Nat.le_of_ble_eq_true rfl, Nat.le_of_ble_eq_true rfl⟩ h 2 0 rfl rfl (xpl31 cI cO a _ _) (fun F' G' => xpr31 cI cO a _ _ F' G') (st := []) rfl rfl (Nat.le_of_ble_eq_true rfl) dX6_unders_21 rfl (fun r21 F21 G21 h => ?_)
      obtain ⟨E21, eE21⟩ : ∃ x : xF, x = (xspl F 42 2 F21) := ⟨_, rfl⟩
      obtain ⟨H21, eH21⟩ : ∃ x : xA, x = (xspl G 66 1 G21) := ⟨_, rfl⟩
      refine x_weq (w' := w6 cI cO a E21 H21) (by subst eE21; subst eH21; rfl) ?_
      replace h := h E21 eE21
      replace h := h H21 eH21
      refine x_if_eq (tgt := 33) (pc' := 27) K dX6_unders_24 rfl rfl (fun c24 => ?_) (fun c24 => ?_)
      · replace h := h.1 c24
        refine x_iconst (pc' := 34) (v := 0) K dX6_unders_33 (by decide) rfl ?_
        refine x_istore_n (pc' := 35) (i := 3) K dX6_unders_34 rfl (by decide) [1, 2, 3, 0] (L' := [(0, .ref (a 0)), (1, .int _), (2, .ref (a 97)), (3, .int _)]) rfl rfl ?_
        refine x_aload_n (pc' := 36) K dX6_unders_35 2 rfl rfl ?_
        refine xw6_97g_size (pc' := 39) K hinX6_unders_X2 uX6_unders_f212 dX6_unders_36 rfl ?_
        refine x_bipush (pc' := 41) (v := 16) K dX6_unders_39 (by decide) rfl ?_
        refine x_mmin (pc' := 44) K uX6_unders_m252 uX6_unders_msmin uX6_unders_mi uX6_unders_mcmin (Nat.le_of_ble_eq_true rfl) (Nat.le_of_ble_eq_true rfl) (Nat.le_of_ble_eq_true rfl) (Nat.le_of_ble_eq_true rfl) dX6_unders_41 rfl ?_
        refine x_istore (pc' := 46) (i := 4) K dX6_unders_44 (by decide) [1, 2, 3, 4, 0] (L' := [(0, .ref (a 0)), (1, .int _), (2, .ref (a 97)), (3, .int _), (4, .int _)]) rfl rfl ?_
        refine x_locals [0, 2, 3, 4] (L' := [(0, .ref (a 0)), (2, .ref (a 97)), (3, .int _), (4, .int _)]) rfl ?_
        obtain ⟨n46, h⟩ := h
        exact tX6_unders_46 K n46 _ _ _ _ h
      · replace h := h.2 c24
        refine x_aload_n (pc' := 28) K dX6_unders_27 0 rfl rfl ?_
        refine x_iconst (pc' := 29) (v := 2) K dX6_unders_28 (by decide) rfl ?_
        refine x_callI (pc' := 32) K (mX6_error l D cI cO a _) rfl gX6_unders_X6_error rfl dsX6_error ⟨rfl, rfl, ⟨Nat.le_of_ble_eq_true rfl, Nat.le_of_ble_eq_true rfl⟩, Nat.le_of_ble_eq_true rfl, Nat.le_of_ble_eq_true rfl⟩ h 6 0 rfl rfl (st := []) rfl rfl (Nat.le_of_ble_eq_true rfl) dX6_unders_29 rfl (fun r29 F29 G29 h => ?_)
        exact x_iret (wf := w6 cI cO a) K h dX6_unders_32
    · replace h := h.2.1 e18
      refine xw6_96q1 (pc' := 19) K i18 e18 dX6_unders_18 rfl ?_
      refine x_astore_n (pc' := 20) (i := 2) K dX6_unders_19 rfl (by decide) [1, 2, 0] (L' := [(0, .ref (a 0)), (1, .int _), (2, .ref (a 99))]) rfl rfl ?_
      refine x_aload_n (pc' := 21) K dX6_unders_20 2 rfl rfl ?_
      refine x_subI (pc' := 24) (wn := fun F' G' => w6 cI cO a (xspl F 44 2 F') (xspl G 67 1 G')) K (mX2_isMissing l D cI cO (xsub a 99)) rfl gX6_unders_X2_isMissing rfl dsX2_isMissing ⟨rfl, rfl, ⟨Nat.le_of_ble_eq_true rfl, Nat.le_of_ble_eq_true rfl⟩, Nat.le_of_ble_eq_true rfl, Nat.le_of_ble_eq_true rfl⟩ h 2 0 rfl rfl (xpl32 cI cO a _ _) (fun F' G' => xpr32 cI cO a _ _ F' G') (st := []) rfl rfl (Nat.le_of_ble_eq_true rfl) dX6_unders_21 rfl (fun r21 F21 G21 h => ?_)
      obtain ⟨E21, eE21⟩ : ∃ x : xF, x = (xspl F 44 2 F21) := ⟨_, rfl⟩
      obtain ⟨H21, eH21⟩ : ∃ x : xA, x = (xspl G 67 1 G21) := ⟨_, rfl⟩
      refine x_weq (w' := w6 cI cO a E21 H21) (by subst eE21; subst eH21; rfl) ?_
      replace h := h E21 eE21
      replace h := h H21 eH21
      refine x_if_eq (tgt := 33) (pc' := 27) K dX6_unders_24 rfl rfl (fun c24 => ?_) (fun c24 => ?_)
      · replace h := h.1 c24
        refine x_iconst (pc' := 34) (v := 0) K dX6_unders_33 (by decide) rfl ?_
        refine x_istore_n (pc' := 35) (i := 3) K dX6_unders_34 rfl (by decide) [1, 2, 3, 0] (L' := [(0, .ref (a 0)), (1, .int _), (2, .ref (a 99)), (3, .int _)]) rfl rfl ?_
        refine x_aload_n (pc' := 36) K dX6_unders_35 2 rfl rfl ?_
        refine xw6_99g_size (pc' := 39) K hinX6_unders_X2 uX6_unders_f212 dX6_unders_36 rfl ?_
        refine x_bipush (pc' := 41) (v := 16) K dX6_unders_39 (by decide) rfl ?_
        refine x_mmin (pc' := 44) K uX6_unders_m252 uX6_unders_msmin uX6_unders_mi uX6_unders_mcmin (Nat.le_of_ble_eq_true rfl) (Nat.le_of_ble_eq_true rfl) (Nat.le_of_ble_eq_true rfl) (Nat.le_of_ble_eq_true rfl) dX6_unders_41 rfl ?_
        refine x_istore (pc' := 46) (i := 4) K dX6_unders_44 (by decide) [1, 2, 3, 4, 0] (L' := [(0, .ref (a 0)), (1, .int _), (2, .ref (a 99)), (3, .int _), (4, .int _)]) rfl rfl ?_
        refine x_locals [0, 2, 3, 4] (L' := [(0, .ref (a 0)), (2, .ref (a 99)), (3, .int _), (4, .int _)]) rfl ?_
        obtain ⟨n46, h⟩ := h
        exact tX6_unders_46_1 K n46 _ _ _ _ h
      · replace h := h.2 c24
        refine x_aload_n (pc' := 28) K dX6_unders_27 0 rfl rfl ?_
        refine x_iconst (pc' := 29) (v := 2) K dX6_unders_28 (by decide) rfl ?_
        refine x_callI (pc' := 32) K (mX6_error l D cI cO a _) rfl gX6_unders_X6_error rfl dsX6_error ⟨rfl, rfl, ⟨Nat.le_of_ble_eq_true rfl, Nat.le_of_ble_eq_true rfl⟩, Nat.le_of_ble_eq_true rfl, Nat.le_of_ble_eq_true rfl⟩ h 6 0 rfl rfl (st := []) rfl rfl (Nat.le_of_ble_eq_true rfl) dX6_unders_29 rfl (fun r29 F29 G29 h => ?_)
        exact x_iret (wf := w6 cI cO a) K h dX6_unders_32
    · replace h := h.2.2.1 e18
      refine xw6_96q2 (pc' := 19) K i18 e18 dX6_unders_18 rfl ?_
      refine x_astore_n (pc' := 20) (i := 2) K dX6_unders_19 rfl (by decide) [1, 2, 0] (L' := [(0, .ref (a 0)), (1, .int _), (2, .ref (a 101))]) rfl rfl ?_
      refine x_aload_n (pc' := 21) K dX6_unders_20 2 rfl rfl ?_
      refine x_subI (pc' := 24) (wn := fun F' G' => w6 cI cO a (xspl F 46 2 F') (xspl G 68 1 G')) K (mX2_isMissing l D cI cO (xsub a 101)) rfl gX6_unders_X2_isMissing rfl dsX2_isMissing ⟨rfl, rfl, ⟨Nat.le_of_ble_eq_true rfl, Nat.le_of_ble_eq_true rfl⟩, Nat.le_of_ble_eq_true rfl, Nat.le_of_ble_eq_true rfl⟩ h 2 0 rfl rfl (xpl33 cI cO a _ _) (fun F' G' => xpr33 cI cO a _ _ F' G') (st := []) rfl rfl (Nat.le_of_ble_eq_true rfl) dX6_unders_21 rfl (fun r21 F21 G21 h => ?_)
      obtain ⟨E21, eE21⟩ : ∃ x : xF, x = (xspl F 46 2 F21) := ⟨_, rfl⟩
      obtain ⟨H21, eH21⟩ : ∃ x : xA, x = (xspl G 68 1 G21) := ⟨_, rfl⟩
      refine x_weq (w' := w6 cI cO a E21 H21) (by subst eE21; subst eH21; rfl) ?_
      replace h := h E21 eE21
      replace h := h H21 eH21
      refine x_if_eq (tgt := 33) (pc' := 27) K dX6_unders_24 rfl rfl (fun c24 => ?_) (fun c24 => ?_)
      · replace h := h.1 c24
        refine x_iconst (pc' := 34) (v := 0) K dX6_unders_33 (by decide) rfl ?_
        refine x_istore_n (pc' := 35) (i := 3) K dX6_unders_34 rfl (by decide) [1, 2, 3, 0] (L' := [(0, .ref (a 0)), (1, .int _), (2, .ref (a 101)), (3, .int _)]) rfl rfl ?_
        refine x_aload_n (pc' := 36) K dX6_unders_35 2 rfl rfl ?_
        refine xw6_101g_size (pc' := 39) K hinX6_unders_X2 uX6_unders_f212 dX6_unders_36 rfl ?_
        refine x_bipush (pc' := 41) (v := 16) K dX6_unders_39 (by decide) rfl ?_
        refine x_mmin (pc' := 44) K uX6_unders_m252 uX6_unders_msmin uX6_unders_mi uX6_unders_mcmin (Nat.le_of_ble_eq_true rfl) (Nat.le_of_ble_eq_true rfl) (Nat.le_of_ble_eq_true rfl) (Nat.le_of_ble_eq_true rfl) dX6_unders_41 rfl ?_
        refine x_istore (pc' := 46) (i := 4) K dX6_unders_44 (by decide) [1, 2, 3, 4, 0] (L' := [(0, .ref (a 0)), (1, .int _), (2, .ref (a 101)), (3, .int _), (4, .int _)]) rfl rfl ?_
        refine x_locals [0, 2, 3, 4] (L' := [(0, .ref (a 0)), (2, .ref (a 101)), (3, .int _), (4, .int _)]) rfl ?_
        obtain ⟨n46, h⟩ := h
        exact tX6_unders_46_2 K n46 _ _ _ _ h
      · replace h := h.2 c24
        refine x_aload_n (pc' := 28) K dX6_unders_27 0 rfl rfl ?_
        refine x_iconst (pc' := 29) (v := 2) K dX6_unders_28 (by decide) rfl ?_
        refine x_callI (pc' := 32) K (mX6_error l D cI cO a _) rfl gX6_unders_X6_error rfl dsX6_error ⟨rfl, rfl, ⟨Nat.le_of_ble_eq_true rfl, Nat.le_of_ble_eq_true rfl⟩, Nat.le_of_ble_eq_true rfl, Nat.le_of_ble_eq_true rfl⟩ h 6 0 rfl rfl (st := []) rfl rfl (Nat.le_of_ble_eq_true rfl) dX6_unders_29 rfl (fun r29 F29 G29 h => ?_)
        exact x_iret (wf := w6 cI cO a) K h dX6_unders_32
    · replace h := h.2.2.2 e18
      refine xw6_96q3 (pc' := 19) K i18 e18 dX6_unders_18 rfl ?_
      refine x_astore_n (pc' := 20) (i := 2) K dX6_unders_19 rfl (by decide) [1, 2, 0] (L' := [(0, .ref (a 0)), (1, .int _), (2, .ref (a 103))]) rfl rfl ?_
      refine x_aload_n (pc' := 21) K dX6_unders_20 2 rfl rfl ?_
      refine x_subI (pc' := 24) (wn := fun F' G' => w6 cI cO a (xspl F 48 2 F') (xspl G 69 1 G')) K (mX2_isMissing l D cI cO (xsub a 103)) rfl gX6_unders_X2_isMissing rfl dsX2_isMissing ⟨rfl, rfl, ⟨Nat.le_of_ble_eq_true rfl, Nat.le_of_ble_eq_true rfl⟩, Nat.le_of_ble_eq_true rfl, Nat.le_of_ble_eq_true rfl⟩ h 2 0 rfl rfl (xpl34 cI cO a _ _) (fun F' G' => xpr34 cI cO a _ _ F' G') (st := []) rfl rfl (Nat.le_of_ble_eq_true rfl) dX6_unders_21 rfl (fun r21 F21 G21 h => ?_)
      obtain ⟨E21, eE21⟩ : ∃ x : xF, x = (xspl F 48 2 F21) := ⟨_, rfl⟩
      obtain ⟨H21, eH21⟩ : ∃ x : xA, x = (xspl G 69 1 G21) := ⟨_, rfl⟩
      refine x_weq (w' := w6 cI cO a E21 H21) (by subst eE21; subst eH21; rfl) ?_
      replace h := h E21 eE21
      replace h := h H21 eH21
      refine x_if_eq (tgt := 33) (pc' := 27) K dX6_unders_24 rfl rfl (fun c24 => ?_) (fun c24 => ?_)
      · replace h := h.1 c24
        refine x_iconst (pc' := 34) (v := 0) K dX6_unders_33 (by decide) rfl ?_
        refine x_istore_n (pc' := 35) (i := 3) K dX6_unders_34 rfl (by decide) [1, 2, 3, 0] (L' := [(0, .ref (a 0)), (1, .int _), (2, .ref (a 103)), (3, .int _)]) rfl rfl ?_
        refine x_aload_n (pc' := 36) K dX6_unders_35 2 rfl rfl ?_
        refine xw6_103g_size (pc' := 39) K hinX6_unders_X2 uX6_unders_f212 dX6_unders_36 rfl ?_
        refine x_bipush (pc' := 41) (v := 16) K dX6_unders_39 (by decide) rfl ?_
        refine x_mmin (pc' := 44) K uX6_unders_m252 uX6_unders_msmin uX6_unders_mi uX6_unders_mcmin (Nat.le_of_ble_eq_true rfl) (Nat.le_of_ble_eq_true rfl) (Nat.le_of_ble_eq_true rfl) (Nat.le_of_ble_eq_true rfl) dX6_unders_41 rfl ?_
        refine x_istore (pc' := 46) (i := 4) K dX6_unders_44 (by decide) [1, 2, 3, 4, 0] (L' := [(0, .ref (a 0)), (1, .int _), (2, .ref (a 103)), (3, .int _), (4, .int _)]) rfl rfl ?_
        refine x_locals [0, 2, 3, 4] (L' := [(0, .ref (a 0)), (2, .ref (a 103)), (3, .int _), (4, .int _)]) rfl ?_
        obtain ⟨n46, h⟩ := h
        exact tX6_unders_46_3 K n46 _ _ _ _ h
      · replace h := h.2 c24
        refine x_aload_n (pc' := 28) K dX6_unders_27 0 rfl rfl ?_
        refine x_iconst (pc' := 29) (v := 2) K dX6_unders_28 (by decide) rfl ?_
        refine x_callI (pc' := 32) K (mX6_error l D cI cO a _) rfl gX6_unders_X6_error rfl dsX6_error ⟨rfl, rfl, ⟨Nat.le_of_ble_eq_true rfl, Nat.le_of_ble_eq_true rfl⟩, Nat.le_of_ble_eq_true rfl, Nat.le_of_ble_eq_true rfl⟩ h 6 0 rfl rfl (st := []) rfl rfl (Nat.le_of_ble_eq_true rfl) dX6_unders_29 rfl (fun r29 F29 G29 h => ?_)
        exact x_iret (wf := w6 cI cO a) K h dX6_unders_32
  · replace h := h.2 c4
    refine x_aload_n (pc' := 8) K dX6_unders_7 0 rfl rfl ?_
    refine x_iconst (pc' := 9) (v := 1) K dX6_unders_8 (by decide) rfl ?_
    refine x_callI (pc' := 12) K (mX6_error l D cI cO a _) rfl gX6_unders_X6_error rfl dsX6_error ⟨rfl, rfl, ⟨Nat.le_of_ble_eq_true rfl, Nat.le_of_ble_eq_true rfl⟩, Nat.le_of_ble_eq_true rfl, Nat.le_of_ble_eq_true rfl⟩ h 6 0 rfl rfl (st := []) rfl rfl (Nat.le_of_ble_eq_true rfl) dX6_unders_9 rfl (fun r9 F9 G9 h => ?_)
    exact x_iret (wf := w6 cI cO a) K h dX6_unders_12
/-! X6_judge -/
abbrev rmX6_judge : Room := { frames := 7, cells := 0, slots := 0, locals := 242 }
theorem dsX6_judge : xDesc yX6_judge 1 := by decide +kernel
theorem uX6_judge_f70 : Cond.fieldLink RX6 70 "PigNinths" "sheets" "[LPigNinths$Sheet;" ∈ wsX6_judge := nw_in nwl_X6_judge nwe_348 (by decide +kernel)
theorem hinX6_judge_X6 : ∀ w ∈ wsX60, w ∈ wsX6_judge := nw_all nwl_X6_judge nwl_X60 (by decide +kernel)
theorem uX6_judge_f41 : Cond.fieldLink RX6 41 "PigNinths" "side" "LPigNinths$World;" ∈ wsX6_judge := nw_in nwl_X6_judge nwe_337 (by decide +kernel)
theorem uX6_judge_f10 : Cond.fieldLink RX6 10 "PigNinths" "now" "LPigNinths$World;" ∈ wsX6_judge := nw_in nwl_X6_judge nwe_329 (by decide +kernel)
theorem uX6_judge_f212 : Cond.fieldLink RX6 212 "PigNinths$Sheet" "size" "I" ∈ wsX6_judge := nw_in nwl_X6_judge nwe_467 (by decide +kernel)
theorem hinX6_judge_X2 : ∀ w ∈ wsX20, w ∈ wsX6_judge := nw_all nwl_X6_judge nwl_X20 (by decide +kernel)
theorem uX6_judge_f129 : Cond.fieldLink RX6 129 "PigNinths$World" "place" "I" ∈ wsX6_judge := nw_in nwl_X6_judge nwe_401 (by decide +kernel)
theorem hinX6_judge_X5 : ∀ w ∈ wsX50, w ∈ wsX6_judge := nw_all nwl_X6_judge nwl_X50 (by decide +kernel)
set_option maxHeartbeats 4000000 in
set_option maxRecDepth 100000 in
theorem tX6_judge_46 (K : XK p m c cX6_judge 4 s args wsX6_judge RX6 D (xtys cI cO) A meth (some .int)) {Q : Int32 → xF → xA → Prop} : ∀ (n : Nat), ∀ (x3 : Int32) (F : xF) (G : xA), qX6_judge_46 Q n x3 F G → XJ p l e rmX6_judge s m args below meth c 0 0 (MQ below (xQi D (w6 cI cO a) A Q) args s 0 0 A) D (xtys cI cO) A 4 (w6 cI cO a F G) 46 [(0, .ref (a 0)), (2, .ref (a 97)), (3, .int x3)] [] := by
  intro n
  induction n with
  | zero =>
    intro x3 F G h
    exact False.elim h
  | succ n ih =>
    intro x3 F G h
    refine x_iload_n (pc' := 47) K dX6_judge_46 2 rfl rfl ?_
    refine x_aload_n (pc' := 48) K dX6_judge_47 1 rfl rfl ?_
    refine xw6_97g_size (pc' := 51) K hinX6_judge_X2 uX6_judge_f212 dX6_judge_48 rfl ?_
    refine x_icmp_ge (tgt := 86) (pc' := 54) K dX6_judge_51 rfl rfl (fun c51 => ?_) (fun c51 => ?_)
    · replace h := h.1 c51
      refine x_aload_n (pc' := 87) K dX6_judge_86 1 rfl rfl ?_
      refine xw6_97g_size (pc' := 90) K hinX6_judge_X2 uX6_judge_f212 dX6_judge_87 rfl ?_
      exact x_iret (wf := w6 cI cO a) K h dX6_judge_90
    · replace h := h.2 c51
      refine x_aload_n (pc' := 55) K dX6_judge_54 1 rfl rfl ?_
      refine x_iload_n (pc' := 56) K dX6_judge_55 2 rfl rfl ?_
      refine x_subI (pc' := 59) (wn := fun F' G' => w6 cI cO a (xspl F 42 2 F') (xspl G 66 1 G')) K (mX2_at l D cI cO (xsub a 97) _) rfl gX6_judge_X2_at rfl dsX2_at ⟨rfl, rfl, ⟨Nat.le_of_ble_eq_true rfl, Nat.le_of_ble_eq_true rfl⟩, Nat.le_of_ble_eq_true rfl, Nat.le_of_ble_eq_true rfl⟩ h 2 0 rfl rfl (xpl31 cI cO a _ _) (fun F' G' => xpr31 cI cO a _ _ F' G') (st := []) rfl rfl (Nat.le_of_ble_eq_true rfl) dX6_judge_56 rfl (fun r56 F56 G56 h => ?_)
      obtain ⟨E56, eE56⟩ : ∃ x : xF, x = (xspl F 42 2 F56) := ⟨_, rfl⟩
      obtain ⟨H56, eH56⟩ : ∃ x : xA, x = (xspl G 66 1 G56) := ⟨_, rfl⟩
      refine x_weq (w' := w6 cI cO a E56 H56) (by subst eE56; subst eH56; rfl) ?_
      replace h := h E56 eE56
      replace h := h H56 eH56
      refine x_aload_n (pc' := 60) K dX6_judge_59 0 rfl rfl ?_
      refine xw6_0g_side (pc' := 63) K hinX6_judge_X6 uX6_judge_f41 dX6_judge_60 rfl ?_
      refine xw6_39g_place (pc' := 66) K hinX6_judge_X5 uX6_judge_f129 dX6_judge_63 rfl ?_
      refine x_icmp_eq (tgt := 71) (pc' := 69) K dX6_judge_66 rfl rfl (fun c66 => ?_) (fun c66 => ?_)
      · replace h := h.1 c66
        refine x_aload_n (pc' := 72) K dX6_judge_71 0 rfl rfl ?_
        refine xw6_0g_side (pc' := 75) K hinX6_judge_X6 uX6_judge_f41 dX6_judge_72 rfl ?_
        refine x_iconst (pc' := 76) (v := -1) K dX6_judge_75 (by decide) rfl ?_
        refine x_subI (pc' := 79) (wn := fun F' G' => w6 cI cO a (xspl E56 14 7 F') (xspl H56 28 14 G')) K (mX5_oneDay l D cI cO (xsub a 39) _) rfl gX6_judge_X5_oneDay rfl dsX5_oneDay ⟨rfl, rfl, ⟨Nat.le_of_ble_eq_true rfl, Nat.le_of_ble_eq_true rfl⟩, Nat.le_of_ble_eq_true rfl, Nat.le_of_ble_eq_true rfl⟩ h 5 0 rfl rfl (xpl16 cI cO a _ _) (fun F' G' => xpr16 cI cO a _ _ F' G') (st := []) rfl rfl (Nat.le_of_ble_eq_true rfl) dX6_judge_76 rfl (fun r76 F76 G76 h => ?_)
        obtain ⟨E76, eE76⟩ : ∃ x : xF, x = (xspl E56 14 7 F76) := ⟨_, rfl⟩
        obtain ⟨H76, eH76⟩ : ∃ x : xA, x = (xspl H56 28 14 G76) := ⟨_, rfl⟩
        refine x_weq (w' := w6 cI cO a E76 H76) (by subst eE76; subst eH76; rfl) ?_
        replace h := h E76 eE76
        replace h := h H76 eH76
        refine x_pop (pc' := 80) K dX6_judge_79 rfl rfl ?_
        refine x_iinc (pc' := 83) (v := _ + (1 : Int32)) K dX6_judge_80 2 rfl rfl (by decide) [1, 2, 0] (L' := [(0, .ref (a 0)), (2, .ref (a 97)), (3, .int _)]) rfl rfl ?_
        refine x_goto (tgt := 46) K dX6_judge_83 rfl ?_
        exact ih _ _ _ h
      · replace h := h.2 c66
        refine x_iload_n (pc' := 70) K dX6_judge_69 2 rfl rfl ?_
        exact x_iret (wf := w6 cI cO a) K h dX6_judge_70
set_option maxHeartbeats 4000000 in
set_option maxRecDepth 100000 in
theorem tX6_judge_46_1 (K : XK p m c cX6_judge 4 s args wsX6_judge RX6 D (xtys cI cO) A meth (some .int)) {Q : Int32 → xF → xA → Prop} : ∀ (n : Nat), ∀ (x3 : Int32) (F : xF) (G : xA), qX6_judge_46_1 Q n x3 F G → XJ p l e rmX6_judge s m args below meth c 0 0 (MQ below (xQi D (w6 cI cO a) A Q) args s 0 0 A) D (xtys cI cO) A 4 (w6 cI cO a F G) 46 [(0, .ref (a 0)), (2, .ref (a 99)), (3, .int x3)] [] := by
  intro n
  induction n with
  | zero =>
    intro x3 F G h
    exact False.elim h
  | succ n ih =>
    intro x3 F G h
    refine x_iload_n (pc' := 47) K dX6_judge_46 2 rfl rfl ?_
    refine x_aload_n (pc' := 48) K dX6_judge_47 1 rfl rfl ?_
    refine xw6_99g_size (pc' := 51) K hinX6_judge_X2 uX6_judge_f212 dX6_judge_48 rfl ?_
    refine x_icmp_ge (tgt := 86) (pc' := 54) K dX6_judge_51 rfl rfl (fun c51 => ?_) (fun c51 => ?_)
    · replace h := h.1 c51
      refine x_aload_n (pc' := 87) K dX6_judge_86 1 rfl rfl ?_
      refine xw6_99g_size (pc' := 90) K hinX6_judge_X2 uX6_judge_f212 dX6_judge_87 rfl ?_
      exact x_iret (wf := w6 cI cO a) K h dX6_judge_90
    · replace h := h.2 c51
      refine x_aload_n (pc' := 55) K dX6_judge_54 1 rfl rfl ?_
      refine x_iload_n (pc' := 56) K dX6_judge_55 2 rfl rfl ?_
      refine x_subI (pc' := 59) (wn := fun F' G' => w6 cI cO a (xspl F 44 2 F') (xspl G 67 1 G')) K (mX2_at l D cI cO (xsub a 99) _) rfl gX6_judge_X2_at rfl dsX2_at ⟨rfl, rfl, ⟨Nat.le_of_ble_eq_true rfl, Nat.le_of_ble_eq_true rfl⟩, Nat.le_of_ble_eq_true rfl, Nat.le_of_ble_eq_true rfl⟩ h 2 0 rfl rfl (xpl32 cI cO a _ _) (fun F' G' => xpr32 cI cO a _ _ F' G') (st := []) rfl rfl (Nat.le_of_ble_eq_true rfl) dX6_judge_56 rfl (fun r56 F56 G56 h => ?_)
      obtain ⟨E56, eE56⟩ : ∃ x : xF, x = (xspl F 44 2 F56) := ⟨_, rfl⟩
      obtain ⟨H56, eH56⟩ : ∃ x : xA, x = (xspl G 67 1 G56) := ⟨_, rfl⟩
      refine x_weq (w' := w6 cI cO a E56 H56) (by subst eE56; subst eH56; rfl) ?_
      replace h := h E56 eE56
      replace h := h H56 eH56
      refine x_aload_n (pc' := 60) K dX6_judge_59 0 rfl rfl ?_
      refine xw6_0g_side (pc' := 63) K hinX6_judge_X6 uX6_judge_f41 dX6_judge_60 rfl ?_
      refine xw6_39g_place (pc' := 66) K hinX6_judge_X5 uX6_judge_f129 dX6_judge_63 rfl ?_
      refine x_icmp_eq (tgt := 71) (pc' := 69) K dX6_judge_66 rfl rfl (fun c66 => ?_) (fun c66 => ?_)
      · replace h := h.1 c66
        refine x_aload_n (pc' := 72) K dX6_judge_71 0 rfl rfl ?_
        refine xw6_0g_side (pc' := 75) K hinX6_judge_X6 uX6_judge_f41 dX6_judge_72 rfl ?_
        refine x_iconst (pc' := 76) (v := -1) K dX6_judge_75 (by decide) rfl ?_
        refine x_subI (pc' := 79) (wn := fun F' G' => w6 cI cO a (xspl E56 14 7 F') (xspl H56 28 14 G')) K (mX5_oneDay l D cI cO (xsub a 39) _) rfl gX6_judge_X5_oneDay rfl dsX5_oneDay ⟨rfl, rfl, ⟨Nat.le_of_ble_eq_true rfl, Nat.le_of_ble_eq_true rfl⟩, Nat.le_of_ble_eq_true rfl, Nat.le_of_ble_eq_true rfl⟩ h 5 0 rfl rfl (xpl16 cI cO a _ _) (fun F' G' => xpr16 cI cO a _ _ F' G') (st := []) rfl rfl (Nat.le_of_ble_eq_true rfl) dX6_judge_76 rfl (fun r76 F76 G76 h => ?_)
        obtain ⟨E76, eE76⟩ : ∃ x : xF, x = (xspl E56 14 7 F76) := ⟨_, rfl⟩
        obtain ⟨H76, eH76⟩ : ∃ x : xA, x = (xspl H56 28 14 G76) := ⟨_, rfl⟩
        refine x_weq (w' := w6 cI cO a E76 H76) (by subst eE76; subst eH76; rfl) ?_
        replace h := h E76 eE76
        replace h := h H76 eH76
        refine x_pop (pc' := 80) K dX6_judge_79 rfl rfl ?_
        refine x_iinc (pc' := 83) (v := _ + (1 : Int32)) K dX6_judge_80 2 rfl rfl (by decide) [1, 2, 0] (L' := [(0, .ref (a 0)), (2, .ref (a 99)), (3, .int _)]) rfl rfl ?_
        refine x_goto (tgt := 46) K dX6_judge_83 rfl ?_
        exact ih _ _ _ h
      · replace h := h.2 c66
        refine x_iload_n (pc' := 70) K dX6_judge_69 2 rfl rfl ?_
        exact x_iret (wf := w6 cI cO a) K h dX6_judge_70
set_option maxHeartbeats 4000000 in
set_option maxRecDepth 100000 in
theorem tX6_judge_46_2 (K : XK p m c cX6_judge 4 s args wsX6_judge RX6 D (xtys cI cO) A meth (some .int)) {Q : Int32 → xF → xA → Prop} : ∀ (n : Nat), ∀ (x3 : Int32) (F : xF) (G : xA), qX6_judge_46_2 Q n x3 F G → XJ p l e rmX6_judge s m args below meth c 0 0 (MQ below (xQi D (w6 cI cO a) A Q) args s 0 0 A) D (xtys cI cO) A 4 (w6 cI cO a F G) 46 [(0, .ref (a 0)), (2, .ref (a 101)), (3, .int x3)] [] := by
  intro n
  induction n with
  | zero =>
    intro x3 F G h
    exact False.elim h
  | succ n ih =>
    intro x3 F G h
    refine x_iload_n (pc' := 47) K dX6_judge_46 2 rfl rfl ?_
    refine x_aload_n (pc' := 48) K dX6_judge_47 1 rfl rfl ?_
    refine xw6_101g_size (pc' := 51) K hinX6_judge_X2 uX6_judge_f212 dX6_judge_48 rfl ?_
    refine x_icmp_ge (tgt := 86) (pc' := 54) K dX6_judge_51 rfl rfl (fun c51 => ?_) (fun c51 => ?_)
    · replace h := h.1 c51
      refine x_aload_n (pc' := 87) K dX6_judge_86 1 rfl rfl ?_
      refine xw6_101g_size (pc' := 90) K hinX6_judge_X2 uX6_judge_f212 dX6_judge_87 rfl ?_
      exact x_iret (wf := w6 cI cO a) K h dX6_judge_90
    · replace h := h.2 c51
      refine x_aload_n (pc' := 55) K dX6_judge_54 1 rfl rfl ?_
      refine x_iload_n (pc' := 56) K dX6_judge_55 2 rfl rfl ?_
      refine x_subI (pc' := 59) (wn := fun F' G' => w6 cI cO a (xspl F 46 2 F') (xspl G 68 1 G')) K (mX2_at l D cI cO (xsub a 101) _) rfl gX6_judge_X2_at rfl dsX2_at ⟨rfl, rfl, ⟨Nat.le_of_ble_eq_true rfl, Nat.le_of_ble_eq_true rfl⟩, Nat.le_of_ble_eq_true rfl, Nat.le_of_ble_eq_true rfl⟩ h 2 0 rfl rfl (xpl33 cI cO a _ _) (fun F' G' => xpr33 cI cO a _ _ F' G') (st := []) rfl rfl (Nat.le_of_ble_eq_true rfl) dX6_judge_56 rfl (fun r56 F56 G56 h => ?_)
      obtain ⟨E56, eE56⟩ : ∃ x : xF, x = (xspl F 46 2 F56) := ⟨_, rfl⟩
      obtain ⟨H56, eH56⟩ : ∃ x : xA, x = (xspl G 68 1 G56) := ⟨_, rfl⟩
      refine x_weq (w' := w6 cI cO a E56 H56) (by subst eE56; subst eH56; rfl) ?_
      replace h := h E56 eE56
      replace h := h H56 eH56
      refine x_aload_n (pc' := 60) K dX6_judge_59 0 rfl rfl ?_
      refine xw6_0g_side (pc' := 63) K hinX6_judge_X6 uX6_judge_f41 dX6_judge_60 rfl ?_
      refine xw6_39g_place (pc' := 66) K hinX6_judge_X5 uX6_judge_f129 dX6_judge_63 rfl ?_
      refine x_icmp_eq (tgt := 71) (pc' := 69) K dX6_judge_66 rfl rfl (fun c66 => ?_) (fun c66 => ?_)
      · replace h := h.1 c66
        refine x_aload_n (pc' := 72) K dX6_judge_71 0 rfl rfl ?_
        refine xw6_0g_side (pc' := 75) K hinX6_judge_X6 uX6_judge_f41 dX6_judge_72 rfl ?_
        refine x_iconst (pc' := 76) (v := -1) K dX6_judge_75 (by decide) rfl ?_
        refine x_subI (pc' := 79) (wn := fun F' G' => w6 cI cO a (xspl E56 14 7 F') (xspl H56 28 14 G')) K (mX5_oneDay l D cI cO (xsub a 39) _) rfl gX6_judge_X5_oneDay rfl dsX5_oneDay ⟨rfl, rfl, ⟨Nat.le_of_ble_eq_true rfl, Nat.le_of_ble_eq_true rfl⟩, Nat.le_of_ble_eq_true rfl, Nat.le_of_ble_eq_true rfl⟩ h 5 0 rfl rfl (xpl16 cI cO a _ _) (fun F' G' => xpr16 cI cO a _ _ F' G') (st := []) rfl rfl (Nat.le_of_ble_eq_true rfl) dX6_judge_76 rfl (fun r76 F76 G76 h => ?_)
        obtain ⟨E76, eE76⟩ : ∃ x : xF, x = (xspl E56 14 7 F76) := ⟨_, rfl⟩
        obtain ⟨H76, eH76⟩ : ∃ x : xA, x = (xspl H56 28 14 G76) := ⟨_, rfl⟩
        refine x_weq (w' := w6 cI cO a E76 H76) (by subst eE76; subst eH76; rfl) ?_
        replace h := h E76 eE76
        replace h := h H76 eH76
        refine x_pop (pc' := 80) K dX6_judge_79 rfl rfl ?_
        refine x_iinc (pc' := 83) (v := _ + (1 : Int32)) K dX6_judge_80 2 rfl rfl (by decide) [1, 2, 0] (L' := [(0, .ref (a 0)), (2, .ref (a 101)), (3, .int _)]) rfl rfl ?_
        refine x_goto (tgt := 46) K dX6_judge_83 rfl ?_
        exact ih _ _ _ h
      · replace h := h.2 c66
        refine x_iload_n (pc' := 70) K dX6_judge_69 2 rfl rfl ?_
        exact x_iret (wf := w6 cI cO a) K h dX6_judge_70
set_option maxHeartbeats 4000000 in
set_option maxRecDepth 100000 in
theorem tX6_judge_46_3 (K : XK p m c cX6_judge 4 s args wsX6_judge RX6 D (xtys cI cO) A meth (some .int)) {Q : Int32 → xF → xA → Prop} : ∀ (n : Nat), ∀ (x3 : Int32) (F : xF) (G : xA), qX6_judge_46_3 Q n x3 F G → XJ p l e rmX6_judge s m args below meth c 0 0 (MQ below (xQi D (w6 cI cO a) A Q) args s 0 0 A) D (xtys cI cO) A 4 (w6 cI cO a F G) 46 [(0, .ref (a 0)), (2, .ref (a 103)), (3, .int x3)] [] := by
  intro n
  induction n with
  | zero =>
    intro x3 F G h
    exact False.elim h
  | succ n ih =>
    intro x3 F G h
    refine x_iload_n (pc' := 47) K dX6_judge_46 2 rfl rfl ?_
    refine x_aload_n (pc' := 48) K dX6_judge_47 1 rfl rfl ?_
    refine xw6_103g_size (pc' := 51) K hinX6_judge_X2 uX6_judge_f212 dX6_judge_48 rfl ?_
    refine x_icmp_ge (tgt := 86) (pc' := 54) K dX6_judge_51 rfl rfl (fun c51 => ?_) (fun c51 => ?_)
    · replace h := h.1 c51
      refine x_aload_n (pc' := 87) K dX6_judge_86 1 rfl rfl ?_
      refine xw6_103g_size (pc' := 90) K hinX6_judge_X2 uX6_judge_f212 dX6_judge_87 rfl ?_
      exact x_iret (wf := w6 cI cO a) K h dX6_judge_90
    · replace h := h.2 c51
      refine x_aload_n (pc' := 55) K dX6_judge_54 1 rfl rfl ?_
      refine x_iload_n (pc' := 56) K dX6_judge_55 2 rfl rfl ?_
      refine x_subI (pc' := 59) (wn := fun F' G' => w6 cI cO a (xspl F 48 2 F') (xspl G 69 1 G')) K (mX2_at l D cI cO (xsub a 103) _) rfl gX6_judge_X2_at rfl dsX2_at ⟨rfl, rfl, ⟨Nat.le_of_ble_eq_true rfl, Nat.le_of_ble_eq_true rfl⟩, Nat.le_of_ble_eq_true rfl, Nat.le_of_ble_eq_true rfl⟩ h 2 0 rfl rfl (xpl34 cI cO a _ _) (fun F' G' => xpr34 cI cO a _ _ F' G') (st := []) rfl rfl (Nat.le_of_ble_eq_true rfl) dX6_judge_56 rfl (fun r56 F56 G56 h => ?_)
      obtain ⟨E56, eE56⟩ : ∃ x : xF, x = (xspl F 48 2 F56) := ⟨_, rfl⟩
      obtain ⟨H56, eH56⟩ : ∃ x : xA, x = (xspl G 69 1 G56) := ⟨_, rfl⟩
      refine x_weq (w' := w6 cI cO a E56 H56) (by subst eE56; subst eH56; rfl) ?_
      replace h := h E56 eE56
      replace h := h H56 eH56
      refine x_aload_n (pc' := 60) K dX6_judge_59 0 rfl rfl ?_
      refine xw6_0g_side (pc' := 63) K hinX6_judge_X6 uX6_judge_f41 dX6_judge_60 rfl ?_
      refine xw6_39g_place (pc' := 66) K hinX6_judge_X5 uX6_judge_f129 dX6_judge_63 rfl ?_
      refine x_icmp_eq (tgt := 71) (pc' := 69) K dX6_judge_66 rfl rfl (fun c66 => ?_) (fun c66 => ?_)
      · replace h := h.1 c66
        refine x_aload_n (pc' := 72) K dX6_judge_71 0 rfl rfl ?_
        refine xw6_0g_side (pc' := 75) K hinX6_judge_X6 uX6_judge_f41 dX6_judge_72 rfl ?_
        refine x_iconst (pc' := 76) (v := -1) K dX6_judge_75 (by decide) rfl ?_
        refine x_subI (pc' := 79) (wn := fun F' G' => w6 cI cO a (xspl E56 14 7 F') (xspl H56 28 14 G')) K (mX5_oneDay l D cI cO (xsub a 39) _) rfl gX6_judge_X5_oneDay rfl dsX5_oneDay ⟨rfl, rfl, ⟨Nat.le_of_ble_eq_true rfl, Nat.le_of_ble_eq_true rfl⟩, Nat.le_of_ble_eq_true rfl, Nat.le_of_ble_eq_true rfl⟩ h 5 0 rfl rfl (xpl16 cI cO a _ _) (fun F' G' => xpr16 cI cO a _ _ F' G') (st := []) rfl rfl (Nat.le_of_ble_eq_true rfl) dX6_judge_76 rfl (fun r76 F76 G76 h => ?_)
        obtain ⟨E76, eE76⟩ : ∃ x : xF, x = (xspl E56 14 7 F76) := ⟨_, rfl⟩
        obtain ⟨H76, eH76⟩ : ∃ x : xA, x = (xspl H56 28 14 G76) := ⟨_, rfl⟩
        refine x_weq (w' := w6 cI cO a E76 H76) (by subst eE76; subst eH76; rfl) ?_
        replace h := h E76 eE76
        replace h := h H76 eH76
        refine x_pop (pc' := 80) K dX6_judge_79 rfl rfl ?_
        refine x_iinc (pc' := 83) (v := _ + (1 : Int32)) K dX6_judge_80 2 rfl rfl (by decide) [1, 2, 0] (L' := [(0, .ref (a 0)), (2, .ref (a 103)), (3, .int _)]) rfl rfl ?_
        refine x_goto (tgt := 46) K dX6_judge_83 rfl ?_
        exact ih _ _ _ h
      · replace h := h.2 c66
        refine x_iload_n (pc' := 70) K dX6_judge_69 2 rfl rfl ?_
        exact x_iret (wf := w6 cI cO a) K h dX6_judge_70
set_option maxHeartbeats 4000000 in
set_option maxRecDepth 100000 in
theorem mX6_judge (l : Launch) (D : va_G) (cI cO : ClassId) (a : Nat → Nat)  (x1 : Int32) : MI l yX6_judge wsX6_judge rmX6_judge D (xtys cI cO) [.ref (a 0), .int x1] (w6 cI cO a) (qX6_judge x1) := by
  refine MI_of (cc := cX6_judge) (maxL := 4) (own := RX6) (by decide) rfl rfl (Nat.le_of_ble_eq_true rfl) ?_
  intro p e s m args below meth c A F G Q h K
  refine x_locals [0, 1] (L' := [(0, .ref (a 0)), (1, .int _)]) rfl ?_
  refine x_iload_n (pc' := 1) K dX6_judge_0 1 rfl rfl ?_
  refine x_callS (pc' := 4) K (mX6_isSheet l D cI cO a _) rfl gX6_judge_X6_isSheet dsX6_isSheet ⟨rfl, rfl, ⟨Nat.le_of_ble_eq_true rfl, Nat.le_of_ble_eq_true rfl⟩, Nat.le_of_ble_eq_true rfl, Nat.le_of_ble_eq_true rfl⟩ h (st := []) rfl rfl (Nat.le_of_ble_eq_true rfl) dX6_judge_1 rfl (fun r1 h => ?_)
  refine x_if_ne (tgt := 13) (pc' := 7) K dX6_judge_4 rfl rfl (fun c4 => ?_) (fun c4 => ?_)
  · replace h := h.1 c4
    refine x_aload_n (pc' := 14) K dX6_judge_13 0 rfl rfl ?_
    refine xw6_0g_sheets (pc' := 17) K hinX6_judge_X6 uX6_judge_f70 dX6_judge_14 rfl ?_
    refine x_iload_n (pc' := 18) K dX6_judge_17 1 rfl rfl ?_
    obtain ⟨i18, h⟩ := h
    rcases xin4 i18 with e18 | e18 | e18 | e18
    · replace h := h.1 e18
      refine xw6_96q0 (pc' := 19) K i18 e18 dX6_judge_18 rfl ?_
      refine x_astore_n (pc' := 20) (i := 2) K dX6_judge_19 rfl (by decide) [1, 2, 0] (L' := [(0, .ref (a 0)), (1, .int _), (2, .ref (a 97))]) rfl rfl ?_
      refine x_aload_n (pc' := 21) K dX6_judge_20 2 rfl rfl ?_
      refine x_subI (pc' := 24) (wn := fun F' G' => w6 cI cO a (xspl F 42 2 F') (xspl G 66 1 G')) K (mX2_isMissing l D cI cO (xsub a 97)) rfl gX6_judge_X2_isMissing rfl dsX2_isMissing ⟨rfl, rfl, ⟨Nat.le_of_ble_eq_true rfl, Nat.le_of_ble_eq_true rfl⟩, Nat.le_of_ble_eq_true rfl, Nat.le_of_ble_eq_true rfl⟩ h 2 0 rfl rfl (xpl31 cI cO a _ _) (fun F' G' => xpr31 cI cO a _ _ F' G') (st := []) rfl rfl (Nat.le_of_ble_eq_true rfl) dX6_judge_21 rfl (fun r21 F21 G21 h => ?_)
      obtain ⟨E21, eE21⟩ : ∃ x : xF, x = (xspl F 42 2 F21) := ⟨_, rfl⟩
      obtain ⟨H21, eH21⟩ : ∃ x : xA, x = (xspl G 66 1 G21) := ⟨_, rfl⟩
      refine x_weq (w' := w6 cI cO a E21 H21) (by subst eE21; subst eH21; rfl) ?_
      replace h := h E21 eE21
      replace h := h H21 eH21
      refine x_if_eq (tgt := 33) (pc' := 27) K dX6_judge_24 rfl rfl (fun c24 => ?_) (fun c24 => ?_)
      · replace h := h.1 c24
        refine x_aload_n (pc' := 34) K dX6_judge_33 0 rfl rfl ?_
        refine xw6_0g_side (pc' := 37) K hinX6_judge_X6 uX6_judge_f41 dX6_judge_34 rfl ?_
        refine x_aload_n (pc' := 38) K dX6_judge_37 0 rfl rfl ?_
        refine xw6_0g_now (pc' := 41) K hinX6_judge_X6 uX6_judge_f10 dX6_judge_38 rfl ?_
        refine x_subV (pc' := 44) (wn := fun F' G' => w6 cI cO a (xspl (xspl E21 14 7 F') 0 7 (xsub F' 7)) (xspl (xspl H21 28 14 G') 0 14 (xsub G' 14))) K (mX5_takeFrom l D cI cO (xcat 19 (xsub a 39) (xsub a 1))) rfl gX6_judge_X5_takeFrom rfl dsX5_takeFrom ⟨rfl, rfl, ⟨Nat.le_of_ble_eq_true rfl, Nat.le_of_ble_eq_true rfl⟩, Nat.le_of_ble_eq_true rfl, Nat.le_of_ble_eq_true rfl⟩ h 5 0 rfl rfl (xpl15 cI cO a _ _) (fun F' G' => xpr15 cI cO a _ _ F' G') (st := []) rfl rfl (Nat.le_of_ble_eq_true rfl) dX6_judge_41 rfl (fun F41 G41 h => ?_)
        obtain ⟨E41, eE41⟩ : ∃ x : xF, x = (xspl (xspl E21 14 7 F41) 0 7 (xsub F41 7)) := ⟨_, rfl⟩
        obtain ⟨H41, eH41⟩ : ∃ x : xA, x = (xspl (xspl H21 28 14 G41) 0 14 (xsub G41 14)) := ⟨_, rfl⟩
        refine x_weq (w' := w6 cI cO a E41 H41) (by subst eE41; subst eH41; rfl) ?_
        replace h := h E41 eE41
        replace h := h H41 eH41
        refine x_iconst (pc' := 45) (v := 0) K dX6_judge_44 (by decide) rfl ?_
        refine x_istore_n (pc' := 46) (i := 3) K dX6_judge_45 rfl (by decide) [1, 2, 3, 0] (L' := [(0, .ref (a 0)), (1, .int _), (2, .ref (a 97)), (3, .int _)]) rfl rfl ?_
        refine x_locals [0, 2, 3] (L' := [(0, .ref (a 0)), (2, .ref (a 97)), (3, .int _)]) rfl ?_
        obtain ⟨n46, h⟩ := h
        exact tX6_judge_46 K n46 _ _ _ h
      · replace h := h.2 c24
        refine x_aload_n (pc' := 28) K dX6_judge_27 0 rfl rfl ?_
        refine x_iconst (pc' := 29) (v := 2) K dX6_judge_28 (by decide) rfl ?_
        refine x_callI (pc' := 32) K (mX6_error l D cI cO a _) rfl gX6_judge_X6_error rfl dsX6_error ⟨rfl, rfl, ⟨Nat.le_of_ble_eq_true rfl, Nat.le_of_ble_eq_true rfl⟩, Nat.le_of_ble_eq_true rfl, Nat.le_of_ble_eq_true rfl⟩ h 6 0 rfl rfl (st := []) rfl rfl (Nat.le_of_ble_eq_true rfl) dX6_judge_29 rfl (fun r29 F29 G29 h => ?_)
        exact x_iret (wf := w6 cI cO a) K h dX6_judge_32
    · replace h := h.2.1 e18
      refine xw6_96q1 (pc' := 19) K i18 e18 dX6_judge_18 rfl ?_
      refine x_astore_n (pc' := 20) (i := 2) K dX6_judge_19 rfl (by decide) [1, 2, 0] (L' := [(0, .ref (a 0)), (1, .int _), (2, .ref (a 99))]) rfl rfl ?_
      refine x_aload_n (pc' := 21) K dX6_judge_20 2 rfl rfl ?_
      refine x_subI (pc' := 24) (wn := fun F' G' => w6 cI cO a (xspl F 44 2 F') (xspl G 67 1 G')) K (mX2_isMissing l D cI cO (xsub a 99)) rfl gX6_judge_X2_isMissing rfl dsX2_isMissing ⟨rfl, rfl, ⟨Nat.le_of_ble_eq_true rfl, Nat.le_of_ble_eq_true rfl⟩, Nat.le_of_ble_eq_true rfl, Nat.le_of_ble_eq_true rfl⟩ h 2 0 rfl rfl (xpl32 cI cO a _ _) (fun F' G' => xpr32 cI cO a _ _ F' G') (st := []) rfl rfl (Nat.le_of_ble_eq_true rfl) dX6_judge_21 rfl (fun r21 F21 G21 h => ?_)
      obtain ⟨E21, eE21⟩ : ∃ x : xF, x = (xspl F 44 2 F21) := ⟨_, rfl⟩
      obtain ⟨H21, eH21⟩ : ∃ x : xA, x = (xspl G 67 1 G21) := ⟨_, rfl⟩
      refine x_weq (w' := w6 cI cO a E21 H21) (by subst eE21; subst eH21; rfl) ?_
      replace h := h E21 eE21
      replace h := h H21 eH21
      refine x_if_eq (tgt := 33) (pc' := 27) K dX6_judge_24 rfl rfl (fun c24 => ?_) (fun c24 => ?_)
      · replace h := h.1 c24
        refine x_aload_n (pc' := 34) K dX6_judge_33 0 rfl rfl ?_
        refine xw6_0g_side (pc' := 37) K hinX6_judge_X6 uX6_judge_f41 dX6_judge_34 rfl ?_
        refine x_aload_n (pc' := 38) K dX6_judge_37 0 rfl rfl ?_
        refine xw6_0g_now (pc' := 41) K hinX6_judge_X6 uX6_judge_f10 dX6_judge_38 rfl ?_
        refine x_subV (pc' := 44) (wn := fun F' G' => w6 cI cO a (xspl (xspl E21 14 7 F') 0 7 (xsub F' 7)) (xspl (xspl H21 28 14 G') 0 14 (xsub G' 14))) K (mX5_takeFrom l D cI cO (xcat 19 (xsub a 39) (xsub a 1))) rfl gX6_judge_X5_takeFrom rfl dsX5_takeFrom ⟨rfl, rfl, ⟨Nat.le_of_ble_eq_true rfl, Nat.le_of_ble_eq_true rfl⟩, Nat.le_of_ble_eq_true rfl, Nat.le_of_ble_eq_true rfl⟩ h 5 0 rfl rfl (xpl15 cI cO a _ _) (fun F' G' => xpr15 cI cO a _ _ F' G') (st := []) rfl rfl (Nat.le_of_ble_eq_true rfl) dX6_judge_41 rfl (fun F41 G41 h => ?_)
        obtain ⟨E41, eE41⟩ : ∃ x : xF, x = (xspl (xspl E21 14 7 F41) 0 7 (xsub F41 7)) := ⟨_, rfl⟩
        obtain ⟨H41, eH41⟩ : ∃ x : xA, x = (xspl (xspl H21 28 14 G41) 0 14 (xsub G41 14)) := ⟨_, rfl⟩
        refine x_weq (w' := w6 cI cO a E41 H41) (by subst eE41; subst eH41; rfl) ?_
        replace h := h E41 eE41
        replace h := h H41 eH41
        refine x_iconst (pc' := 45) (v := 0) K dX6_judge_44 (by decide) rfl ?_
        refine x_istore_n (pc' := 46) (i := 3) K dX6_judge_45 rfl (by decide) [1, 2, 3, 0] (L' := [(0, .ref (a 0)), (1, .int _), (2, .ref (a 99)), (3, .int _)]) rfl rfl ?_
        refine x_locals [0, 2, 3] (L' := [(0, .ref (a 0)), (2, .ref (a 99)), (3, .int _)]) rfl ?_
        obtain ⟨n46, h⟩ := h
        exact tX6_judge_46_1 K n46 _ _ _ h
      · replace h := h.2 c24
        refine x_aload_n (pc' := 28) K dX6_judge_27 0 rfl rfl ?_
        refine x_iconst (pc' := 29) (v := 2) K dX6_judge_28 (by decide) rfl ?_
        refine x_callI (pc' := 32) K (mX6_error l D cI cO a _) rfl gX6_judge_X6_error rfl dsX6_error ⟨rfl, rfl, ⟨Nat.le_of_ble_eq_true rfl, Nat.le_of_ble_eq_true rfl⟩, Nat.le_of_ble_eq_true rfl, Nat.le_of_ble_eq_true rfl⟩ h 6 0 rfl rfl (st := []) rfl rfl (Nat.le_of_ble_eq_true rfl) dX6_judge_29 rfl (fun r29 F29 G29 h => ?_)
        exact x_iret (wf := w6 cI cO a) K h dX6_judge_32
    · replace h := h.2.2.1 e18
      refine xw6_96q2 (pc' := 19) K i18 e18 dX6_judge_18 rfl ?_
      refine x_astore_n (pc' := 20) (i := 2) K dX6_judge_19 rfl (by decide) [1, 2, 0] (L' := [(0, .ref (a 0)), (1, .int _), (2, .ref (a 101))]) rfl rfl ?_
      refine x_aload_n (pc' := 21) K dX6_judge_20 2 rfl rfl ?_
      refine x_subI (pc' := 24) (wn := fun F' G' => w6 cI cO a (xspl F 46 2 F') (xspl G 68 1 G')) K (mX2_isMissing l D cI cO (xsub a 101)) rfl gX6_judge_X2_isMissing rfl dsX2_isMissing ⟨rfl, rfl, ⟨Nat.le_of_ble_eq_true rfl, Nat.le_of_ble_eq_true rfl⟩, Nat.le_of_ble_eq_true rfl, Nat.le_of_ble_eq_true rfl⟩ h 2 0 rfl rfl (xpl33 cI cO a _ _) (fun F' G' => xpr33 cI cO a _ _ F' G') (st := []) rfl rfl (Nat.le_of_ble_eq_true rfl) dX6_judge_21 rfl (fun r21 F21 G21 h => ?_)
      obtain ⟨E21, eE21⟩ : ∃ x : xF, x = (xspl F 46 2 F21) := ⟨_, rfl⟩
      obtain ⟨H21, eH21⟩ : ∃ x : xA, x = (xspl G 68 1 G21) := ⟨_, rfl⟩
      refine x_weq (w' := w6 cI cO a E21 H21) (by subst eE21; subst eH21; rfl) ?_
      replace h := h E21 eE21
      replace h := h H21 eH21
      refine x_if_eq (tgt := 33) (pc' := 27) K dX6_judge_24 rfl rfl (fun c24 => ?_) (fun c24 => ?_)
      · replace h := h.1 c24
        refine x_aload_n (pc' := 34) K dX6_judge_33 0 rfl rfl ?_
        refine xw6_0g_side (pc' := 37) K hinX6_judge_X6 uX6_judge_f41 dX6_judge_34 rfl ?_
        refine x_aload_n (pc' := 38) K dX6_judge_37 0 rfl rfl ?_
        refine xw6_0g_now (pc' := 41) K hinX6_judge_X6 uX6_judge_f10 dX6_judge_38 rfl ?_
        refine x_subV (pc' := 44) (wn := fun F' G' => w6 cI cO a (xspl (xspl E21 14 7 F') 0 7 (xsub F' 7)) (xspl (xspl H21 28 14 G') 0 14 (xsub G' 14))) K (mX5_takeFrom l D cI cO (xcat 19 (xsub a 39) (xsub a 1))) rfl gX6_judge_X5_takeFrom rfl dsX5_takeFrom ⟨rfl, rfl, ⟨Nat.le_of_ble_eq_true rfl, Nat.le_of_ble_eq_true rfl⟩, Nat.le_of_ble_eq_true rfl, Nat.le_of_ble_eq_true rfl⟩ h 5 0 rfl rfl (xpl15 cI cO a _ _) (fun F' G' => xpr15 cI cO a _ _ F' G') (st := []) rfl rfl (Nat.le_of_ble_eq_true rfl) dX6_judge_41 rfl (fun F41 G41 h => ?_)
        obtain ⟨E41, eE41⟩ : ∃ x : xF, x = (xspl (xspl E21 14 7 F41) 0 7 (xsub F41 7)) := ⟨_, rfl⟩
        obtain ⟨H41, eH41⟩ : ∃ x : xA, x = (xspl (xspl H21 28 14 G41) 0 14 (xsub G41 14)) := ⟨_, rfl⟩
        refine x_weq (w' := w6 cI cO a E41 H41) (by subst eE41; subst eH41; rfl) ?_
        replace h := h E41 eE41
        replace h := h H41 eH41
        refine x_iconst (pc' := 45) (v := 0) K dX6_judge_44 (by decide) rfl ?_
        refine x_istore_n (pc' := 46) (i := 3) K dX6_judge_45 rfl (by decide) [1, 2, 3, 0] (L' := [(0, .ref (a 0)), (1, .int _), (2, .ref (a 101)), (3, .int _)]) rfl rfl ?_
        refine x_locals [0, 2, 3] (L' := [(0, .ref (a 0)), (2, .ref (a 101)), (3, .int _)]) rfl ?_
        obtain ⟨n46, h⟩ := h
        exact tX6_judge_46_2 K n46 _ _ _ h
      · replace h := h.2 c24
        refine x_aload_n (pc' := 28) K dX6_judge_27 0 rfl rfl ?_
        refine x_iconst (pc' := 29) (v := 2) K dX6_judge_28 (by decide) rfl ?_
        refine x_callI (pc' := 32) K (mX6_error l D cI cO a _) rfl gX6_judge_X6_error rfl dsX6_error ⟨rfl, rfl, ⟨Nat.le_of_ble_eq_true rfl, Nat.le_of_ble_eq_true rfl⟩, Nat.le_of_ble_eq_true rfl, Nat.le_of_ble_eq_true rfl⟩ h 6 0 rfl rfl (st := []) rfl rfl (Nat.le_of_ble_eq_true rfl) dX6_judge_29 rfl (fun r29 F29 G29 h => ?_)
        exact x_iret (wf := w6 cI cO a) K h dX6_judge_32
    · replace h := h.2.2.2 e18
      refine xw6_96q3 (pc' := 19) K i18 e18 dX6_judge_18 rfl ?_
      refine x_astore_n (pc' := 20) (i := 2) K dX6_judge_19 rfl (by decide) [1, 2, 0] (L' := [(0, .ref (a 0)), (1, .int _), (2, .ref (a 103))]) rfl rfl ?_
      refine x_aload_n (pc' := 21) K dX6_judge_20 2 rfl rfl ?_
      refine x_subI (pc' := 24) (wn := fun F' G' => w6 cI cO a (xspl F 48 2 F') (xspl G 69 1 G')) K (mX2_isMissing l D cI cO (xsub a 103)) rfl gX6_judge_X2_isMissing rfl dsX2_isMissing ⟨rfl, rfl, ⟨Nat.le_of_ble_eq_true rfl, Nat.le_of_ble_eq_true rfl⟩, Nat.le_of_ble_eq_true rfl, Nat.le_of_ble_eq_true rfl⟩ h 2 0 rfl rfl (xpl34 cI cO a _ _) (fun F' G' => xpr34 cI cO a _ _ F' G') (st := []) rfl rfl (Nat.le_of_ble_eq_true rfl) dX6_judge_21 rfl (fun r21 F21 G21 h => ?_)
      obtain ⟨E21, eE21⟩ : ∃ x : xF, x = (xspl F 48 2 F21) := ⟨_, rfl⟩
      obtain ⟨H21, eH21⟩ : ∃ x : xA, x = (xspl G 69 1 G21) := ⟨_, rfl⟩
      refine x_weq (w' := w6 cI cO a E21 H21) (by subst eE21; subst eH21; rfl) ?_
      replace h := h E21 eE21
      replace h := h H21 eH21
      refine x_if_eq (tgt := 33) (pc' := 27) K dX6_judge_24 rfl rfl (fun c24 => ?_) (fun c24 => ?_)
      · replace h := h.1 c24
        refine x_aload_n (pc' := 34) K dX6_judge_33 0 rfl rfl ?_
        refine xw6_0g_side (pc' := 37) K hinX6_judge_X6 uX6_judge_f41 dX6_judge_34 rfl ?_
        refine x_aload_n (pc' := 38) K dX6_judge_37 0 rfl rfl ?_
        refine xw6_0g_now (pc' := 41) K hinX6_judge_X6 uX6_judge_f10 dX6_judge_38 rfl ?_
        refine x_subV (pc' := 44) (wn := fun F' G' => w6 cI cO a (xspl (xspl E21 14 7 F') 0 7 (xsub F' 7)) (xspl (xspl H21 28 14 G') 0 14 (xsub G' 14))) K (mX5_takeFrom l D cI cO (xcat 19 (xsub a 39) (xsub a 1))) rfl gX6_judge_X5_takeFrom rfl dsX5_takeFrom ⟨rfl, rfl, ⟨Nat.le_of_ble_eq_true rfl, Nat.le_of_ble_eq_true rfl⟩, Nat.le_of_ble_eq_true rfl, Nat.le_of_ble_eq_true rfl⟩ h 5 0 rfl rfl (xpl15 cI cO a _ _) (fun F' G' => xpr15 cI cO a _ _ F' G') (st := []) rfl rfl (Nat.le_of_ble_eq_true rfl) dX6_judge_41 rfl (fun F41 G41 h => ?_)
        obtain ⟨E41, eE41⟩ : ∃ x : xF, x = (xspl (xspl E21 14 7 F41) 0 7 (xsub F41 7)) := ⟨_, rfl⟩
        obtain ⟨H41, eH41⟩ : ∃ x : xA, x = (xspl (xspl H21 28 14 G41) 0 14 (xsub G41 14)) := ⟨_, rfl⟩
        refine x_weq (w' := w6 cI cO a E41 H41) (by subst eE41; subst eH41; rfl) ?_
        replace h := h E41 eE41
        replace h := h H41 eH41
        refine x_iconst (pc' := 45) (v := 0) K dX6_judge_44 (by decide) rfl ?_
        refine x_istore_n (pc' := 46) (i := 3) K dX6_judge_45 rfl (by decide) [1, 2, 3, 0] (L' := [(0, .ref (a 0)), (1, .int _), (2, .ref (a 103)), (3, .int _)]) rfl rfl ?_
        refine x_locals [0, 2, 3] (L' := [(0, .ref (a 0)), (2, .ref (a 103)), (3, .int _)]) rfl ?_
        obtain ⟨n46, h⟩ := h
        exact tX6_judge_46_3 K n46 _ _ _ h
      · replace h := h.2 c24
        refine x_aload_n (pc' := 28) K dX6_judge_27 0 rfl rfl ?_
        refine x_iconst (pc' := 29) (v := 2) K dX6_judge_28 (by decide) rfl ?_
        refine x_callI (pc' := 32) K (mX6_error l D cI cO a _) rfl gX6_judge_X6_error rfl dsX6_error ⟨rfl, rfl, ⟨Nat.le_of_ble_eq_true rfl, Nat.le_of_ble_eq_true rfl⟩, Nat.le_of_ble_eq_true rfl, Nat.le_of_ble_eq_true rfl⟩ h 6 0 rfl rfl (st := []) rfl rfl (Nat.le_of_ble_eq_true rfl) dX6_judge_29 rfl (fun r29 F29 G29 h => ?_)
        exact x_iret (wf := w6 cI cO a) K h dX6_judge_32
  · replace h := h.2 c4
    refine x_aload_n (pc' := 8) K dX6_judge_7 0 rfl rfl ?_
    refine x_iconst (pc' := 9) (v := 1) K dX6_judge_8 (by decide) rfl ?_
    refine x_callI (pc' := 12) K (mX6_error l D cI cO a _) rfl gX6_judge_X6_error rfl dsX6_error ⟨rfl, rfl, ⟨Nat.le_of_ble_eq_true rfl, Nat.le_of_ble_eq_true rfl⟩, Nat.le_of_ble_eq_true rfl, Nat.le_of_ble_eq_true rfl⟩ h 6 0 rfl rfl (st := []) rfl rfl (Nat.le_of_ble_eq_true rfl) dX6_judge_9 rfl (fun r9 F9 G9 h => ?_)
    exact x_iret (wf := w6 cI cO a) K h dX6_judge_12
/-! X6_restore -/
set_option maxHeartbeats 4000000 in
set_option maxRecDepth 100000 in
theorem xpl37 (cI : ClassId) (cO : ClassId) (a : Nat → Nat) (F : xF) (G : xA) : (w6 cI cO a F G).Perm (List.flatMap (bw6 cI cO a F G) [0, 17, 18, 19, 20, 21, 22, 23, 24, 25, 26, 27, 28, 29, 30, 31, 32, 33, 34, 35, 36, 37, 38, 39, 40, 41, 42, 43, 44, 45, 46, 47, 48, 49, 50, 51, 52, 53] ++ w55 cI (xcat 19 (xsub a 1) (xsub a 20)) (xcat 7 (xsub F 0) (xsub F 7)) (xcat 14 (xsub G 0) (xsub G 14))) := xpermF (bf := bw6 cI cO a F G) (ns := [0, 1, 2, 3, 4, 5, 6, 7, 8, 9, 10, 11, 12, 13, 14, 15, 16, 17, 18, 19, 20, 21, 22, 23, 24, 25, 26, 27, 28, 29, 30, 31, 32, 33, 34, 35, 36, 37, 38, 39, 40, 41, 42, 43, 44, 45, 46, 47, 48, 49, 50, 51, 52, 53]) rfl [0, 17, 18, 19, 20, 21, 22, 23, 24, 25, 26, 27, 28, 29, 30, 31, 32, 33, 34, 35, 36, 37, 38, 39, 40, 41, 42, 43, 44, 45, 46, 47, 48, 49, 50, 51, 52, 53] [1, 2, 3, 4, 5, 6, 7, 8, 9, 10, 11, 12, 13, 14, 15, 16] (by decide +kernel) rfl rfl
set_option maxHeartbeats 4000000 in
set_option maxRecDepth 100000 in
theorem xpr37 (cI : ClassId) (cO : ClassId) (a : Nat → Nat) (F : xF) (G : xA) (F' : xF) (G' : xA) : (w6 cI cO a (xspl (xspl F 0 7 F') 7 7 (xsub F' 7)) (xspl (xspl G 0 14 G') 14 14 (xsub G' 14))).Perm (List.flatMap (bw6 cI cO a F G) [0, 17, 18, 19, 20, 21, 22, 23, 24, 25, 26, 27, 28, 29, 30, 31, 32, 33, 34, 35, 36, 37, 38, 39, 40, 41, 42, 43, 44, 45, 46, 47, 48, 49, 50, 51, 52, 53] ++ w55 cI (xcat 19 (xsub a 1) (xsub a 20)) F' G') := xpermF (bf := bw6 cI cO a (xspl (xspl F 0 7 F') 7 7 (xsub F' 7)) (xspl (xspl G 0 14 G') 14 14 (xsub G' 14))) (ns := [0, 1, 2, 3, 4, 5, 6, 7, 8, 9, 10, 11, 12, 13, 14, 15, 16, 17, 18, 19, 20, 21, 22, 23, 24, 25, 26, 27, 28, 29, 30, 31, 32, 33, 34, 35, 36, 37, 38, 39, 40, 41, 42, 43, 44, 45, 46, 47, 48, 49, 50, 51, 52, 53]) rfl [0, 17, 18, 19, 20, 21, 22, 23, 24, 25, 26, 27, 28, 29, 30, 31, 32, 33, 34, 35, 36, 37, 38, 39, 40, 41, 42, 43, 44, 45, 46, 47, 48, 49, 50, 51, 52, 53] [1, 2, 3, 4, 5, 6, 7, 8, 9, 10, 11, 12, 13, 14, 15, 16] (by decide +kernel) rfl rfl
set_option maxHeartbeats 4000000 in
set_option maxRecDepth 100000 in
theorem xpl38 (cI : ClassId) (cO : ClassId) (a : Nat → Nat) (F : xF) (G : xA) : (w6 cI cO a F G).Perm (List.flatMap (bw6 cI cO a F G) [0, 1, 2, 3, 4, 5, 6, 7, 8, 9, 10, 11, 12, 13, 14, 15, 16, 17, 18, 19, 20, 21, 22, 23, 24, 25, 26, 27, 28, 29, 30, 31, 32, 34, 36, 37, 38, 39, 40, 41, 42, 43, 44, 45, 46, 47, 48, 49, 50, 51, 52, 53] ++ w11 60 60 cI (xcat 2 (xsub a 77) (xsub a 81)) (xcat 1 (xsub F 29) (xsub F 31)) (xcat 1 (xsub G 56) (xsub G 58))) := xpermF (bf := bw6 cI cO a F G) (ns := [0, 1, 2, 3, 4, 5, 6, 7, 8, 9, 10, 11, 12, 13, 14, 15, 16, 17, 18, 19, 20, 21, 22, 23, 24, 25, 26, 27, 28, 29, 30, 31, 32, 33, 34, 35, 36, 37, 38, 39, 40, 41, 42, 43, 44, 45, 46, 47, 48, 49, 50, 51, 52, 53]) rfl [0, 1, 2, 3, 4, 5, 6, 7, 8, 9, 10, 11, 12, 13, 14, 15, 16, 17, 18, 19, 20, 21, 22, 23, 24, 25, 26, 27, 28, 29, 30, 31, 32, 34, 36, 37, 38, 39, 40, 41, 42, 43, 44, 45, 46, 47, 48, 49, 50, 51, 52, 53] [33, 35] (by decide +kernel) rfl rfl
set_option maxHeartbeats 4000000 in
set_option maxRecDepth 100000 in
theorem xpr38 (cI : ClassId) (cO : ClassId) (a : Nat → Nat) (F : xF) (G : xA) (F' : xF) (G' : xA) : (w6 cI cO a (xspl (xspl F 29 1 F') 31 1 (xsub F' 1)) (xspl (xspl G 56 1 G') 58 1 (xsub G' 1))).Perm (List.flatMap (bw6 cI cO a F G) [0, 1, 2, 3, 4, 5, 6, 7, 8, 9, 10, 11, 12, 13, 14, 15, 16, 17, 18, 19, 20, 21, 22, 23, 24, 25, 26, 27, 28, 29, 30, 31, 32, 34, 36, 37, 38, 39, 40, 41, 42, 43, 44, 45, 46, 47, 48, 49, 50, 51, 52, 53] ++ w11 60 60 cI (xcat 2 (xsub a 77) (xsub a 81)) F' G') := xpermF (bf := bw6 cI cO a (xspl (xspl F 29 1 F') 31 1 (xsub F' 1)) (xspl (xspl G 56 1 G') 58 1 (xsub G' 1))) (ns := [0, 1, 2, 3, 4, 5, 6, 7, 8, 9, 10, 11, 12, 13, 14, 15, 16, 17, 18, 19, 20, 21, 22, 23, 24, 25, 26, 27, 28, 29, 30, 31, 32, 33, 34, 35, 36, 37, 38, 39, 40, 41, 42, 43, 44, 45, 46, 47, 48, 49, 50, 51, 52, 53]) rfl [0, 1, 2, 3, 4, 5, 6, 7, 8, 9, 10, 11, 12, 13, 14, 15, 16, 17, 18, 19, 20, 21, 22, 23, 24, 25, 26, 27, 28, 29, 30, 31, 32, 34, 36, 37, 38, 39, 40, 41, 42, 43, 44, 45, 46, 47, 48, 49, 50, 51, 52, 53] [33, 35] (by decide +kernel) rfl rfl
set_option maxHeartbeats 4000000 in
set_option maxRecDepth 100000 in
theorem xpl39 (cI : ClassId) (cO : ClassId) (a : Nat → Nat) (F : xF) (G : xA) : (w6 cI cO a F G).Perm (List.flatMap (bw6 cI cO a F G) [0, 1, 2, 3, 4, 5, 6, 7, 8, 9, 10, 11, 12, 13, 14, 15, 16, 17, 18, 19, 20, 21, 22, 23, 24, 25, 26, 27, 28, 29, 30, 31, 32, 33, 35, 37, 38, 39, 40, 41, 42, 43, 44, 45, 46, 47, 48, 49, 50, 51, 52, 53] ++ w11 24 24 cI (xcat 2 (xsub a 79) (xsub a 83)) (xcat 1 (xsub F 30) (xsub F 32)) (xcat 1 (xsub G 57) (xsub G 59))) := xpermF (bf := bw6 cI cO a F G) (ns := [0, 1, 2, 3, 4, 5, 6, 7, 8, 9, 10, 11, 12, 13, 14, 15, 16, 17, 18, 19, 20, 21, 22, 23, 24, 25, 26, 27, 28, 29, 30, 31, 32, 33, 34, 35, 36, 37, 38, 39, 40, 41, 42, 43, 44, 45, 46, 47, 48, 49, 50, 51, 52, 53]) rfl [0, 1, 2, 3, 4, 5, 6, 7, 8, 9, 10, 11, 12, 13, 14, 15, 16, 17, 18, 19, 20, 21, 22, 23, 24, 25, 26, 27, 28, 29, 30, 31, 32, 33, 35, 37, 38, 39, 40, 41, 42, 43, 44, 45, 46, 47, 48, 49, 50, 51, 52, 53] [34, 36] (by decide +kernel) rfl rfl
set_option maxHeartbeats 4000000 in
set_option maxRecDepth 100000 in
theorem xpr39 (cI : ClassId) (cO : ClassId) (a : Nat → Nat) (F : xF) (G : xA) (F' : xF) (G' : xA) : (w6 cI cO a (xspl (xspl F 30 1 F') 32 1 (xsub F' 1)) (xspl (xspl G 57 1 G') 59 1 (xsub G' 1))).Perm (List.flatMap (bw6 cI cO a F G) [0, 1, 2, 3, 4, 5, 6, 7, 8, 9, 10, 11, 12, 13, 14, 15, 16, 17, 18, 19, 20, 21, 22, 23, 24, 25, 26, 27, 28, 29, 30, 31, 32, 33, 35, 37, 38, 39, 40, 41, 42, 43, 44, 45, 46, 47, 48, 49, 50, 51, 52, 53] ++ w11 24 24 cI (xcat 2 (xsub a 79) (xsub a 83)) F' G') := xpermF (bf := bw6 cI cO a (xspl (xspl F 30 1 F') 32 1 (xsub F' 1)) (xspl (xspl G 57 1 G') 59 1 (xsub G' 1))) (ns := [0, 1, 2, 3, 4, 5, 6, 7, 8, 9, 10, 11, 12, 13, 14, 15, 16, 17, 18, 19, 20, 21, 22, 23, 24, 25, 26, 27, 28, 29, 30, 31, 32, 33, 34, 35, 36, 37, 38, 39, 40, 41, 42, 43, 44, 45, 46, 47, 48, 49, 50, 51, 52, 53]) rfl [0, 1, 2, 3, 4, 5, 6, 7, 8, 9, 10, 11, 12, 13, 14, 15, 16, 17, 18, 19, 20, 21, 22, 23, 24, 25, 26, 27, 28, 29, 30, 31, 32, 33, 35, 37, 38, 39, 40, 41, 42, 43, 44, 45, 46, 47, 48, 49, 50, 51, 52, 53] [34, 36] (by decide +kernel) rfl rfl
abbrev rmX6_restore : Room := { frames := 5, cells := 0, slots := 0, locals := 242 }
theorem dsX6_restore : xDesc yX6_restore 0 := by decide +kernel
theorem uX6_restore_f37 : Cond.fieldLink RX6 37 "PigNinths" "images" "I" ∈ wsX6_restore := nw_in nwl_X6_restore nwe_336 (by decide +kernel)
theorem hinX6_restore_X6 : ∀ w ∈ wsX60, w ∈ wsX6_restore := nw_all nwl_X6_restore nwl_X60 (by decide +kernel)
theorem uX6_restore_f10 : Cond.fieldLink RX6 10 "PigNinths" "now" "LPigNinths$World;" ∈ wsX6_restore := nw_in nwl_X6_restore nwe_329 (by decide +kernel)
theorem uX6_restore_f28 : Cond.fieldLink RX6 28 "PigNinths" "keptWorld" "LPigNinths$World;" ∈ wsX6_restore := nw_in nwl_X6_restore nwe_333 (by decide +kernel)
theorem uX6_restore_f21 : Cond.fieldLink RX6 21 "PigNinths" "tape" "LPigNinths$Row;" ∈ wsX6_restore := nw_in nwl_X6_restore nwe_331 (by decide +kernel)
theorem uX6_restore_f31 : Cond.fieldLink RX6 31 "PigNinths" "keptTape" "LPigNinths$Row;" ∈ wsX6_restore := nw_in nwl_X6_restore nwe_334 (by decide +kernel)
theorem uX6_restore_f25 : Cond.fieldLink RX6 25 "PigNinths" "waiting" "LPigNinths$Row;" ∈ wsX6_restore := nw_in nwl_X6_restore nwe_332 (by decide +kernel)
theorem uX6_restore_f34 : Cond.fieldLink RX6 34 "PigNinths" "keptWaiting" "LPigNinths$Row;" ∈ wsX6_restore := nw_in nwl_X6_restore nwe_335 (by decide +kernel)
theorem uX6_restore_f163 : Cond.fieldLink RX6 163 "PigNinths$World" "day" "I" ∈ wsX6_restore := nw_in nwl_X6_restore nwe_418 (by decide +kernel)
theorem hinX6_restore_X5 : ∀ w ∈ wsX50, w ∈ wsX6_restore := nw_all nwl_X6_restore nwl_X50 (by decide +kernel)
set_option maxHeartbeats 4000000 in
set_option maxRecDepth 100000 in
theorem mX6_restore (l : Launch) (D : va_G) (cI cO : ClassId) (a : Nat → Nat)   : MI l yX6_restore wsX6_restore rmX6_restore D (xtys cI cO) [.ref (a 0)] (w6 cI cO a) qX6_restore := by
  refine MI_of (cc := cX6_restore) (maxL := 1) (own := RX6) (by decide) rfl rfl (Nat.le_of_ble_eq_true rfl) ?_
  intro p e s m args below meth c A F G Q h K
  refine x_locals [0] (L' := [(0, .ref (a 0))]) rfl ?_
  refine x_aload_n (pc' := 1) K dX6_restore_0 0 rfl rfl ?_
  refine xw6_0g_images (pc' := 4) K hinX6_restore_X6 uX6_restore_f37 dX6_restore_1 rfl ?_
  refine x_if_ne (tgt := 13) (pc' := 7) K dX6_restore_4 rfl rfl (fun c4 => ?_) (fun c4 => ?_)
  · replace h := h.1 c4
    refine x_aload_n (pc' := 14) K dX6_restore_13 0 rfl rfl ?_
    refine xw6_0g_now (pc' := 17) K hinX6_restore_X6 uX6_restore_f10 dX6_restore_14 rfl ?_
    refine x_aload_n (pc' := 18) K dX6_restore_17 0 rfl rfl ?_
    refine xw6_0g_keptWorld (pc' := 21) K hinX6_restore_X6 uX6_restore_f28 dX6_restore_18 rfl ?_
    refine x_subV (pc' := 24) (wn := fun F' G' => w6 cI cO a (xspl (xspl F 0 7 F') 7 7 (xsub F' 7)) (xspl (xspl G 0 14 G') 14 14 (xsub G' 14))) K (mX5_takeFrom l D cI cO (xcat 19 (xsub a 1) (xsub a 20))) rfl gX6_restore_X5_takeFrom rfl dsX5_takeFrom ⟨rfl, rfl, ⟨Nat.le_of_ble_eq_true rfl, Nat.le_of_ble_eq_true rfl⟩, Nat.le_of_ble_eq_true rfl, Nat.le_of_ble_eq_true rfl⟩ h 5 0 rfl rfl (xpl37 cI cO a _ _) (fun F' G' => xpr37 cI cO a _ _ F' G') (st := []) rfl rfl (Nat.le_of_ble_eq_true rfl) dX6_restore_21 rfl (fun F21 G21 h => ?_)
    obtain ⟨E21, eE21⟩ : ∃ x : xF, x = (xspl (xspl F 0 7 F21) 7 7 (xsub F21 7)) := ⟨_, rfl⟩
    obtain ⟨H21, eH21⟩ : ∃ x : xA, x = (xspl (xspl G 0 14 G21) 14 14 (xsub G21 14)) := ⟨_, rfl⟩
    refine x_weq (w' := w6 cI cO a E21 H21) (by subst eE21; subst eH21; rfl) ?_
    replace h := h E21 eE21
    replace h := h H21 eH21
    refine x_aload_n (pc' := 25) K dX6_restore_24 0 rfl rfl ?_
    refine xw6_0g_tape (pc' := 28) K hinX6_restore_X6 uX6_restore_f21 dX6_restore_25 rfl ?_
    refine x_aload_n (pc' := 29) K dX6_restore_28 0 rfl rfl ?_
    refine xw6_0g_keptTape (pc' := 32) K hinX6_restore_X6 uX6_restore_f31 dX6_restore_29 rfl ?_
    refine x_subV (pc' := 35) (wn := fun F' G' => w6 cI cO a (xspl (xspl E21 29 1 F') 31 1 (xsub F' 1)) (xspl (xspl H21 56 1 G') 58 1 (xsub G' 1))) K (mX1_takeFrom l D cI cO (xcat 2 (xsub a 77) (xsub a 81)) 60 60) rfl gX6_restore_X1_takeFrom rfl dsX1_takeFrom ⟨rfl, rfl, ⟨Nat.le_of_ble_eq_true rfl, Nat.le_of_ble_eq_true rfl⟩, Nat.le_of_ble_eq_true rfl, Nat.le_of_ble_eq_true rfl⟩ h 1 0 rfl rfl (xpl38 cI cO a _ _) (fun F' G' => xpr38 cI cO a _ _ F' G') (st := []) rfl rfl (Nat.le_of_ble_eq_true rfl) dX6_restore_32 rfl (fun F32 G32 h => ?_)
    obtain ⟨E32, eE32⟩ : ∃ x : xF, x = (xspl (xspl E21 29 1 F32) 31 1 (xsub F32 1)) := ⟨_, rfl⟩
    obtain ⟨H32, eH32⟩ : ∃ x : xA, x = (xspl (xspl H21 56 1 G32) 58 1 (xsub G32 1)) := ⟨_, rfl⟩
    refine x_weq (w' := w6 cI cO a E32 H32) (by subst eE32; subst eH32; rfl) ?_
    replace h := h E32 eE32
    replace h := h H32 eH32
    refine x_aload_n (pc' := 36) K dX6_restore_35 0 rfl rfl ?_
    refine xw6_0g_waiting (pc' := 39) K hinX6_restore_X6 uX6_restore_f25 dX6_restore_36 rfl ?_
    refine x_aload_n (pc' := 40) K dX6_restore_39 0 rfl rfl ?_
    refine xw6_0g_keptWaiting (pc' := 43) K hinX6_restore_X6 uX6_restore_f34 dX6_restore_40 rfl ?_
    refine x_subV (pc' := 46) (wn := fun F' G' => w6 cI cO a (xspl (xspl E32 30 1 F') 32 1 (xsub F' 1)) (xspl (xspl H32 57 1 G') 59 1 (xsub G' 1))) K (mX1_takeFrom l D cI cO (xcat 2 (xsub a 79) (xsub a 83)) 24 24) rfl gX6_restore_X1_takeFrom rfl dsX1_takeFrom ⟨rfl, rfl, ⟨Nat.le_of_ble_eq_true rfl, Nat.le_of_ble_eq_true rfl⟩, Nat.le_of_ble_eq_true rfl, Nat.le_of_ble_eq_true rfl⟩ h 1 0 rfl rfl (xpl39 cI cO a _ _) (fun F' G' => xpr39 cI cO a _ _ F' G') (st := []) rfl rfl (Nat.le_of_ble_eq_true rfl) dX6_restore_43 rfl (fun F43 G43 h => ?_)
    obtain ⟨E43, eE43⟩ : ∃ x : xF, x = (xspl (xspl E32 30 1 F43) 32 1 (xsub F43 1)) := ⟨_, rfl⟩
    obtain ⟨H43, eH43⟩ : ∃ x : xA, x = (xspl (xspl H32 57 1 G43) 59 1 (xsub G43 1)) := ⟨_, rfl⟩
    refine x_weq (w' := w6 cI cO a E43 H43) (by subst eE43; subst eH43; rfl) ?_
    replace h := h E43 eE43
    replace h := h H43 eH43
    refine x_aload_n (pc' := 47) K dX6_restore_46 0 rfl rfl ?_
    refine xw6_0g_now (pc' := 50) K hinX6_restore_X6 uX6_restore_f10 dX6_restore_47 rfl ?_
    refine xw6_1g_day (pc' := 53) K hinX6_restore_X5 uX6_restore_f163 dX6_restore_50 rfl ?_
    exact x_iret (wf := w6 cI cO a) K h dX6_restore_53
  · replace h := h.2 c4
    refine x_aload_n (pc' := 8) K dX6_restore_7 0 rfl rfl ?_
    refine x_iconst (pc' := 9) (v := 2) K dX6_restore_8 (by decide) rfl ?_
    refine x_callI (pc' := 12) K (mX6_error l D cI cO a _) rfl gX6_restore_X6_error rfl dsX6_error ⟨rfl, rfl, ⟨Nat.le_of_ble_eq_true rfl, Nat.le_of_ble_eq_true rfl⟩, Nat.le_of_ble_eq_true rfl, Nat.le_of_ble_eq_true rfl⟩ h 6 0 rfl rfl (st := []) rfl rfl (Nat.le_of_ble_eq_true rfl) dX6_restore_9 rfl (fun r9 F9 G9 h => ?_)
    exact x_iret (wf := w6 cI cO a) K h dX6_restore_12
/-! X6_tell -/
set_option maxHeartbeats 4000000 in
set_option maxRecDepth 100000 in
theorem xpl40 (cI : ClassId) (cO : ClassId) (a : Nat → Nat) (F : xF) (G : xA) : (w6 cI cO a F G).Perm (List.flatMap (bw6 cI cO a F G) [0, 1, 2, 3, 4, 5, 6, 7, 8, 9, 10, 11, 12, 13, 14, 15, 16, 17, 18, 19, 20, 21, 22, 23, 24, 25, 26, 27, 28, 29, 30, 31, 32, 33, 35, 36, 37, 38, 39, 40, 41, 42, 43, 44, 45, 46, 47, 48, 49, 50, 51, 52, 53] ++ w1 24 cI (xsub a 79) (xsub F 30) (xsub G 57)) := xpermF (bf := bw6 cI cO a F G) (ns := [0, 1, 2, 3, 4, 5, 6, 7, 8, 9, 10, 11, 12, 13, 14, 15, 16, 17, 18, 19, 20, 21, 22, 23, 24, 25, 26, 27, 28, 29, 30, 31, 32, 33, 34, 35, 36, 37, 38, 39, 40, 41, 42, 43, 44, 45, 46, 47, 48, 49, 50, 51, 52, 53]) rfl [0, 1, 2, 3, 4, 5, 6, 7, 8, 9, 10, 11, 12, 13, 14, 15, 16, 17, 18, 19, 20, 21, 22, 23, 24, 25, 26, 27, 28, 29, 30, 31, 32, 33, 35, 36, 37, 38, 39, 40, 41, 42, 43, 44, 45, 46, 47, 48, 49, 50, 51, 52, 53] [34] (by decide +kernel) rfl rfl
set_option maxHeartbeats 4000000 in
set_option maxRecDepth 100000 in
theorem xpr40 (cI : ClassId) (cO : ClassId) (a : Nat → Nat) (F : xF) (G : xA) (F' : xF) (G' : xA) : (w6 cI cO a (xspl F 30 1 F') (xspl G 57 1 G')).Perm (List.flatMap (bw6 cI cO a F G) [0, 1, 2, 3, 4, 5, 6, 7, 8, 9, 10, 11, 12, 13, 14, 15, 16, 17, 18, 19, 20, 21, 22, 23, 24, 25, 26, 27, 28, 29, 30, 31, 32, 33, 35, 36, 37, 38, 39, 40, 41, 42, 43, 44, 45, 46, 47, 48, 49, 50, 51, 52, 53] ++ w1 24 cI (xsub a 79) F' G') := xpermF (bf := bw6 cI cO a (xspl F 30 1 F') (xspl G 57 1 G')) (ns := [0, 1, 2, 3, 4, 5, 6, 7, 8, 9, 10, 11, 12, 13, 14, 15, 16, 17, 18, 19, 20, 21, 22, 23, 24, 25, 26, 27, 28, 29, 30, 31, 32, 33, 34, 35, 36, 37, 38, 39, 40, 41, 42, 43, 44, 45, 46, 47, 48, 49, 50, 51, 52, 53]) rfl [0, 1, 2, 3, 4, 5, 6, 7, 8, 9, 10, 11, 12, 13, 14, 15, 16, 17, 18, 19, 20, 21, 22, 23, 24, 25, 26, 27, 28, 29, 30, 31, 32, 33, 35, 36, 37, 38, 39, 40, 41, 42, 43, 44, 45, 46, 47, 48, 49, 50, 51, 52, 53] [34] (by decide +kernel) rfl rfl
abbrev rmX6_tell : Room := { frames := 3, cells := 0, slots := 0, locals := 81 }
theorem dsX6_tell : xDesc yX6_tell 1 := by decide +kernel
theorem uX6_tell_f25 : Cond.fieldLink RX6 25 "PigNinths" "waiting" "LPigNinths$Row;" ∈ wsX6_tell := nw_in nwl_X6_tell nwe_332 (by decide +kernel)
theorem hinX6_tell_X6 : ∀ w ∈ wsX60, w ∈ wsX6_tell := nw_all nwl_X6_tell nwl_X60 (by decide +kernel)
theorem uX6_tell_f135 : Cond.fieldLink RX6 135 "PigNinths$Row" "size" "I" ∈ wsX6_tell := nw_in nwl_X6_tell nwe_404 (by decide +kernel)
theorem hinX6_tell_X1 : ∀ w ∈ wsX10, w ∈ wsX6_tell := nw_all nwl_X6_tell nwl_X10 (by decide +kernel)
set_option maxHeartbeats 4000000 in
set_option maxRecDepth 100000 in
theorem mX6_tell (l : Launch) (D : va_G) (cI cO : ClassId) (a : Nat → Nat)  (x1 : Int32) : MI l yX6_tell wsX6_tell rmX6_tell D (xtys cI cO) [.ref (a 0), .int x1] (w6 cI cO a) (qX6_tell x1) := by
  refine MI_of (cc := cX6_tell) (maxL := 2) (own := RX6) (by decide) rfl rfl (Nat.le_of_ble_eq_true rfl) ?_
  intro p e s m args below meth c A F G Q h K
  refine x_locals [0, 1] (L' := [(0, .ref (a 0)), (1, .int _)]) rfl ?_
  refine x_aload_n (pc' := 1) K dX6_tell_0 0 rfl rfl ?_
  refine xw6_0g_waiting (pc' := 4) K hinX6_tell_X6 uX6_tell_f25 dX6_tell_1 rfl ?_
  refine xw6_79g_size (pc' := 7) K hinX6_tell_X1 uX6_tell_f135 dX6_tell_4 rfl ?_
  refine x_bipush (pc' := 9) (v := 24) K dX6_tell_7 (by decide) rfl ?_
  refine x_icmp_lt (tgt := 18) (pc' := 12) K dX6_tell_9 rfl rfl (fun c9 => ?_) (fun c9 => ?_)
  · replace h := h.1 c9
    refine x_aload_n (pc' := 19) K dX6_tell_18 0 rfl rfl ?_
    refine xw6_0g_waiting (pc' := 22) K hinX6_tell_X6 uX6_tell_f25 dX6_tell_19 rfl ?_
    refine x_iload_n (pc' := 23) K dX6_tell_22 1 rfl rfl ?_
    refine x_subV (pc' := 26) (wn := fun F' G' => w6 cI cO a (xspl F 30 1 F') (xspl G 57 1 G')) K (mX1_append l D cI cO (xsub a 79) 24 _) rfl gX6_tell_X1_append rfl dsX1_append ⟨rfl, rfl, ⟨Nat.le_of_ble_eq_true rfl, Nat.le_of_ble_eq_true rfl⟩, Nat.le_of_ble_eq_true rfl, Nat.le_of_ble_eq_true rfl⟩ h 1 0 rfl rfl (xpl40 cI cO a _ _) (fun F' G' => xpr40 cI cO a _ _ F' G') (st := []) rfl rfl (Nat.le_of_ble_eq_true rfl) dX6_tell_23 rfl (fun F23 G23 h => ?_)
    obtain ⟨E23, eE23⟩ : ∃ x : xF, x = (xspl F 30 1 F23) := ⟨_, rfl⟩
    obtain ⟨H23, eH23⟩ : ∃ x : xA, x = (xspl G 57 1 G23) := ⟨_, rfl⟩
    refine x_weq (w' := w6 cI cO a E23 H23) (by subst eE23; subst eH23; rfl) ?_
    replace h := h E23 eE23
    replace h := h H23 eH23
    refine x_aload_n (pc' := 27) K dX6_tell_26 0 rfl rfl ?_
    refine xw6_0g_waiting (pc' := 30) K hinX6_tell_X6 uX6_tell_f25 dX6_tell_27 rfl ?_
    refine xw6_79g_size (pc' := 33) K hinX6_tell_X1 uX6_tell_f135 dX6_tell_30 rfl ?_
    exact x_iret (wf := w6 cI cO a) K h dX6_tell_33
  · replace h := h.2 c9
    refine x_aload_n (pc' := 13) K dX6_tell_12 0 rfl rfl ?_
    refine x_iconst (pc' := 14) (v := 4) K dX6_tell_13 (by decide) rfl ?_
    refine x_callI (pc' := 17) K (mX6_error l D cI cO a _) rfl gX6_tell_X6_error rfl dsX6_error ⟨rfl, rfl, ⟨Nat.le_of_ble_eq_true rfl, Nat.le_of_ble_eq_true rfl⟩, Nat.le_of_ble_eq_true rfl, Nat.le_of_ble_eq_true rfl⟩ h 6 0 rfl rfl (st := []) rfl rfl (Nat.le_of_ble_eq_true rfl) dX6_tell_14 rfl (fun r14 F14 G14 h => ?_)
    exact x_iret (wf := w6 cI cO a) K h dX6_tell_17
/-! X6_count -/
abbrev rmX6_count : Room := { frames := 3, cells := 0, slots := 0, locals := 85 }
theorem dsX6_count : xDesc yX6_count 1 := by decide +kernel
theorem uX6_count_f10 : Cond.fieldLink RX6 10 "PigNinths" "now" "LPigNinths$World;" ∈ wsX6_count := nw_in nwl_X6_count nwe_329 (by decide +kernel)
theorem hinX6_count_X6 : ∀ w ∈ wsX60, w ∈ wsX6_count := nw_all nwl_X6_count nwl_X60 (by decide +kernel)
theorem uX6_count_f163 : Cond.fieldLink RX6 163 "PigNinths$World" "day" "I" ∈ wsX6_count := nw_in nwl_X6_count nwe_418 (by decide +kernel)
theorem hinX6_count_X5 : ∀ w ∈ wsX50, w ∈ wsX6_count := nw_all nwl_X6_count nwl_X50 (by decide +kernel)
theorem uX6_count_f129 : Cond.fieldLink RX6 129 "PigNinths$World" "place" "I" ∈ wsX6_count := nw_in nwl_X6_count nwe_401 (by decide +kernel)
theorem uX6_count_f132 : Cond.fieldLink RX6 132 "PigNinths$World" "hunger" "I" ∈ wsX6_count := nw_in nwl_X6_count nwe_402 (by decide +kernel)
theorem uX6_count_f102 : Cond.fieldLink RX6 102 "PigNinths$World" "rain" "I" ∈ wsX6_count := nw_in nwl_X6_count nwe_380 (by decide +kernel)
theorem uX6_count_f96 : Cond.fieldLink RX6 96 "PigNinths$World" "under" "[I" ∈ wsX6_count := nw_in nwl_X6_count nwe_369 (by decide +kernel)
theorem uX6_count_f195 : Cond.fieldLink RX6 195 "PigNinths$World" "purse" "[I" ∈ wsX6_count := nw_in nwl_X6_count nwe_452 (by decide +kernel)
theorem uX6_count_f257 : Cond.fieldLink RX6 257 "PigNinths$World" "hid" "[I" ∈ wsX6_count := nw_in nwl_X6_count nwe_510 (by decide +kernel)
theorem uX6_count_f21 : Cond.fieldLink RX6 21 "PigNinths" "tape" "LPigNinths$Row;" ∈ wsX6_count := nw_in nwl_X6_count nwe_331 (by decide +kernel)
theorem uX6_count_f135 : Cond.fieldLink RX6 135 "PigNinths$Row" "size" "I" ∈ wsX6_count := nw_in nwl_X6_count nwe_404 (by decide +kernel)
theorem hinX6_count_X1 : ∀ w ∈ wsX10, w ∈ wsX6_count := nw_all nwl_X6_count nwl_X10 (by decide +kernel)
theorem uX6_count_f25 : Cond.fieldLink RX6 25 "PigNinths" "waiting" "LPigNinths$Row;" ∈ wsX6_count := nw_in nwl_X6_count nwe_332 (by decide +kernel)
theorem uX6_count_f64 : Cond.fieldLink RX6 64 "PigNinths" "voices" "LPigNinths$Voices;" ∈ wsX6_count := nw_in nwl_X6_count nwe_346 (by decide +kernel)
theorem uX6_count_f225 : Cond.fieldLink RX6 225 "PigNinths$Voices" "trace" "LPigNinths$Row;" ∈ wsX6_count := nw_in nwl_X6_count nwe_483 (by decide +kernel)
theorem hinX6_count_X4 : ∀ w ∈ wsX40, w ∈ wsX6_count := nw_all nwl_X6_count nwl_X40 (by decide +kernel)
theorem uX6_count_f175 : Cond.fieldLink RX6 175 "PigNinths$World" "drawn" "I" ∈ wsX6_count := nw_in nwl_X6_count nwe_429 (by decide +kernel)
set_option maxHeartbeats 4000000 in
set_option maxRecDepth 100000 in
theorem mX6_count (l : Launch) (D : va_G) (cI cO : ClassId) (a : Nat → Nat)  (x1 : Int32) : MI l yX6_count wsX6_count rmX6_count D (xtys cI cO) [.ref (a 0), .int x1] (w6 cI cO a) (qX6_count x1) := by
  refine MI_of (cc := cX6_count) (maxL := 2) (own := RX6) (by decide) rfl rfl (Nat.le_of_ble_eq_true rfl) ?_
  intro p e s m args below meth c A F G Q h K
  refine x_locals [0, 1] (L' := [(0, .ref (a 0)), (1, .int _)]) rfl ?_
  refine x_iload_n (pc' := 1) K dX6_count_0 1 rfl rfl ?_
  refine (Classical.em (x1 = (0 : Int32))).elim (fun e1 => ?_) (fun e1_1 => ?_)
  · replace h := h.1 e1
    refine x_tableIn (tgt := 64) (off := 63) K dX6_count_1 (by rw [e1]; decide) (by rw [e1]; decide) (by rw [e1]; rfl) rfl ?_
    refine x_aload_n (pc' := 65) K dX6_count_64 0 rfl rfl ?_
    refine xw6_0g_now (pc' := 68) K hinX6_count_X6 uX6_count_f10 dX6_count_65 rfl ?_
    refine xw6_1g_day (pc' := 71) K hinX6_count_X5 uX6_count_f163 dX6_count_68 rfl ?_
    exact x_iret (wf := w6 cI cO a) K h dX6_count_71
  · replace h := h.2 e1_1
    refine (Classical.em (x1 = (1 : Int32))).elim (fun e1 => ?_) (fun e1_2 => ?_)
    · replace h := h.1 e1
      refine x_tableIn (tgt := 72) (off := 71) K dX6_count_1 (by rw [e1]; decide) (by rw [e1]; decide) (by rw [e1]; rfl) rfl ?_
      refine x_aload_n (pc' := 73) K dX6_count_72 0 rfl rfl ?_
      refine xw6_0g_now (pc' := 76) K hinX6_count_X6 uX6_count_f10 dX6_count_73 rfl ?_
      refine x_subI (pc' := 79) (wn := fun F' G' => w6 cI cO a (xspl F 0 7 F') (xspl G 0 14 G')) K (mX5_whoHasIt l D cI cO (xsub a 1)) rfl gX6_count_X5_whoHasIt rfl dsX5_whoHasIt ⟨rfl, rfl, ⟨Nat.le_of_ble_eq_true rfl, Nat.le_of_ble_eq_true rfl⟩, Nat.le_of_ble_eq_true rfl, Nat.le_of_ble_eq_true rfl⟩ h 5 0 rfl rfl (xpl24 cI cO a _ _) (fun F' G' => xpr24 cI cO a _ _ F' G') (st := []) rfl rfl (Nat.le_of_ble_eq_true rfl) dX6_count_76 rfl (fun r76 F76 G76 h => ?_)
      obtain ⟨E76, eE76⟩ : ∃ x : xF, x = (xspl F 0 7 F76) := ⟨_, rfl⟩
      obtain ⟨H76, eH76⟩ : ∃ x : xA, x = (xspl G 0 14 G76) := ⟨_, rfl⟩
      refine x_weq (w' := w6 cI cO a E76 H76) (by subst eE76; subst eH76; rfl) ?_
      replace h := h E76 eE76
      replace h := h H76 eH76
      exact x_iret (wf := w6 cI cO a) K h dX6_count_79
    · replace h := h.2 e1_2
      refine (Classical.em (x1 = (2 : Int32))).elim (fun e1 => ?_) (fun e1_3 => ?_)
      · replace h := h.1 e1
        refine x_tableIn (tgt := 80) (off := 79) K dX6_count_1 (by rw [e1]; decide) (by rw [e1]; decide) (by rw [e1]; rfl) rfl ?_
        refine x_aload_n (pc' := 81) K dX6_count_80 0 rfl rfl ?_
        refine xw6_0g_now (pc' := 84) K hinX6_count_X6 uX6_count_f10 dX6_count_81 rfl ?_
        refine xw6_1g_place (pc' := 87) K hinX6_count_X5 uX6_count_f129 dX6_count_84 rfl ?_
        exact x_iret (wf := w6 cI cO a) K h dX6_count_87
      · replace h := h.2 e1_3
        refine (Classical.em (x1 = (3 : Int32))).elim (fun e1 => ?_) (fun e1_4 => ?_)
        · replace h := h.1 e1
          refine x_tableIn (tgt := 88) (off := 87) K dX6_count_1 (by rw [e1]; decide) (by rw [e1]; decide) (by rw [e1]; rfl) rfl ?_
          refine x_aload_n (pc' := 89) K dX6_count_88 0 rfl rfl ?_
          refine xw6_0g_now (pc' := 92) K hinX6_count_X6 uX6_count_f10 dX6_count_89 rfl ?_
          refine xw6_1g_hunger (pc' := 95) K hinX6_count_X5 uX6_count_f132 dX6_count_92 rfl ?_
          exact x_iret (wf := w6 cI cO a) K h dX6_count_95
        · replace h := h.2 e1_4
          refine (Classical.em (x1 = (4 : Int32))).elim (fun e1 => ?_) (fun e1_5 => ?_)
          · replace h := h.1 e1
            refine x_tableIn (tgt := 96) (off := 95) K dX6_count_1 (by rw [e1]; decide) (by rw [e1]; decide) (by rw [e1]; rfl) rfl ?_
            refine x_aload_n (pc' := 97) K dX6_count_96 0 rfl rfl ?_
            refine xw6_0g_now (pc' := 100) K hinX6_count_X6 uX6_count_f10 dX6_count_97 rfl ?_
            refine xw6_1g_rain (pc' := 103) K hinX6_count_X5 uX6_count_f102 dX6_count_100 rfl ?_
            exact x_iret (wf := w6 cI cO a) K h dX6_count_103
          · replace h := h.2 e1_5
            refine (Classical.em (x1 = (5 : Int32))).elim (fun e1 => ?_) (fun e1_6 => ?_)
            · replace h := h.1 e1
              refine x_tableIn (tgt := 104) (off := 103) K dX6_count_1 (by rw [e1]; decide) (by rw [e1]; decide) (by rw [e1]; rfl) rfl ?_
              refine x_aload_n (pc' := 105) K dX6_count_104 0 rfl rfl ?_
              refine xw6_0g_now (pc' := 108) K hinX6_count_X6 uX6_count_f10 dX6_count_105 rfl ?_
              refine xw6_1g_under (pc' := 111) K hinX6_count_X5 uX6_count_f96 dX6_count_108 rfl ?_
              refine x_subIS (pc' := 114) (wn := fun F' G' => w6 cI cO a (xspl F 0 7 F') (xspl G 0 14 G')) K (mX6_sum_2 l D cI cO (xsub a 1)) rfl gX6_count_X6_sum dsX6_sum ⟨rfl, rfl, ⟨Nat.le_of_ble_eq_true rfl, Nat.le_of_ble_eq_true rfl⟩, Nat.le_of_ble_eq_true rfl, Nat.le_of_ble_eq_true rfl⟩ h (xpl24 cI cO a _ _) (fun F' G' => xpr24 cI cO a _ _ F' G') (st := []) rfl rfl (Nat.le_of_ble_eq_true rfl) dX6_count_111 rfl (fun r111 F111 G111 h => ?_)
              obtain ⟨E111, eE111⟩ : ∃ x : xF, x = (xspl F 0 7 F111) := ⟨_, rfl⟩
              obtain ⟨H111, eH111⟩ : ∃ x : xA, x = (xspl G 0 14 G111) := ⟨_, rfl⟩
              refine x_weq (w' := w6 cI cO a E111 H111) (by subst eE111; subst eH111; rfl) ?_
              replace h := h E111 eE111
              replace h := h H111 eH111
              exact x_iret (wf := w6 cI cO a) K h dX6_count_114
            · replace h := h.2 e1_6
              refine (Classical.em (x1 = (6 : Int32))).elim (fun e1 => ?_) (fun e1_7 => ?_)
              · replace h := h.1 e1
                refine x_tableIn (tgt := 115) (off := 114) K dX6_count_1 (by rw [e1]; decide) (by rw [e1]; decide) (by rw [e1]; rfl) rfl ?_
                refine x_aload_n (pc' := 116) K dX6_count_115 0 rfl rfl ?_
                refine xw6_0g_now (pc' := 119) K hinX6_count_X6 uX6_count_f10 dX6_count_116 rfl ?_
                refine xw6_1g_purse (pc' := 122) K hinX6_count_X5 uX6_count_f195 dX6_count_119 rfl ?_
                refine x_subIS (pc' := 125) (wn := fun F' G' => w6 cI cO a (xspl F 0 7 F') (xspl G 0 14 G')) K (mX6_sum_5 l D cI cO (xsub a 1)) rfl gX6_count_X6_sum dsX6_sum ⟨rfl, rfl, ⟨Nat.le_of_ble_eq_true rfl, Nat.le_of_ble_eq_true rfl⟩, Nat.le_of_ble_eq_true rfl, Nat.le_of_ble_eq_true rfl⟩ h (xpl24 cI cO a _ _) (fun F' G' => xpr24 cI cO a _ _ F' G') (st := []) rfl rfl (Nat.le_of_ble_eq_true rfl) dX6_count_122 rfl (fun r122 F122 G122 h => ?_)
                obtain ⟨E122, eE122⟩ : ∃ x : xF, x = (xspl F 0 7 F122) := ⟨_, rfl⟩
                obtain ⟨H122, eH122⟩ : ∃ x : xA, x = (xspl G 0 14 G122) := ⟨_, rfl⟩
                refine x_weq (w' := w6 cI cO a E122 H122) (by subst eE122; subst eH122; rfl) ?_
                replace h := h E122 eE122
                replace h := h H122 eH122
                exact x_iret (wf := w6 cI cO a) K h dX6_count_125
              · replace h := h.2 e1_7
                refine (Classical.em (x1 = (7 : Int32))).elim (fun e1 => ?_) (fun e1_8 => ?_)
                · replace h := h.1 e1
                  refine x_tableIn (tgt := 126) (off := 125) K dX6_count_1 (by rw [e1]; decide) (by rw [e1]; decide) (by rw [e1]; rfl) rfl ?_
                  refine x_aload_n (pc' := 127) K dX6_count_126 0 rfl rfl ?_
                  refine xw6_0g_now (pc' := 130) K hinX6_count_X6 uX6_count_f10 dX6_count_127 rfl ?_
                  refine xw6_1g_hid (pc' := 133) K hinX6_count_X5 uX6_count_f257 dX6_count_130 rfl ?_
                  refine x_subIS (pc' := 136) (wn := fun F' G' => w6 cI cO a (xspl F 0 7 F') (xspl G 0 14 G')) K (mX6_sum_6 l D cI cO (xsub a 1)) rfl gX6_count_X6_sum dsX6_sum ⟨rfl, rfl, ⟨Nat.le_of_ble_eq_true rfl, Nat.le_of_ble_eq_true rfl⟩, Nat.le_of_ble_eq_true rfl, Nat.le_of_ble_eq_true rfl⟩ h (xpl24 cI cO a _ _) (fun F' G' => xpr24 cI cO a _ _ F' G') (st := []) rfl rfl (Nat.le_of_ble_eq_true rfl) dX6_count_133 rfl (fun r133 F133 G133 h => ?_)
                  obtain ⟨E133, eE133⟩ : ∃ x : xF, x = (xspl F 0 7 F133) := ⟨_, rfl⟩
                  obtain ⟨H133, eH133⟩ : ∃ x : xA, x = (xspl G 0 14 G133) := ⟨_, rfl⟩
                  refine x_weq (w' := w6 cI cO a E133 H133) (by subst eE133; subst eH133; rfl) ?_
                  replace h := h E133 eE133
                  replace h := h H133 eH133
                  exact x_iret (wf := w6 cI cO a) K h dX6_count_136
                · replace h := h.2 e1_8
                  refine (Classical.em (x1 = (8 : Int32))).elim (fun e1 => ?_) (fun e1_9 => ?_)
                  · replace h := h.1 e1
                    refine x_tableIn (tgt := 137) (off := 136) K dX6_count_1 (by rw [e1]; decide) (by rw [e1]; decide) (by rw [e1]; rfl) rfl ?_
                    refine x_aload_n (pc' := 138) K dX6_count_137 0 rfl rfl ?_
                    refine xw6_0g_tape (pc' := 141) K hinX6_count_X6 uX6_count_f21 dX6_count_138 rfl ?_
                    refine xw6_77g_size (pc' := 144) K hinX6_count_X1 uX6_count_f135 dX6_count_141 rfl ?_
                    exact x_iret (wf := w6 cI cO a) K h dX6_count_144
                  · replace h := h.2 e1_9
                    refine (Classical.em (x1 = (9 : Int32))).elim (fun e1 => ?_) (fun e1_10 => ?_)
                    · replace h := h.1 e1
                      refine x_tableIn (tgt := 145) (off := 144) K dX6_count_1 (by rw [e1]; decide) (by rw [e1]; decide) (by rw [e1]; rfl) rfl ?_
                      refine x_aload_n (pc' := 146) K dX6_count_145 0 rfl rfl ?_
                      refine xw6_0g_waiting (pc' := 149) K hinX6_count_X6 uX6_count_f25 dX6_count_146 rfl ?_
                      refine xw6_79g_size (pc' := 152) K hinX6_count_X1 uX6_count_f135 dX6_count_149 rfl ?_
                      exact x_iret (wf := w6 cI cO a) K h dX6_count_152
                    · replace h := h.2 e1_10
                      refine (Classical.em (x1 = (10 : Int32))).elim (fun e1 => ?_) (fun e1_11 => ?_)
                      · replace h := h.1 e1
                        refine x_tableIn (tgt := 153) (off := 152) K dX6_count_1 (by rw [e1]; decide) (by rw [e1]; decide) (by rw [e1]; rfl) rfl ?_
                        refine x_aload_n (pc' := 154) K dX6_count_153 0 rfl rfl ?_
                        refine xw6_0g_voices (pc' := 157) K hinX6_count_X6 uX6_count_f64 dX6_count_154 rfl ?_
                        refine xw6_93g_trace (pc' := 160) K hinX6_count_X4 uX6_count_f225 dX6_count_157 rfl ?_
                        refine xw6_94g_size (pc' := 163) K hinX6_count_X1 uX6_count_f135 dX6_count_160 rfl ?_
                        exact x_iret (wf := w6 cI cO a) K h dX6_count_163
                      · replace h := h.2 e1_11
                        refine (Classical.em (x1 = (11 : Int32))).elim (fun e1 => ?_) (fun e1_12 => ?_)
                        · replace h := h.1 e1
                          refine x_tableIn (tgt := 164) (off := 163) K dX6_count_1 (by rw [e1]; decide) (by rw [e1]; decide) (by rw [e1]; rfl) rfl ?_
                          refine x_aload_n (pc' := 165) K dX6_count_164 0 rfl rfl ?_
                          refine xw6_0g_now (pc' := 168) K hinX6_count_X6 uX6_count_f10 dX6_count_165 rfl ?_
                          refine xw6_1g_drawn (pc' := 171) K hinX6_count_X5 uX6_count_f175 dX6_count_168 rfl ?_
                          exact x_iret (wf := w6 cI cO a) K h dX6_count_171
                        · replace h := h.2 e1_12
                          have f1_1 := xtin (i := 0) e1_1 (by decide)
                          have f1_2 := xtin (i := 1) e1_2 (by decide)
                          have f1_3 := xtin (i := 2) e1_3 (by decide)
                          have f1_4 := xtin (i := 3) e1_4 (by decide)
                          have f1_5 := xtin (i := 4) e1_5 (by decide)
                          have f1_6 := xtin (i := 5) e1_6 (by decide)
                          have f1_7 := xtin (i := 6) e1_7 (by decide)
                          have f1_8 := xtin (i := 7) e1_8 (by decide)
                          have f1_9 := xtin (i := 8) e1_9 (by decide)
                          have f1_10 := xtin (i := 9) e1_10 (by decide)
                          have f1_11 := xtin (i := 10) e1_11 (by decide)
                          have f1_12 := xtin (i := 11) e1_12 (by decide)
                          refine (Classical.em (x1.toInt < 0 ∨ 11 < x1.toInt)).elim (fun g1 => ?_) (fun g1 => ?_)
                          · refine x_tableOut (tgt := 172) K dX6_count_1 g1 rfl ?_
                            refine x_aload_n (pc' := 173) K dX6_count_172 0 rfl rfl ?_
                            refine x_iconst (pc' := 174) (v := 1) K dX6_count_173 (by decide) rfl ?_
                            refine x_callI (pc' := 177) K (mX6_error l D cI cO a _) rfl gX6_count_X6_error rfl dsX6_error ⟨rfl, rfl, ⟨Nat.le_of_ble_eq_true rfl, Nat.le_of_ble_eq_true rfl⟩, Nat.le_of_ble_eq_true rfl, Nat.le_of_ble_eq_true rfl⟩ h 6 0 rfl rfl (st := []) rfl rfl (Nat.le_of_ble_eq_true rfl) dX6_count_174 rfl (fun r174 F174 G174 h => ?_)
                            exact x_iret (wf := w6 cI cO a) K h dX6_count_177
                          · exact absurd g1 (by omega)
end
