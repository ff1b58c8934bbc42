section
variable {p : Program} {l : Launch} {e : Env} {s : State} {m : MethodId} {args : Array Value} {below : List Frame} {meth : Method} {c : Code} {D : va_G} {cI cO : ClassId} {A : Nat → Prop} {a : Nat → Nat} {d : Nat}
/-! X0_sees -/
set_option maxHeartbeats 4000000 in
set_option maxRecDepth 100000 in
theorem xpl7 (cI : ClassId) (a : Nat → Nat) (F : xF) (G : xA) : (w0 cI a F G).Perm (xpick (bw0 cI a F G) [0, 1] ++ w1 60 cI (xsub a 3) (xsub F 3) (xsub G 1)) := xperm0 (bl := bw0 cI a F G) (n := 3) rfl rfl [0, 1] [2] (by decide +kernel) rfl rfl
set_option maxHeartbeats 4000000 in
set_option maxRecDepth 100000 in
theorem xpr7 (cI : ClassId) (a : Nat → Nat) (F : xF) (G : xA) (F' : xF) (G' : xA) : (w0 cI a (xspl F 3 1 F') (xspl G 1 1 G')).Perm (xpick (bw0 cI a F G) [0, 1] ++ w1 60 cI (xsub a 3) F' G') := xperm0 (bl := bw0 cI a (xspl F 3 1 F') (xspl G 1 1 G')) (n := 3) rfl rfl [0, 1] [2] (by decide +kernel) rfl rfl
abbrev rmX0_sees : Room := { frames := 3, cells := 0, slots := 0, locals := 81 }
theorem dsX0_sees : xDesc yX0_sees 1 := by decide +kernel
theorem uX0_sees_f27 : Cond.fieldLink RX0 27 "PigNinths$Reader" "at" "I" ∈ wsX0_sees := nw_in nwl_X0_sees nwe_91 (by decide +kernel)
theorem hinX0_sees_X0 : ∀ w ∈ wsX00, w ∈ wsX0_sees := nw_all nwl_X0_sees nwl_X00 (by decide +kernel)
theorem uX0_sees_f20 : Cond.fieldLink RX0 20 "PigNinths$Reader" "bytes" "LPigNinths$Row;" ∈ wsX0_sees := nw_in nwl_X0_sees nwe_89 (by decide +kernel)
theorem uX0_sees_f34 : Cond.fieldLink RX0 34 "PigNinths$Row" "size" "I" ∈ wsX0_sees := nw_in nwl_X0_sees nwe_104 (by decide +kernel)
theorem hinX0_sees_X1 : ∀ w ∈ wsX10, w ∈ wsX0_sees := nw_all nwl_X0_sees nwl_X10 (by decide +kernel)
set_option maxHeartbeats 4000000 in
set_option maxRecDepth 100000 in
theorem mX0_sees (l : Launch) (D : va_G) (cI cO : ClassId) (a : Nat → Nat)  (x1 : Int32) : MI l yX0_sees wsX0_sees rmX0_sees D (xtys cI cO) [.ref (a 0), .int x1] (w0 cI a) (qX0_sees x1) := by
  refine MZ_of (cc := cX0_sees) (maxL := 2) (own := RX0) (by decide) rfl rfl (Nat.le_of_ble_eq_true rfl) ?_
  intro p e s m args below meth c A F G Q h K
  refine x_locals [0, 1] (L' := [(0, .ref (a 0)), (1, .int _)]) rfl ?_
  refine x_aload_n (pc' := 1) K dX0_sees_0 0 rfl rfl ?_
  refine xw0_0g_at (pc' := 4) K hinX0_sees_X0 uX0_sees_f27 dX0_sees_1 rfl ?_
  refine x_aload_n (pc' := 5) K dX0_sees_4 0 rfl rfl ?_
  refine xw0_0g_bytes (pc' := 8) K hinX0_sees_X0 uX0_sees_f20 dX0_sees_5 rfl ?_
  refine xw0_3g_size (pc' := 11) K hinX0_sees_X1 uX0_sees_f34 dX0_sees_8 rfl ?_
  refine x_icmp_ge (tgt := 33) (pc' := 14) K dX0_sees_11 rfl rfl (fun c11 => ?_) (fun c11 => ?_)
  · replace h := h.1 c11
    refine x_iconst (pc' := 34) (v := 0) K dX0_sees_33 (by decide) rfl ?_
    exact x_zret (wf := w0 cI a) K (Or.inl rfl) h dX0_sees_34
  · replace h := h.2 c11
    refine x_aload_n (pc' := 15) K dX0_sees_14 0 rfl rfl ?_
    refine xw0_0g_bytes (pc' := 18) K hinX0_sees_X0 uX0_sees_f20 dX0_sees_15 rfl ?_
    refine x_aload_n (pc' := 19) K dX0_sees_18 0 rfl rfl ?_
    refine xw0_0g_at (pc' := 22) K hinX0_sees_X0 uX0_sees_f27 dX0_sees_19 rfl ?_
    refine x_subI (pc' := 25) (wn := fun F' G' => w0 cI a (xspl F 3 1 F') (xspl G 1 1 G')) K (mX1_at l D cI cO (xsub a 3) 60 _) rfl gX0_sees_X1_at rfl dsX1_at ⟨rfl, rfl, ⟨Nat.le_of_ble_eq_true rfl, Nat.le_of_ble_eq_true rfl⟩, Nat.le_of_ble_eq_true rfl, Nat.le_of_ble_eq_true rfl⟩ h 1 0 rfl rfl (xpl7 cI a _ _) (fun F' G' => xpr7 cI a _ _ F' G') (st := []) rfl rfl (Nat.le_of_ble_eq_true rfl) dX0_sees_22 rfl (fun r22 F22 G22 h => ?_)
    obtain ⟨E22, eE22⟩ : ∃ x : xF, x = (xspl F 3 1 F22) := ⟨_, rfl⟩
    obtain ⟨H22, eH22⟩ : ∃ x : xA, x = (xspl G 1 1 G22) := ⟨_, rfl⟩
    refine x_weq (w' := w0 cI a E22 H22) (by subst eE22; subst eH22; rfl) ?_
    replace h := h E22 eE22
    replace h := h H22 eH22
    refine x_iload_n (pc' := 26) K dX0_sees_25 1 rfl rfl ?_
    refine x_icmp_ne (tgt := 33) (pc' := 29) K dX0_sees_26 rfl rfl (fun c26 => ?_) (fun c26 => ?_)
    · replace h := h.1 c26
      refine x_iconst (pc' := 34) (v := 0) K dX0_sees_33 (by decide) rfl ?_
      exact x_zret (wf := w0 cI a) K (Or.inl rfl) h dX0_sees_34
    · replace h := h.2 c26
      refine x_iconst (pc' := 30) (v := 1) K dX0_sees_29 (by decide) rfl ?_
      refine x_goto (tgt := 34) K dX0_sees_30 rfl ?_
      exact x_zret (wf := w0 cI a) K (Or.inr rfl) h dX0_sees_34
/-! X0_seesDigit -/
abbrev rmX0_seesDigit : Room := { frames := 3, cells := 0, slots := 0, locals := 81 }
theorem dsX0_seesDigit : xDesc yX0_seesDigit 0 := by decide +kernel
theorem uX0_seesDigit_f27 : Cond.fieldLink RX0 27 "PigNinths$Reader" "at" "I" ∈ wsX0_seesDigit := nw_in nwl_X0_seesDigit nwe_91 (by decide +kernel)
theorem hinX0_seesDigit_X0 : ∀ w ∈ wsX00, w ∈ wsX0_seesDigit := nw_all nwl_X0_seesDigit nwl_X00 (by decide +kernel)
theorem uX0_seesDigit_f20 : Cond.fieldLink RX0 20 "PigNinths$Reader" "bytes" "LPigNinths$Row;" ∈ wsX0_seesDigit := nw_in nwl_X0_seesDigit nwe_89 (by decide +kernel)
theorem uX0_seesDigit_f34 : Cond.fieldLink RX0 34 "PigNinths$Row" "size" "I" ∈ wsX0_seesDigit := nw_in nwl_X0_seesDigit nwe_104 (by decide +kernel)
theorem hinX0_seesDigit_X1 : ∀ w ∈ wsX10, w ∈ wsX0_seesDigit := nw_all nwl_X0_seesDigit nwl_X10 (by decide +kernel)
set_option maxHeartbeats 4000000 in
set_option maxRecDepth 100000 in
theorem mX0_seesDigit (l : Launch) (D : va_G) (cI cO : ClassId) (a : Nat → Nat)   : MI l yX0_seesDigit wsX0_seesDigit rmX0_seesDigit D (xtys cI cO) [.ref (a 0)] (w0 cI a) qX0_seesDigit := by
  refine MZ_of (cc := cX0_seesDigit) (maxL := 1) (own := RX0) (by decide) rfl rfl (Nat.le_of_ble_eq_true rfl) ?_
  intro p e s m args below meth c A F G Q h K
  refine x_locals [0] (L' := [(0, .ref (a 0))]) rfl ?_
  refine x_aload_n (pc' := 1) K dX0_seesDigit_0 0 rfl rfl ?_
  refine xw0_0g_at (pc' := 4) K hinX0_seesDigit_X0 uX0_seesDigit_f27 dX0_seesDigit_1 rfl ?_
  refine x_aload_n (pc' := 5) K dX0_seesDigit_4 0 rfl rfl ?_
  refine xw0_0g_bytes (pc' := 8) K hinX0_seesDigit_X0 uX0_seesDigit_f20 dX0_seesDigit_5 rfl ?_
  refine xw0_3g_size (pc' := 11) K hinX0_seesDigit_X1 uX0_seesDigit_f34 dX0_seesDigit_8 rfl ?_
  refine x_icmp_ge (tgt := 50) (pc' := 14) K dX0_seesDigit_11 rfl rfl (fun c11 => ?_) (fun c11 => ?_)
  · replace h := h.1 c11
    refine x_iconst (pc' := 51) (v := 0) K dX0_seesDigit_50 (by decide) rfl ?_
    exact x_zret (wf := w0 cI a) K (Or.inl rfl) h dX0_seesDigit_51
  · replace h := h.2 c11
    refine x_aload_n (pc' := 15) K dX0_seesDigit_14 0 rfl rfl ?_
    refine xw0_0g_bytes (pc' := 18) K hinX0_seesDigit_X0 uX0_seesDigit_f20 dX0_seesDigit_15 rfl ?_
    refine x_aload_n (pc' := 19) K dX0_seesDigit_18 0 rfl rfl ?_
    refine xw0_0g_at (pc' := 22) K hinX0_seesDigit_X0 uX0_seesDigit_f27 dX0_seesDigit_19 rfl ?_
    refine x_subI (pc' := 25) (wn := fun F' G' => w0 cI a (xspl F 3 1 F') (xspl G 1 1 G')) K (mX1_at l D cI cO (xsub a 3) 60 _) rfl gX0_seesDigit_X1_at rfl dsX1_at ⟨rfl, rfl, ⟨Nat.le_of_ble_eq_true rfl, Nat.le_of_ble_eq_true rfl⟩, Nat.le_of_ble_eq_true rfl, Nat.le_of_ble_eq_true rfl⟩ h 1 0 rfl rfl (xpl7 cI a _ _) (fun F' G' => xpr7 cI a _ _ F' G') (st := []) rfl rfl (Nat.le_of_ble_eq_true rfl) dX0_seesDigit_22 rfl (fun r22 F22 G22 h => ?_)
    obtain ⟨E22, eE22⟩ : ∃ x : xF, x = (xspl F 3 1 F22) := ⟨_, rfl⟩
    obtain ⟨H22, eH22⟩ : ∃ x : xA, x = (xspl G 1 1 G22) := ⟨_, rfl⟩
    refine x_weq (w' := w0 cI a E22 H22) (by subst eE22; subst eH22; rfl) ?_
    replace h := h E22 eE22
    replace h := h H22 eH22
    refine x_bipush (pc' := 27) (v := 48) K dX0_seesDigit_25 (by decide) rfl ?_
    refine x_icmp_lt (tgt := 50) (pc' := 30) K dX0_seesDigit_27 rfl rfl (fun c27 => ?_) (fun c27 => ?_)
    · replace h := h.1 c27
      refine x_iconst (pc' := 51) (v := 0) K dX0_seesDigit_50 (by decide) rfl ?_
      exact x_zret (wf := w0 cI a) K (Or.inl rfl) h dX0_seesDigit_51
    · replace h := h.2 c27
      refine x_aload_n (pc' := 31) K dX0_seesDigit_30 0 rfl rfl ?_
      refine xw0_0g_bytes (pc' := 34) K hinX0_seesDigit_X0 uX0_seesDigit_f20 dX0_seesDigit_31 rfl ?_
      refine x_aload_n (pc' := 35) K dX0_seesDigit_34 0 rfl rfl ?_
      refine xw0_0g_at (pc' := 38) K hinX0_seesDigit_X0 uX0_seesDigit_f27 dX0_seesDigit_35 rfl ?_
      refine x_subI (pc' := 41) (wn := fun F' G' => w0 cI a (xspl E22 3 1 F') (xspl H22 1 1 G')) K (mX1_at l D cI cO (xsub a 3) 60 _) rfl gX0_seesDigit_X1_at rfl dsX1_at ⟨rfl, rfl, ⟨Nat.le_of_ble_eq_true rfl, Nat.le_of_ble_eq_true rfl⟩, Nat.le_of_ble_eq_true rfl, Nat.le_of_ble_eq_true rfl⟩ h 1 0 rfl rfl (xpl7 cI a _ _) (fun F' G' => xpr7 cI a _ _ F' G') (st := []) rfl rfl (Nat.le_of_ble_eq_true rfl) dX0_seesDigit_38 rfl (fun r38 F38 G38 h => ?_)
      obtain ⟨E38, eE38⟩ : ∃ x : xF, x = (xspl E22 3 1 F38) := ⟨_, rfl⟩
      obtain ⟨H38, eH38⟩ : ∃ x : xA, x = (xspl H22 1 1 G38) := ⟨_, rfl⟩
      refine x_weq (w' := w0 cI a E38 H38) (by subst eE38; subst eH38; rfl) ?_
      replace h := h E38 eE38
      replace h := h H38 eH38
      refine x_bipush (pc' := 43) (v := 57) K dX0_seesDigit_41 (by decide) rfl ?_
      refine x_icmp_gt (tgt := 50) (pc' := 46) K dX0_seesDigit_43 rfl rfl (fun c43 => ?_) (fun c43 => ?_)
      · replace h := h.1 c43
        refine x_iconst (pc' := 51) (v := 0) K dX0_seesDigit_50 (by decide) rfl ?_
        exact x_zret (wf := w0 cI a) K (Or.inl rfl) h dX0_seesDigit_51
      · replace h := h.2 c43
        refine x_iconst (pc' := 47) (v := 1) K dX0_seesDigit_46 (by decide) rfl ?_
        refine x_goto (tgt := 51) K dX0_seesDigit_47 rfl ?_
        exact x_zret (wf := w0 cI a) K (Or.inr rfl) h dX0_seesDigit_51
/-! X0_number -/
set_option maxHeartbeats 4000000 in
set_option maxRecDepth 100000 in
theorem xpl8 (cI : ClassId) (a : Nat → Nat) (F : xF) (G : xA) : (w0 cI a F G).Perm (xpick (bw0 cI a F G) [0, 2] ++ w1 60 cI (xsub a 1) (xsub F 2) (xsub G 0)) := xperm0 (bl := bw0 cI a F G) (n := 3) rfl rfl [0, 2] [1] (by decide +kernel) rfl rfl
set_option maxHeartbeats 4000000 in
set_option maxRecDepth 100000 in
theorem xpr8 (cI : ClassId) (a : Nat → Nat) (F : xF) (G : xA) (F' : xF) (G' : xA) : (w0 cI a (xspl F 2 1 F') (xspl G 0 1 G')).Perm (xpick (bw0 cI a F G) [0, 2] ++ w1 60 cI (xsub a 1) F' G') := xperm0 (bl := bw0 cI a (xspl F 2 1 F') (xspl G 0 1 G')) (n := 3) rfl rfl [0, 2] [1] (by decide +kernel) rfl rfl
abbrev rmX0_number : Room := { frames := 4, cells := 0, slots := 0, locals := 101 }
theorem dsX0_number : xDesc yX0_number 0 := by decide +kernel
theorem uX0_number_f14 : Cond.fieldLink RX0 14 "PigNinths$Reader" "code" "LPigNinths$Row;" ∈ wsX0_number := nw_in nwl_X0_number nwe_88 (by decide +kernel)
theorem hinX0_number_X0 : ∀ w ∈ wsX00, w ∈ wsX0_number := nw_all nwl_X0_number nwl_X00 (by decide +kernel)
theorem uX0_number_f20 : Cond.fieldLink RX0 20 "PigNinths$Reader" "bytes" "LPigNinths$Row;" ∈ wsX0_number := nw_in nwl_X0_number nwe_89 (by decide +kernel)
theorem uX0_number_f27 : Cond.fieldLink RX0 27 "PigNinths$Reader" "at" "I" ∈ wsX0_number := nw_in nwl_X0_number nwe_91 (by decide +kernel)
set_option maxHeartbeats 4000000 in
set_option maxRecDepth 100000 in
theorem tX0_number_4 (K : XK p m c cX0_number 3 s args wsX0_number RX0 D (xtys cI cO) A meth none) {Q : xF → xA → Prop} : ∀ (n : Nat), ∀ (x1 : Int32) (x2 : Int32) (F : xF) (G : xA), qX0_number_4 Q n x1 x2 F G → XJ p l e rmX0_number s m args below meth c 0 0 (MQ below (xQv D (w0 cI a) A Q) args s 0 0 A) D (xtys cI cO) A 3 (w0 cI a F G) 4 [(0, .ref (a 0)), (1, .int x1), (2, .int x2)] [] := by
  intro n
  induction n with
  | zero =>
    intro x1 x2 F G h
    exact False.elim h
  | succ n ih =>
    intro x1 x2 F G h
    refine x_iload_n (pc' := 5) K dX0_number_4 2 rfl rfl ?_
    refine x_iconst (pc' := 6) (v := 4) K dX0_number_5 (by decide) rfl ?_
    refine x_icmp_ge (tgt := 52) (pc' := 9) K dX0_number_6 rfl rfl (fun c6 => ?_) (fun c6 => ?_)
    · replace h := h.1 c6
      refine x_aload_n (pc' := 53) K dX0_number_52 0 rfl rfl ?_
      refine xw0_0g_code (pc' := 56) K hinX0_number_X0 uX0_number_f14 dX0_number_53 rfl ?_
      refine x_iload_n (pc' := 57) K dX0_number_56 1 rfl rfl ?_
      refine x_subV (pc' := 60) (wn := fun F' G' => w0 cI a (xspl F 2 1 F') (xspl G 0 1 G')) K (mX1_append l D cI cO (xsub a 1) 60 _) rfl gX0_number_X1_append rfl dsX1_append ⟨rfl, rfl, ⟨Nat.le_of_ble_eq_true rfl, Nat.le_of_ble_eq_true rfl⟩, Nat.le_of_ble_eq_true rfl, Nat.le_of_ble_eq_true rfl⟩ h 1 0 rfl rfl (xpl8 cI a _ _) (fun F' G' => xpr8 cI a _ _ F' G') (st := []) rfl rfl (Nat.le_of_ble_eq_true rfl) dX0_number_57 rfl (fun F57 G57 h => ?_)
      obtain ⟨E57, eE57⟩ : ∃ x : xF, x = (xspl F 2 1 F57) := ⟨_, rfl⟩
      obtain ⟨H57, eH57⟩ : ∃ x : xA, x = (xspl G 0 1 G57) := ⟨_, rfl⟩
      refine x_weq (w' := w0 cI a E57 H57) (by subst eE57; subst eH57; rfl) ?_
      replace h := h E57 eE57
      replace h := h H57 eH57
      exact x_vret (wf := w0 cI a) K h dX0_number_60
    · replace h := h.2 c6
      refine x_aload_n (pc' := 10) K dX0_number_9 0 rfl rfl ?_
      refine x_callI (pc' := 13) K (mX0_seesDigit l D cI cO a) rfl gX0_number_X0_seesDigit rfl dsX0_seesDigit ⟨rfl, rfl, ⟨Nat.le_of_ble_eq_true rfl, Nat.le_of_ble_eq_true rfl⟩, Nat.le_of_ble_eq_true rfl, Nat.le_of_ble_eq_true rfl⟩ h 0 0 rfl rfl (st := []) rfl rfl (Nat.le_of_ble_eq_true rfl) dX0_number_10 rfl (fun r10 F10 G10 h => ?_)
      refine x_if_eq (tgt := 52) (pc' := 16) K dX0_number_13 rfl rfl (fun c13 => ?_) (fun c13 => ?_)
      · replace h := h.1 c13
        refine x_aload_n (pc' := 53) K dX0_number_52 0 rfl rfl ?_
        refine xw0_0g_code (pc' := 56) K hinX0_number_X0 uX0_number_f14 dX0_number_53 rfl ?_
        refine x_iload_n (pc' := 57) K dX0_number_56 1 rfl rfl ?_
        refine x_subV (pc' := 60) (wn := fun F' G' => w0 cI a (xspl F10 2 1 F') (xspl G10 0 1 G')) K (mX1_append l D cI cO (xsub a 1) 60 _) rfl gX0_number_X1_append rfl dsX1_append ⟨rfl, rfl, ⟨Nat.le_of_ble_eq_true rfl, Nat.le_of_ble_eq_true rfl⟩, Nat.le_of_ble_eq_true rfl, Nat.le_of_ble_eq_true rfl⟩ h 1 0 rfl rfl (xpl8 cI a _ _) (fun F' G' => xpr8 cI a _ _ F' G') (st := []) rfl rfl (Nat.le_of_ble_eq_true rfl) dX0_number_57 rfl (fun F57 G57 h => ?_)
        obtain ⟨E57, eE57⟩ : ∃ x : xF, x = (xspl F10 2 1 F57) := ⟨_, rfl⟩
        obtain ⟨H57, eH57⟩ : ∃ x : xA, x = (xspl G10 0 1 G57) := ⟨_, rfl⟩
        refine x_weq (w' := w0 cI a E57 H57) (by subst eE57; subst eH57; rfl) ?_
        replace h := h E57 eE57
        replace h := h H57 eH57
        exact x_vret (wf := w0 cI a) K h dX0_number_60
      · replace h := h.2 c13
        refine x_bipush (pc' := 18) (v := 10) K dX0_number_16 (by decide) rfl ?_
        refine x_iload_n (pc' := 19) K dX0_number_18 1 rfl rfl ?_
        refine x_imul (pc' := 20) K dX0_number_19 rfl ?_
        refine x_aload_n (pc' := 21) K dX0_number_20 0 rfl rfl ?_
        refine xw0_0g_bytes (pc' := 24) K hinX0_number_X0 uX0_number_f20 dX0_number_21 rfl ?_
        refine x_aload_n (pc' := 25) K dX0_number_24 0 rfl rfl ?_
        refine xw0_0g_at (pc' := 28) K hinX0_number_X0 uX0_number_f27 dX0_number_25 rfl ?_
        refine x_subI (pc' := 31) (wn := fun F' G' => w0 cI a (xspl F10 3 1 F') (xspl G10 1 1 G')) K (mX1_at l D cI cO (xsub a 3) 60 _) rfl gX0_number_X1_at rfl dsX1_at ⟨rfl, rfl, ⟨Nat.le_of_ble_eq_true rfl, Nat.le_of_ble_eq_true rfl⟩, Nat.le_of_ble_eq_true rfl, Nat.le_of_ble_eq_true rfl⟩ h 1 0 rfl rfl (xpl7 cI a _ _) (fun F' G' => xpr7 cI a _ _ F' G') (st := [.int _]) rfl rfl (Nat.le_of_ble_eq_true rfl) dX0_number_28 rfl (fun r28 F28 G28 h => ?_)
        obtain ⟨E28, eE28⟩ : ∃ x : xF, x = (xspl F10 3 1 F28) := ⟨_, rfl⟩
        obtain ⟨H28, eH28⟩ : ∃ x : xA, x = (xspl G10 1 1 G28) := ⟨_, rfl⟩
        refine x_weq (w' := w0 cI a E28 H28) (by subst eE28; subst eH28; rfl) ?_
        replace h := h E28 eE28
        replace h := h H28 eH28
        refine x_iadd (pc' := 32) K dX0_number_31 rfl ?_
        refine x_bipush (pc' := 34) (v := 48) K dX0_number_32 (by decide) rfl ?_
        refine x_isub (pc' := 35) K dX0_number_34 rfl ?_
        refine x_istore_n (pc' := 36) (i := 1) K dX0_number_35 rfl (by decide) [1, 0, 2] (L' := [(0, .ref (a 0)), (1, .int _), (2, .int _)]) rfl rfl ?_
        refine x_aload_n (pc' := 37) K dX0_number_36 0 rfl rfl ?_
        refine x_dup (pc' := 38) K dX0_number_37 rfl rfl ?_
        refine xw0_0g_at (pc' := 41) K hinX0_number_X0 uX0_number_f27 dX0_number_38 rfl ?_
        refine x_iconst (pc' := 42) (v := 1) K dX0_number_41 (by decide) rfl ?_
        refine x_iadd (pc' := 43) K dX0_number_42 rfl ?_
        refine xw0_0p_at (pc' := 46) K hinX0_number_X0 uX0_number_f27 dX0_number_43 rfl (fun F43 eF43 => ?_)
        replace h := h F43 eF43
        refine x_iinc (pc' := 49) (v := _ + (1 : Int32)) K dX0_number_46 2 rfl rfl (by decide) [1, 2, 0] (L' := [(0, .ref (a 0)), (1, .int _), (2, .int _)]) rfl rfl ?_
        refine x_goto (tgt := 4) K dX0_number_49 rfl ?_
        exact ih _ _ _ _ h
set_option maxHeartbeats 4000000 in
set_option maxRecDepth 100000 in
theorem mX0_number (l : Launch) (D : va_G) (cI cO : ClassId) (a : Nat → Nat)   : MV l yX0_number wsX0_number rmX0_number D (xtys cI cO) [.ref (a 0)] (w0 cI a) qX0_number := by
  refine MV_of (cc := cX0_number) (maxL := 3) (own := RX0) (by decide) rfl rfl (Nat.le_of_ble_eq_true rfl) ?_
  intro p e s m args below meth c A F G Q h K
  refine x_locals [0] (L' := [(0, .ref (a 0))]) rfl ?_
  refine x_iconst (pc' := 1) (v := 0) K dX0_number_0 (by decide) rfl ?_
  refine x_istore_n (pc' := 2) (i := 1) K dX0_number_1 rfl (by decide) [1, 0] (L' := [(0, .ref (a 0)), (1, .int _)]) rfl rfl ?_
  refine x_iconst (pc' := 3) (v := 0) K dX0_number_2 (by decide) rfl ?_
  refine x_istore_n (pc' := 4) (i := 2) K dX0_number_3 rfl (by decide) [1, 2, 0] (L' := [(0, .ref (a 0)), (1, .int _), (2, .int _)]) rfl rfl ?_
  obtain ⟨n4, h⟩ := h
  exact tX0_number_4 K n4 _ _ _ _ h
/-! X0_readsName -/
abbrev rmX0_readsName : Room := { frames := 4, cells := 0, slots := 0, locals := 102 }
theorem dsX0_readsName : xDesc yX0_readsName 0 := by decide +kernel
theorem uX0_readsName_f81 : Cond.fieldLink RX0 81 "PigNinths$Reader" "NAMES_OF_USES" "[C" ∈ wsX0_readsName := nw_in nwl_X0_readsName nwe_119 (by decide +kernel)
theorem uX0_readsName_f23 : Cond.fieldLink RX0 23 "PigNinths$Reader" "names" "I" ∈ wsX0_readsName := nw_in nwl_X0_readsName nwe_90 (by decide +kernel)
theorem hinX0_readsName_X0 : ∀ w ∈ wsX00, w ∈ wsX0_readsName := nw_all nwl_X0_readsName nwl_X00 (by decide +kernel)
theorem uX0_readsName_f14 : Cond.fieldLink RX0 14 "PigNinths$Reader" "code" "LPigNinths$Row;" ∈ wsX0_readsName := nw_in nwl_X0_readsName nwe_88 (by decide +kernel)
theorem uX0_readsName_f27 : Cond.fieldLink RX0 27 "PigNinths$Reader" "at" "I" ∈ wsX0_readsName := nw_in nwl_X0_readsName nwe_91 (by decide +kernel)
set_option maxHeartbeats 4000000 in
set_option maxRecDepth 100000 in
theorem tX0_readsName_2 (K : XK p m c cX0_readsName 2 s args wsX0_readsName RX0 D (xtys cI cO) A meth (some .boolean)) {Q : Int32 → xF → xA → Prop} : ∀ (n : Nat), ∀ (x1 : Int32) (F : xF) (G : xA), qX0_readsName_2 Q n x1 F G → XJ p l e rmX0_readsName s m args below meth c 0 0 (MQ below (xQi D (w0 cI a) A Q) args s 0 0 A) D (xtys cI cO) A 2 (w0 cI a F G) 2 [(0, .ref (a 0)), (1, .int x1)] [] := by
  intro n
  induction n with
  | zero =>
    intro x1 F G h
    exact False.elim h
  | succ n ih =>
    intro x1 F G h
    refine x_iload_n (pc' := 3) K dX0_readsName_2 1 rfl rfl ?_
    refine x_iconst (pc' := 4) (v := 3) K dX0_readsName_3 (by decide) rfl ?_
    refine x_icmp_ge (tgt := 54) (pc' := 7) K dX0_readsName_4 rfl rfl (fun c4 => ?_) (fun c4 => ?_)
    · replace h := h.1 c4
      refine x_iconst (pc' := 55) (v := 0) K dX0_readsName_54 (by decide) rfl ?_
      exact x_zret (wf := w0 cI a) K (Or.inl rfl) h dX0_readsName_55
    · replace h := h.2 c4
      refine x_aload_n (pc' := 8) K dX0_readsName_7 0 rfl rfl ?_
      refine x_tab (pc' := 11) K K.2.2.2.1.2.2.2 uX0_readsName_f81 dX0_readsName_8 rfl (fun t8 ht8 => ?_)
      refine x_aload_n (pc' := 12) K dX0_readsName_11 0 rfl rfl ?_
      refine xw0_0g_names (pc' := 15) K hinX0_readsName_X0 uX0_readsName_f23 dX0_readsName_12 rfl ?_
      refine x_iload_n (pc' := 16) K dX0_readsName_15 1 rfl rfl ?_
      refine x_iadd (pc' := 17) K dX0_readsName_16 rfl ?_
      obtain ⟨i17, h⟩ := h
      refine x_tabc (pc' := 18) K ht8 i17 dX0_readsName_17 rfl ?_
      refine x_callI (pc' := 21) K (mX0_sees l D cI cO a _) rfl gX0_readsName_X0_sees rfl dsX0_sees ⟨rfl, rfl, ⟨Nat.le_of_ble_eq_true rfl, Nat.le_of_ble_eq_true rfl⟩, Nat.le_of_ble_eq_true rfl, Nat.le_of_ble_eq_true rfl⟩ h 0 0 rfl rfl (st := []) rfl rfl (Nat.le_of_ble_eq_true rfl) dX0_readsName_18 rfl (fun r18 F18 G18 h => ?_)
      refine x_if_eq (tgt := 48) (pc' := 24) K dX0_readsName_21 rfl rfl (fun c21 => ?_) (fun c21 => ?_)
      · replace h := h.1 c21
        refine x_iinc (pc' := 51) (v := _ + (1 : Int32)) K dX0_readsName_48 1 rfl rfl (by decide) [1, 0] (L' := [(0, .ref (a 0)), (1, .int _)]) rfl rfl ?_
        refine x_goto (tgt := 2) K dX0_readsName_51 rfl ?_
        exact ih _ _ _ h
      · replace h := h.2 c21
        refine x_aload_n (pc' := 25) K dX0_readsName_24 0 rfl rfl ?_
        refine xw0_0g_code (pc' := 28) K hinX0_readsName_X0 uX0_readsName_f14 dX0_readsName_25 rfl ?_
        refine x_sipush (pc' := 31) (v := 10000) K dX0_readsName_28 (by decide) rfl ?_
        refine x_iload_n (pc' := 32) K dX0_readsName_31 1 rfl rfl ?_
        refine x_iadd (pc' := 33) K dX0_readsName_32 rfl ?_
        refine x_subV (pc' := 36) (wn := fun F' G' => w0 cI a (xspl F18 2 1 F') (xspl G18 0 1 G')) K (mX1_append l D cI cO (xsub a 1) 60 _) rfl gX0_readsName_X1_append rfl dsX1_append ⟨rfl, rfl, ⟨Nat.le_of_ble_eq_true rfl, Nat.le_of_ble_eq_true rfl⟩, Nat.le_of_ble_eq_true rfl, Nat.le_of_ble_eq_true rfl⟩ h 1 0 rfl rfl (xpl8 cI a _ _) (fun F' G' => xpr8 cI a _ _ F' G') (st := []) rfl rfl (Nat.le_of_ble_eq_true rfl) dX0_readsName_33 rfl (fun F33 G33 h => ?_)
        obtain ⟨E33, eE33⟩ : ∃ x : xF, x = (xspl F18 2 1 F33) := ⟨_, rfl⟩
        obtain ⟨H33, eH33⟩ : ∃ x : xA, x = (xspl G18 0 1 G33) := ⟨_, rfl⟩
        refine x_weq (w' := w0 cI a E33 H33) (by subst eE33; subst eH33; rfl) ?_
        replace h := h E33 eE33
        replace h := h H33 eH33
        refine x_aload_n (pc' := 37) K dX0_readsName_36 0 rfl rfl ?_
        refine x_dup (pc' := 38) K dX0_readsName_37 rfl rfl ?_
        refine xw0_0g_at (pc' := 41) K hinX0_readsName_X0 uX0_readsName_f27 dX0_readsName_38 rfl ?_
        refine x_iconst (pc' := 42) (v := 1) K dX0_readsName_41 (by decide) rfl ?_
        refine x_iadd (pc' := 43) K dX0_readsName_42 rfl ?_
        refine xw0_0p_at (pc' := 46) K hinX0_readsName_X0 uX0_readsName_f27 dX0_readsName_43 rfl (fun F43 eF43 => ?_)
        replace h := h F43 eF43
        refine x_iconst (pc' := 47) (v := 1) K dX0_readsName_46 (by decide) rfl ?_
        exact x_zret (wf := w0 cI a) K (Or.inr rfl) h dX0_readsName_47
set_option maxHeartbeats 4000000 in
set_option maxRecDepth 100000 in
theorem mX0_readsName (l : Launch) (D : va_G) (cI cO : ClassId) (a : Nat → Nat)   : MI l yX0_readsName wsX0_readsName rmX0_readsName D (xtys cI cO) [.ref (a 0)] (w0 cI a) qX0_readsName := by
  refine MZ_of (cc := cX0_readsName) (maxL := 2) (own := RX0) (by decide) rfl rfl (Nat.le_of_ble_eq_true rfl) ?_
  intro p e s m args below meth c A F G Q h K
  refine x_locals [0] (L' := [(0, .ref (a 0))]) rfl ?_
  refine x_iconst (pc' := 1) (v := 0) K dX0_readsName_0 (by decide) rfl ?_
  refine x_istore_n (pc' := 2) (i := 1) K dX0_readsName_1 rfl (by decide) [1, 0] (L' := [(0, .ref (a 0)), (1, .int _)]) rfl rfl ?_
  obtain ⟨n2, h⟩ := h
  exact tX0_readsName_2 K n2 _ _ _ h
/-! X0_multiplied -/
theorem dsX0_single : xDesc yX0_single 1 := by decide +kernel
theorem dsX0_multiplied : xDesc yX0_multiplied 1 := by decide +kernel
theorem uX0_multiplied_f27 : Cond.fieldLink RX0 27 "PigNinths$Reader" "at" "I" ∈ wsX0_multiplied := nw_in nwl_X0_multiplied nwe_91 (by decide +kernel)
theorem hinX0_multiplied_X0 : ∀ w ∈ wsX00, w ∈ wsX0_multiplied := nw_all nwl_X0_multiplied nwl_X00 (by decide +kernel)
theorem uX0_multiplied_f20 : Cond.fieldLink RX0 20 "PigNinths$Reader" "bytes" "LPigNinths$Row;" ∈ wsX0_multiplied := nw_in nwl_X0_multiplied nwe_89 (by decide +kernel)
theorem uX0_multiplied_f34 : Cond.fieldLink RX0 34 "PigNinths$Row" "size" "I" ∈ wsX0_multiplied := nw_in nwl_X0_multiplied nwe_104 (by decide +kernel)
theorem hinX0_multiplied_X1 : ∀ w ∈ wsX10, w ∈ wsX0_multiplied := nw_all nwl_X0_multiplied nwl_X10 (by decide +kernel)
theorem uX0_multiplied_f14 : Cond.fieldLink RX0 14 "PigNinths$Reader" "code" "LPigNinths$Row;" ∈ wsX0_multiplied := nw_in nwl_X0_multiplied nwe_88 (by decide +kernel)
set_option maxHeartbeats 4000000 in
set_option maxRecDepth 100000 in
theorem tX0_multiplied_51 (K : XK p m c cX0_multiplied 3 s args wsX0_multiplied RX0 D (xtys cI cO) A meth (some .boolean)) {wsingle : Int32 → xF → xA → (Int32 → xF → xA → Prop) → Prop} (hmsingle : ∀ (x1 : Int32), MI l yX0_single wsX0_single (xrd (2 * d) 0) D (xtys cI cO) [.ref (a 0), .int x1] (w0 cI a) (wsingle x1)) {Q : Int32 → xF → xA → Prop} {k10 : Int32 → xF → xA → Prop} (hk10 : ∀ (x1 : Int32) (F : xF) (G : xA), k10 x1 F G → XJ p l e (xrd (2 * d) 1) s m args below meth c 0 0 (MQ below (xQi D (w0 cI a) A Q) args s 0 0 A) D (xtys cI cO) A 3 (w0 cI a F G) 10 [(0, .ref (a 0)), (1, .int x1)] []) : ∀ (x1 : Int32) (F : xF) (G : xA), qX0_multiplied_51 wsingle Q k10 x1 F G → XJ p l e (xrd (2 * d) 1) s m args below meth c 0 0 (MQ below (xQi D (w0 cI a) A Q) args s 0 0 A) D (xtys cI cO) A 3 (w0 cI a F G) 51 [(0, .ref (a 0)), (1, .int x1)] [] := by
  intro x1 F G h
  refine x_aload_n (pc' := 52) K dX0_multiplied_51 0 rfl rfl ?_
  refine xw0_0g_bytes (pc' := 55) K hinX0_multiplied_X0 uX0_multiplied_f20 dX0_multiplied_52 rfl ?_
  refine x_aload_n (pc' := 56) K dX0_multiplied_55 0 rfl rfl ?_
  refine xw0_0g_at (pc' := 59) K hinX0_multiplied_X0 uX0_multiplied_f27 dX0_multiplied_56 rfl ?_
  refine x_subI (pc' := 62) (wn := fun F' G' => w0 cI a (xspl F 3 1 F') (xspl G 1 1 G')) K (mX1_at l D cI cO (xsub a 3) 60 _) rfl gX0_multiplied_X1_at rfl dsX1_at (by refine ⟨rfl, rfl, ⟨?_, ?_⟩, ?_, ?_⟩ <;> simp only [xrd, rmX1_at] <;> omega) h 1 0 rfl rfl (xpl7 cI a _ _) (fun F' G' => xpr7 cI a _ _ F' G') (st := []) rfl rfl (Nat.le_of_ble_eq_true rfl) dX0_multiplied_59 rfl (fun r59 F59 G59 h => ?_)
  obtain ⟨E59, eE59⟩ : ∃ x : xF, x = (xspl F 3 1 F59) := ⟨_, rfl⟩
  obtain ⟨H59, eH59⟩ : ∃ x : xA, x = (xspl G 1 1 G59) := ⟨_, rfl⟩
  refine x_weq (w' := w0 cI a E59 H59) (by subst eE59; subst eH59; rfl) ?_
  replace h := h E59 eE59
  replace h := h H59 eH59
  refine x_istore_n (pc' := 63) (i := 2) K dX0_multiplied_62 rfl (by decide) [1, 2, 0] (L' := [(0, .ref (a 0)), (1, .int _), (2, .int _)]) rfl rfl ?_
  refine x_aload_n (pc' := 64) K dX0_multiplied_63 0 rfl rfl ?_
  refine x_dup (pc' := 65) K dX0_multiplied_64 rfl rfl ?_
  refine xw0_0g_at (pc' := 68) K hinX0_multiplied_X0 uX0_multiplied_f27 dX0_multiplied_65 rfl ?_
  refine x_iconst (pc' := 69) (v := 1) K dX0_multiplied_68 (by decide) rfl ?_
  refine x_iadd (pc' := 70) K dX0_multiplied_69 rfl ?_
  refine xw0_0p_at (pc' := 73) K hinX0_multiplied_X0 uX0_multiplied_f27 dX0_multiplied_70 rfl (fun F70 eF70 => ?_)
  replace h := h F70 eF70
  refine x_aload_n (pc' := 74) K dX0_multiplied_73 0 rfl rfl ?_
  refine x_iload_n (pc' := 75) K dX0_multiplied_74 1 rfl rfl ?_
  refine x_callI (pc' := 78) K (hmsingle _) rfl gX0_multiplied_X0_single rfl dsX0_single (by refine ⟨rfl, rfl, ⟨?_, ?_⟩, ?_, ?_⟩ <;> simp only [xrd] <;> omega) h 0 0 rfl rfl (st := []) rfl rfl (Nat.le_of_ble_eq_true rfl) dX0_multiplied_75 rfl (fun r75 F75 G75 h => ?_)
  refine x_if_ne (tgt := 83) (pc' := 81) K dX0_multiplied_78 rfl rfl (fun c78 => ?_) (fun c78 => ?_)
  · replace h := h.1 c78
    refine x_aload_n (pc' := 84) K dX0_multiplied_83 0 rfl rfl ?_
    refine xw0_0g_code (pc' := 87) K hinX0_multiplied_X0 uX0_multiplied_f14 dX0_multiplied_84 rfl ?_
    refine x_sipush (pc' := 90) (v := 20000) K dX0_multiplied_87 (by decide) rfl ?_
    refine x_iload_n (pc' := 91) K dX0_multiplied_90 2 rfl rfl ?_
    refine x_iadd (pc' := 92) K dX0_multiplied_91 rfl ?_
    refine x_subV (pc' := 95) (wn := fun F' G' => w0 cI a (xspl F75 2 1 F') (xspl G75 0 1 G')) K (mX1_append l D cI cO (xsub a 1) 60 _) rfl gX0_multiplied_X1_append rfl dsX1_append (by refine ⟨rfl, rfl, ⟨?_, ?_⟩, ?_, ?_⟩ <;> simp only [xrd, rmX1_append] <;> omega) h 1 0 rfl rfl (xpl8 cI a _ _) (fun F' G' => xpr8 cI a _ _ F' G') (st := []) rfl rfl (Nat.le_of_ble_eq_true rfl) dX0_multiplied_92 rfl (fun F92 G92 h => ?_)
    obtain ⟨E92, eE92⟩ : ∃ x : xF, x = (xspl F75 2 1 F92) := ⟨_, rfl⟩
    obtain ⟨H92, eH92⟩ : ∃ x : xA, x = (xspl G75 0 1 G92) := ⟨_, rfl⟩
    refine x_weq (w' := w0 cI a E92 H92) (by subst eE92; subst eH92; rfl) ?_
    replace h := h E92 eE92
    replace h := h H92 eH92
    refine x_goto (tgt := 10) K dX0_multiplied_95 rfl ?_
    refine x_locals [0, 1] (L' := [(0, .ref (a 0)), (1, .int _)]) rfl ?_
    exact hk10 _ _ _ h
  · replace h := h.2 c78
    refine x_iconst (pc' := 82) (v := 0) K dX0_multiplied_81 (by decide) rfl ?_
    exact x_zret (wf := w0 cI a) K (Or.inl rfl) h dX0_multiplied_82
set_option maxHeartbeats 4000000 in
set_option maxRecDepth 100000 in
theorem tX0_multiplied_10 (K : XK p m c cX0_multiplied 3 s args wsX0_multiplied RX0 D (xtys cI cO) A meth (some .boolean)) {wsingle : Int32 → xF → xA → (Int32 → xF → xA → Prop) → Prop} (hmsingle : ∀ (x1 : Int32), MI l yX0_single wsX0_single (xrd (2 * d) 0) D (xtys cI cO) [.ref (a 0), .int x1] (w0 cI a) (wsingle x1)) {Q : Int32 → xF → xA → Prop} : ∀ (n : Nat), ∀ (x1 : Int32) (F : xF) (G : xA), qX0_multiplied_10 wsingle Q n x1 F G → XJ p l e (xrd (2 * d) 1) s m args below meth c 0 0 (MQ below (xQi D (w0 cI a) A Q) args s 0 0 A) D (xtys cI cO) A 3 (w0 cI a F G) 10 [(0, .ref (a 0)), (1, .int x1)] [] := by
  intro n
  induction n with
  | zero =>
    intro x1 F G h
    exact False.elim h
  | succ n ih =>
    intro x1 F G h
    refine x_aload_n (pc' := 11) K dX0_multiplied_10 0 rfl rfl ?_
    refine xw0_0g_at (pc' := 14) K hinX0_multiplied_X0 uX0_multiplied_f27 dX0_multiplied_11 rfl ?_
    refine x_aload_n (pc' := 15) K dX0_multiplied_14 0 rfl rfl ?_
    refine xw0_0g_bytes (pc' := 18) K hinX0_multiplied_X0 uX0_multiplied_f20 dX0_multiplied_15 rfl ?_
    refine xw0_3g_size (pc' := 21) K hinX0_multiplied_X1 uX0_multiplied_f34 dX0_multiplied_18 rfl ?_
    refine x_icmp_ge (tgt := 98) (pc' := 24) K dX0_multiplied_21 rfl rfl (fun c21 => ?_) (fun c21 => ?_)
    · replace h := h.1 c21
      refine x_iconst (pc' := 99) (v := 1) K dX0_multiplied_98 (by decide) rfl ?_
      exact x_zret (wf := w0 cI a) K (Or.inr rfl) h dX0_multiplied_99
    · replace h := h.2 c21
      refine x_aload_n (pc' := 25) K dX0_multiplied_24 0 rfl rfl ?_
      refine x_bipush (pc' := 27) (v := 42) K dX0_multiplied_25 (by decide) rfl ?_
      refine x_callI (pc' := 30) K (mX0_sees l D cI cO a _) rfl gX0_multiplied_X0_sees rfl dsX0_sees (by refine ⟨rfl, rfl, ⟨?_, ?_⟩, ?_, ?_⟩ <;> simp only [xrd, rmX0_sees] <;> omega) h 0 0 rfl rfl (st := []) rfl rfl (Nat.le_of_ble_eq_true rfl) dX0_multiplied_27 rfl (fun r27 F27 G27 h => ?_)
      refine x_if_ne (tgt := 51) (pc' := 33) K dX0_multiplied_30 rfl rfl (fun c30 => ?_) (fun c30 => ?_)
      · replace h := h.1 c30
        exact tX0_multiplied_51 K hmsingle (fun x1 F G h => ih x1 F G h) _ _ _ h
      · replace h := h.2 c30
        refine x_aload_n (pc' := 34) K dX0_multiplied_33 0 rfl rfl ?_
        refine x_bipush (pc' := 36) (v := 47) K dX0_multiplied_34 (by decide) rfl ?_
        refine x_callI (pc' := 39) K (mX0_sees l D cI cO a _) rfl gX0_multiplied_X0_sees rfl dsX0_sees (by refine ⟨rfl, rfl, ⟨?_, ?_⟩, ?_, ?_⟩ <;> simp only [xrd, rmX0_sees] <;> omega) h 0 0 rfl rfl (st := []) rfl rfl (Nat.le_of_ble_eq_true rfl) dX0_multiplied_36 rfl (fun r36 F36 G36 h => ?_)
        refine x_if_ne (tgt := 51) (pc' := 42) K dX0_multiplied_39 rfl rfl (fun c39 => ?_) (fun c39 => ?_)
        · replace h := h.1 c39
          exact tX0_multiplied_51 K hmsingle (fun x1 F G h => ih x1 F G h) _ _ _ h
        · replace h := h.2 c39
          refine x_aload_n (pc' := 43) K dX0_multiplied_42 0 rfl rfl ?_
          refine x_bipush (pc' := 45) (v := 37) K dX0_multiplied_43 (by decide) rfl ?_
          refine x_callI (pc' := 48) K (mX0_sees l D cI cO a _) rfl gX0_multiplied_X0_sees rfl dsX0_sees (by refine ⟨rfl, rfl, ⟨?_, ?_⟩, ?_, ?_⟩ <;> simp only [xrd, rmX0_sees] <;> omega) h 0 0 rfl rfl (st := []) rfl rfl (Nat.le_of_ble_eq_true rfl) dX0_multiplied_45 rfl (fun r45 F45 G45 h => ?_)
          refine x_if_eq (tgt := 98) (pc' := 51) K dX0_multiplied_48 rfl rfl (fun c48 => ?_) (fun c48 => ?_)
          · replace h := h.1 c48
            refine x_iconst (pc' := 99) (v := 1) K dX0_multiplied_98 (by decide) rfl ?_
            exact x_zret (wf := w0 cI a) K (Or.inr rfl) h dX0_multiplied_99
          · replace h := h.2 c48
            exact tX0_multiplied_51 K hmsingle (fun x1 F G h => ih x1 F G h) _ _ _ h
set_option maxHeartbeats 4000000 in
set_option maxRecDepth 100000 in
theorem mX0_multiplied (l : Launch) (D : va_G) (cI cO : ClassId) (a : Nat → Nat) (d : Nat)  {wsingle : Int32 → xF → xA → (Int32 → xF → xA → Prop) → Prop} (hmsingle : ∀ (x1 : Int32), MI l yX0_single wsX0_single (xrd (2 * d) 0) D (xtys cI cO) [.ref (a 0), .int x1] (w0 cI a) (wsingle x1)) (x1 : Int32) : MI l yX0_multiplied wsX0_multiplied (xrd (2 * d) 1) D (xtys cI cO) [.ref (a 0), .int x1] (w0 cI a) (qX0_multiplied wsingle x1) := by
  refine MZ_of (cc := cX0_multiplied) (maxL := 3) (own := RX0) (by decide) rfl rfl (Nat.le_of_ble_eq_true rfl) ?_
  intro p e s m args below meth c A F G Q h K
  refine x_locals [0, 1] (L' := [(0, .ref (a 0)), (1, .int _)]) rfl ?_
  refine x_aload_n (pc' := 1) K dX0_multiplied_0 0 rfl rfl ?_
  refine x_iload_n (pc' := 2) K dX0_multiplied_1 1 rfl rfl ?_
  refine x_callI (pc' := 5) K (hmsingle _) rfl gX0_multiplied_X0_single rfl dsX0_single (by refine ⟨rfl, rfl, ⟨?_, ?_⟩, ?_, ?_⟩ <;> simp only [xrd] <;> omega) h 0 0 rfl rfl (st := []) rfl rfl (Nat.le_of_ble_eq_true rfl) dX0_multiplied_2 rfl (fun r2 F2 G2 h => ?_)
  refine x_if_ne (tgt := 10) (pc' := 8) K dX0_multiplied_5 rfl rfl (fun c5 => ?_) (fun c5 => ?_)
  · replace h := h.1 c5
    obtain ⟨n10, h⟩ := h
    exact tX0_multiplied_10 K hmsingle n10 _ _ _ h
  · replace h := h.2 c5
    refine x_iconst (pc' := 9) (v := 0) K dX0_multiplied_8 (by decide) rfl ?_
    exact x_zret (wf := w0 cI a) K (Or.inl rfl) h dX0_multiplied_9
/-! X0_added -/
theorem dsX0_added : xDesc yX0_added 1 := by decide +kernel
theorem uX0_added_f27 : Cond.fieldLink RX0 27 "PigNinths$Reader" "at" "I" ∈ wsX0_added := nw_in nwl_X0_added nwe_91 (by decide +kernel)
theorem hinX0_added_X0 : ∀ w ∈ wsX00, w ∈ wsX0_added := nw_all nwl_X0_added nwl_X00 (by decide +kernel)
theorem uX0_added_f20 : Cond.fieldLink RX0 20 "PigNinths$Reader" "bytes" "LPigNinths$Row;" ∈ wsX0_added := nw_in nwl_X0_added nwe_89 (by decide +kernel)
theorem uX0_added_f34 : Cond.fieldLink RX0 34 "PigNinths$Row" "size" "I" ∈ wsX0_added := nw_in nwl_X0_added nwe_104 (by decide +kernel)
theorem hinX0_added_X1 : ∀ w ∈ wsX10, w ∈ wsX0_added := nw_all nwl_X0_added nwl_X10 (by decide +kernel)
theorem uX0_added_f14 : Cond.fieldLink RX0 14 "PigNinths$Reader" "code" "LPigNinths$Row;" ∈ wsX0_added := nw_in nwl_X0_added nwe_88 (by decide +kernel)
set_option maxHeartbeats 4000000 in
set_option maxRecDepth 100000 in
theorem tX0_added_42 (K : XK p m c cX0_added 3 s args wsX0_added RX0 D (xtys cI cO) A meth (some .boolean)) {wmultiplied : Int32 → xF → xA → (Int32 → xF → xA → Prop) → Prop} (hmmultiplied : ∀ (x1 : Int32), MI l yX0_multiplied wsX0_multiplied (xrd (2 * d) 1) D (xtys cI cO) [.ref (a 0), .int x1] (w0 cI a) (wmultiplied x1)) {Q : Int32 → xF → xA → Prop} {k10 : Int32 → xF → xA → Prop} (hk10 : ∀ (x1 : Int32) (F : xF) (G : xA), k10 x1 F G → XJ p l e (xrd (2 * d) 2) s m args below meth c 0 0 (MQ below (xQi D (w0 cI a) A Q) args s 0 0 A) D (xtys cI cO) A 3 (w0 cI a F G) 10 [(0, .ref (a 0)), (1, .int x1)] []) : ∀ (x1 : Int32) (F : xF) (G : xA), qX0_added_42 wmultiplied Q k10 x1 F G → XJ p l e (xrd (2 * d) 2) s m args below meth c 0 0 (MQ below (xQi D (w0 cI a) A Q) args s 0 0 A) D (xtys cI cO) A 3 (w0 cI a F G) 42 [(0, .ref (a 0)), (1, .int x1)] [] := by
  intro x1 F G h
  refine x_aload_n (pc' := 43) K dX0_added_42 0 rfl rfl ?_
  refine xw0_0g_bytes (pc' := 46) K hinX0_added_X0 uX0_added_f20 dX0_added_43 rfl ?_
  refine x_aload_n (pc' := 47) K dX0_added_46 0 rfl rfl ?_
  refine xw0_0g_at (pc' := 50) K hinX0_added_X0 uX0_added_f27 dX0_added_47 rfl ?_
  refine x_subI (pc' := 53) (wn := fun F' G' => w0 cI a (xspl F 3 1 F') (xspl G 1 1 G')) K (mX1_at l D cI cO (xsub a 3) 60 _) rfl gX0_added_X1_at rfl dsX1_at (by refine ⟨rfl, rfl, ⟨?_, ?_⟩, ?_, ?_⟩ <;> simp only [xrd, rmX1_at] <;> omega) h 1 0 rfl rfl (xpl7 cI a _ _) (fun F' G' => xpr7 cI a _ _ F' G') (st := []) rfl rfl (Nat.le_of_ble_eq_true rfl) dX0_added_50 rfl (fun r50 F50 G50 h => ?_)
  obtain ⟨E50, eE50⟩ : ∃ x : xF, x = (xspl F 3 1 F50) := ⟨_, rfl⟩
  obtain ⟨H50, eH50⟩ : ∃ x : xA, x = (xspl G 1 1 G50) := ⟨_, rfl⟩
  refine x_weq (w' := w0 cI a E50 H50) (by subst eE50; subst eH50; rfl) ?_
  replace h := h E50 eE50
  replace h := h H50 eH50
  refine x_istore_n (pc' := 54) (i := 2) K dX0_added_53 rfl (by decide) [1, 2, 0] (L' := [(0, .ref (a 0)), (1, .int _), (2, .int _)]) rfl rfl ?_
  refine x_aload_n (pc' := 55) K dX0_added_54 0 rfl rfl ?_
  refine x_dup (pc' := 56) K dX0_added_55 rfl rfl ?_
  refine xw0_0g_at (pc' := 59) K hinX0_added_X0 uX0_added_f27 dX0_added_56 rfl ?_
  refine x_iconst (pc' := 60) (v := 1) K dX0_added_59 (by decide) rfl ?_
  refine x_iadd (pc' := 61) K dX0_added_60 rfl ?_
  refine xw0_0p_at (pc' := 64) K hinX0_added_X0 uX0_added_f27 dX0_added_61 rfl (fun F61 eF61 => ?_)
  replace h := h F61 eF61
  refine x_aload_n (pc' := 65) K dX0_added_64 0 rfl rfl ?_
  refine x_iload_n (pc' := 66) K dX0_added_65 1 rfl rfl ?_
  refine x_callI (pc' := 69) K (hmmultiplied _) rfl gX0_added_X0_multiplied rfl dsX0_multiplied (by refine ⟨rfl, rfl, ⟨?_, ?_⟩, ?_, ?_⟩ <;> simp only [xrd] <;> omega) h 0 0 rfl rfl (st := []) rfl rfl (Nat.le_of_ble_eq_true rfl) dX0_added_66 rfl (fun r66 F66 G66 h => ?_)
  refine x_if_ne (tgt := 74) (pc' := 72) K dX0_added_69 rfl rfl (fun c69 => ?_) (fun c69 => ?_)
  · replace h := h.1 c69
    refine x_aload_n (pc' := 75) K dX0_added_74 0 rfl rfl ?_
    refine xw0_0g_code (pc' := 78) K hinX0_added_X0 uX0_added_f14 dX0_added_75 rfl ?_
    refine x_sipush (pc' := 81) (v := 20000) K dX0_added_78 (by decide) rfl ?_
    refine x_iload_n (pc' := 82) K dX0_added_81 2 rfl rfl ?_
    refine x_iadd (pc' := 83) K dX0_added_82 rfl ?_
    refine x_subV (pc' := 86) (wn := fun F' G' => w0 cI a (xspl F66 2 1 F') (xspl G66 0 1 G')) K (mX1_append l D cI cO (xsub a 1) 60 _) rfl gX0_added_X1_append rfl dsX1_append (by refine ⟨rfl, rfl, ⟨?_, ?_⟩, ?_, ?_⟩ <;> simp only [xrd, rmX1_append] <;> omega) h 1 0 rfl rfl (xpl8 cI a _ _) (fun F' G' => xpr8 cI a _ _ F' G') (st := []) rfl rfl (Nat.le_of_ble_eq_true rfl) dX0_added_83 rfl (fun F83 G83 h => ?_)
    obtain ⟨E83, eE83⟩ : ∃ x : xF, x = (xspl F66 2 1 F83) := ⟨_, rfl⟩
    obtain ⟨H83, eH83⟩ : ∃ x : xA, x = (xspl G66 0 1 G83) := ⟨_, rfl⟩
    refine x_weq (w' := w0 cI a E83 H83) (by subst eE83; subst eH83; rfl) ?_
    replace h := h E83 eE83
    replace h := h H83 eH83
    refine x_goto (tgt := 10) K dX0_added_86 rfl ?_
    refine x_locals [0, 1] (L' := [(0, .ref (a 0)), (1, .int _)]) rfl ?_
    exact hk10 _ _ _ h
  · replace h := h.2 c69
    refine x_iconst (pc' := 73) (v := 0) K dX0_added_72 (by decide) rfl ?_
    exact x_zret (wf := w0 cI a) K (Or.inl rfl) h dX0_added_73
set_option maxHeartbeats 4000000 in
set_option maxRecDepth 100000 in
theorem tX0_added_10 (K : XK p m c cX0_added 3 s args wsX0_added RX0 D (xtys cI cO) A meth (some .boolean)) {wmultiplied : Int32 → xF → xA → (Int32 → xF → xA → Prop) → Prop} (hmmultiplied : ∀ (x1 : Int32), MI l yX0_multiplied wsX0_multiplied (xrd (2 * d) 1) D (xtys cI cO) [.ref (a 0), .int x1] (w0 cI a) (wmultiplied x1)) {Q : Int32 → xF → xA → Prop} : ∀ (n : Nat), ∀ (x1 : Int32) (F : xF) (G : xA), qX0_added_10 wmultiplied Q n x1 F G → XJ p l e (xrd (2 * d) 2) s m args below meth c 0 0 (MQ below (xQi D (w0 cI a) A Q) args s 0 0 A) D (xtys cI cO) A 3 (w0 cI a F G) 10 [(0, .ref (a 0)), (1, .int x1)] [] := by
  intro n
  induction n with
  | zero =>
    intro x1 F G h
    exact False.elim h
  | succ n ih =>
    intro x1 F G h
    refine x_aload_n (pc' := 11) K dX0_added_10 0 rfl rfl ?_
    refine xw0_0g_at (pc' := 14) K hinX0_added_X0 uX0_added_f27 dX0_added_11 rfl ?_
    refine x_aload_n (pc' := 15) K dX0_added_14 0 rfl rfl ?_
    refine xw0_0g_bytes (pc' := 18) K hinX0_added_X0 uX0_added_f20 dX0_added_15 rfl ?_
    refine xw0_3g_size (pc' := 21) K hinX0_added_X1 uX0_added_f34 dX0_added_18 rfl ?_
    refine x_icmp_ge (tgt := 89) (pc' := 24) K dX0_added_21 rfl rfl (fun c21 => ?_) (fun c21 => ?_)
    · replace h := h.1 c21
      refine x_iconst (pc' := 90) (v := 1) K dX0_added_89 (by decide) rfl ?_
      exact x_zret (wf := w0 cI a) K (Or.inr rfl) h dX0_added_90
    · replace h := h.2 c21
      refine x_aload_n (pc' := 25) K dX0_added_24 0 rfl rfl ?_
      refine x_bipush (pc' := 27) (v := 43) K dX0_added_25 (by decide) rfl ?_
      refine x_callI (pc' := 30) K (mX0_sees l D cI cO a _) rfl gX0_added_X0_sees rfl dsX0_sees (by refine ⟨rfl, rfl, ⟨?_, ?_⟩, ?_, ?_⟩ <;> simp only [xrd, rmX0_sees] <;> omega) h 0 0 rfl rfl (st := []) rfl rfl (Nat.le_of_ble_eq_true rfl) dX0_added_27 rfl (fun r27 F27 G27 h => ?_)
      refine x_if_ne (tgt := 42) (pc' := 33) K dX0_added_30 rfl rfl (fun c30 => ?_) (fun c30 => ?_)
      · replace h := h.1 c30
        exact tX0_added_42 K hmmultiplied (fun x1 F G h => ih x1 F G h) _ _ _ h
      · replace h := h.2 c30
        refine x_aload_n (pc' := 34) K dX0_added_33 0 rfl rfl ?_
        refine x_bipush (pc' := 36) (v := 45) K dX0_added_34 (by decide) rfl ?_
        refine x_callI (pc' := 39) K (mX0_sees l D cI cO a _) rfl gX0_added_X0_sees rfl dsX0_sees (by refine ⟨rfl, rfl, ⟨?_, ?_⟩, ?_, ?_⟩ <;> simp only [xrd, rmX0_sees] <;> omega) h 0 0 rfl rfl (st := []) rfl rfl (Nat.le_of_ble_eq_true rfl) dX0_added_36 rfl (fun r36 F36 G36 h => ?_)
        refine x_if_eq (tgt := 89) (pc' := 42) K dX0_added_39 rfl rfl (fun c39 => ?_) (fun c39 => ?_)
        · replace h := h.1 c39
          refine x_iconst (pc' := 90) (v := 1) K dX0_added_89 (by decide) rfl ?_
          exact x_zret (wf := w0 cI a) K (Or.inr rfl) h dX0_added_90
        · replace h := h.2 c39
          exact tX0_added_42 K hmmultiplied (fun x1 F G h => ih x1 F G h) _ _ _ h
set_option maxHeartbeats 4000000 in
set_option maxRecDepth 100000 in
theorem mX0_added (l : Launch) (D : va_G) (cI cO : ClassId) (a : Nat → Nat) (d : Nat)  {wmultiplied : Int32 → xF → xA → (Int32 → xF → xA → Prop) → Prop} (hmmultiplied : ∀ (x1 : Int32), MI l yX0_multiplied wsX0_multiplied (xrd (2 * d) 1) D (xtys cI cO) [.ref (a 0), .int x1] (w0 cI a) (wmultiplied x1)) (x1 : Int32) : MI l yX0_added wsX0_added (xrd (2 * d) 2) D (xtys cI cO) [.ref (a 0), .int x1] (w0 cI a) (qX0_added wmultiplied x1) := by
  refine MZ_of (cc := cX0_added) (maxL := 3) (own := RX0) (by decide) rfl rfl (Nat.le_of_ble_eq_true rfl) ?_
  intro p e s m args below meth c A F G Q h K
  refine x_locals [0, 1] (L' := [(0, .ref (a 0)), (1, .int _)]) rfl ?_
  refine x_aload_n (pc' := 1) K dX0_added_0 0 rfl rfl ?_
  refine x_iload_n (pc' := 2) K dX0_added_1 1 rfl rfl ?_
  refine x_callI (pc' := 5) K (hmmultiplied _) rfl gX0_added_X0_multiplied rfl dsX0_multiplied (by refine ⟨rfl, rfl, ⟨?_, ?_⟩, ?_, ?_⟩ <;> simp only [xrd] <;> omega) h 0 0 rfl rfl (st := []) rfl rfl (Nat.le_of_ble_eq_true rfl) dX0_added_2 rfl (fun r2 F2 G2 h => ?_)
  refine x_if_ne (tgt := 10) (pc' := 8) K dX0_added_5 rfl rfl (fun c5 => ?_) (fun c5 => ?_)
  · replace h := h.1 c5
    obtain ⟨n10, h⟩ := h
    exact tX0_added_10 K hmmultiplied n10 _ _ _ h
  · replace h := h.2 c5
    refine x_iconst (pc' := 9) (v := 0) K dX0_added_8 (by decide) rfl ?_
    exact x_zret (wf := w0 cI a) K (Or.inl rfl) h dX0_added_9
/-! X0_compared -/
theorem dsX0_compared : xDesc yX0_compared 1 := by decide +kernel
theorem uX0_compared_f20 : Cond.fieldLink RX0 20 "PigNinths$Reader" "bytes" "LPigNinths$Row;" ∈ wsX0_compared := nw_in nwl_X0_compared nwe_89 (by decide +kernel)
theorem hinX0_compared_X0 : ∀ w ∈ wsX00, w ∈ wsX0_compared := nw_all nwl_X0_compared nwl_X00 (by decide +kernel)
theorem uX0_compared_f27 : Cond.fieldLink RX0 27 "PigNinths$Reader" "at" "I" ∈ wsX0_compared := nw_in nwl_X0_compared nwe_91 (by decide +kernel)
theorem uX0_compared_f14 : Cond.fieldLink RX0 14 "PigNinths$Reader" "code" "LPigNinths$Row;" ∈ wsX0_compared := nw_in nwl_X0_compared nwe_88 (by decide +kernel)
set_option maxHeartbeats 4000000 in
set_option maxRecDepth 100000 in
theorem tX0_compared_37 (K : XK p m c cX0_compared 3 s args wsX0_compared RX0 D (xtys cI cO) A meth (some .boolean)) {wadded : Int32 → xF → xA → (Int32 → xF → xA → Prop) → Prop} (hmadded : ∀ (x1 : Int32), MI l yX0_added wsX0_added (xrd (2 * d) 2) D (xtys cI cO) [.ref (a 0), .int x1] (w0 cI a) (wadded x1)) {Q : Int32 → xF → xA → Prop} : ∀ (x1 : Int32) (F : xF) (G : xA), qX0_compared_37 wadded Q x1 F G → XJ p l e (xrd (2 * d) 3) s m args below meth c 0 0 (MQ below (xQi D (w0 cI a) A Q) args s 0 0 A) D (xtys cI cO) A 3 (w0 cI a F G) 37 [(0, .ref (a 0)), (1, .int x1)] [] := by
  intro x1 F G h
  refine x_aload_n (pc' := 38) K dX0_compared_37 0 rfl rfl ?_
  refine xw0_0g_bytes (pc' := 41) K hinX0_compared_X0 uX0_compared_f20 dX0_compared_38 rfl ?_
  refine x_aload_n (pc' := 42) K dX0_compared_41 0 rfl rfl ?_
  refine xw0_0g_at (pc' := 45) K hinX0_compared_X0 uX0_compared_f27 dX0_compared_42 rfl ?_
  refine x_subI (pc' := 48) (wn := fun F' G' => w0 cI a (xspl F 3 1 F') (xspl G 1 1 G')) K (mX1_at l D cI cO (xsub a 3) 60 _) rfl gX0_compared_X1_at rfl dsX1_at (by refine ⟨rfl, rfl, ⟨?_, ?_⟩, ?_, ?_⟩ <;> simp only [xrd, rmX1_at] <;> omega) h 1 0 rfl rfl (xpl7 cI a _ _) (fun F' G' => xpr7 cI a _ _ F' G') (st := []) rfl rfl (Nat.le_of_ble_eq_true rfl) dX0_compared_45 rfl (fun r45 F45 G45 h => ?_)
  obtain ⟨E45, eE45⟩ : ∃ x : xF, x = (xspl F 3 1 F45) := ⟨_, rfl⟩
  obtain ⟨H45, eH45⟩ : ∃ x : xA, x = (xspl G 1 1 G45) := ⟨_, rfl⟩
  refine x_weq (w' := w0 cI a E45 H45) (by subst eE45; subst eH45; rfl) ?_
  replace h := h E45 eE45
  replace h := h H45 eH45
  refine x_istore_n (pc' := 49) (i := 2) K dX0_compared_48 rfl (by decide) [1, 2, 0] (L' := [(0, .ref (a 0)), (1, .int _), (2, .int _)]) rfl rfl ?_
  refine x_aload_n (pc' := 50) K dX0_compared_49 0 rfl rfl ?_
  refine x_dup (pc' := 51) K dX0_compared_50 rfl rfl ?_
  refine xw0_0g_at (pc' := 54) K hinX0_compared_X0 uX0_compared_f27 dX0_compared_51 rfl ?_
  refine x_iconst (pc' := 55) (v := 1) K dX0_compared_54 (by decide) rfl ?_
  refine x_iadd (pc' := 56) K dX0_compared_55 rfl ?_
  refine xw0_0p_at (pc' := 59) K hinX0_compared_X0 uX0_compared_f27 dX0_compared_56 rfl (fun F56 eF56 => ?_)
  replace h := h F56 eF56
  refine x_aload_n (pc' := 60) K dX0_compared_59 0 rfl rfl ?_
  refine x_iload_n (pc' := 61) K dX0_compared_60 1 rfl rfl ?_
  refine x_callI (pc' := 64) K (hmadded _) rfl gX0_compared_X0_added rfl dsX0_added (by refine ⟨rfl, rfl, ⟨?_, ?_⟩, ?_, ?_⟩ <;> simp only [xrd] <;> omega) h 0 0 rfl rfl (st := []) rfl rfl (Nat.le_of_ble_eq_true rfl) dX0_compared_61 rfl (fun r61 F61 G61 h => ?_)
  refine x_if_ne (tgt := 69) (pc' := 67) K dX0_compared_64 rfl rfl (fun c64 => ?_) (fun c64 => ?_)
  · replace h := h.1 c64
    refine x_aload_n (pc' := 70) K dX0_compared_69 0 rfl rfl ?_
    refine xw0_0g_code (pc' := 73) K hinX0_compared_X0 uX0_compared_f14 dX0_compared_70 rfl ?_
    refine x_sipush (pc' := 76) (v := 20000) K dX0_compared_73 (by decide) rfl ?_
    refine x_iload_n (pc' := 77) K dX0_compared_76 2 rfl rfl ?_
    refine x_iadd (pc' := 78) K dX0_compared_77 rfl ?_
    refine x_subV (pc' := 81) (wn := fun F' G' => w0 cI a (xspl F61 2 1 F') (xspl G61 0 1 G')) K (mX1_append l D cI cO (xsub a 1) 60 _) rfl gX0_compared_X1_append rfl dsX1_append (by refine ⟨rfl, rfl, ⟨?_, ?_⟩, ?_, ?_⟩ <;> simp only [xrd, rmX1_append] <;> omega) h 1 0 rfl rfl (xpl8 cI a _ _) (fun F' G' => xpr8 cI a _ _ F' G') (st := []) rfl rfl (Nat.le_of_ble_eq_true rfl) dX0_compared_78 rfl (fun F78 G78 h => ?_)
    obtain ⟨E78, eE78⟩ : ∃ x : xF, x = (xspl F61 2 1 F78) := ⟨_, rfl⟩
    obtain ⟨H78, eH78⟩ : ∃ x : xA, x = (xspl G61 0 1 G78) := ⟨_, rfl⟩
    refine x_weq (w' := w0 cI a E78 H78) (by subst eE78; subst eH78; rfl) ?_
    replace h := h E78 eE78
    replace h := h H78 eH78
    refine x_iconst (pc' := 82) (v := 1) K dX0_compared_81 (by decide) rfl ?_
    exact x_zret (wf := w0 cI a) K (Or.inr rfl) h dX0_compared_82
  · replace h := h.2 c64
    refine x_iconst (pc' := 68) (v := 0) K dX0_compared_67 (by decide) rfl ?_
    exact x_zret (wf := w0 cI a) K (Or.inl rfl) h dX0_compared_68
set_option maxHeartbeats 4000000 in
set_option maxRecDepth 100000 in
theorem mX0_compared (l : Launch) (D : va_G) (cI cO : ClassId) (a : Nat → Nat) (d : Nat)  {wadded : Int32 → xF → xA → (Int32 → xF → xA → Prop) → Prop} (hmadded : ∀ (x1 : Int32), MI l yX0_added wsX0_added (xrd (2 * d) 2) D (xtys cI cO) [.ref (a 0), .int x1] (w0 cI a) (wadded x1)) (x1 : Int32) : MI l yX0_compared wsX0_compared (xrd (2 * d) 3) D (xtys cI cO) [.ref (a 0), .int x1] (w0 cI a) (qX0_compared wadded x1) := by
  refine MZ_of (cc := cX0_compared) (maxL := 3) (own := RX0) (by decide) rfl rfl (Nat.le_of_ble_eq_true rfl) ?_
  intro p e s m args below meth c A F G Q h K
  refine x_locals [0, 1] (L' := [(0, .ref (a 0)), (1, .int _)]) rfl ?_
  refine x_aload_n (pc' := 1) K dX0_compared_0 0 rfl rfl ?_
  refine x_iload_n (pc' := 2) K dX0_compared_1 1 rfl rfl ?_
  refine x_callI (pc' := 5) K (hmadded _) rfl gX0_compared_X0_added rfl dsX0_added (by refine ⟨rfl, rfl, ⟨?_, ?_⟩, ?_, ?_⟩ <;> simp only [xrd] <;> omega) h 0 0 rfl rfl (st := []) rfl rfl (Nat.le_of_ble_eq_true rfl) dX0_compared_2 rfl (fun r2 F2 G2 h => ?_)
  refine x_if_ne (tgt := 10) (pc' := 8) K dX0_compared_5 rfl rfl (fun c5 => ?_) (fun c5 => ?_)
  · replace h := h.1 c5
    refine x_aload_n (pc' := 11) K dX0_compared_10 0 rfl rfl ?_
    refine x_bipush (pc' := 13) (v := 60) K dX0_compared_11 (by decide) rfl ?_
    refine x_callI (pc' := 16) K (mX0_sees l D cI cO a _) rfl gX0_compared_X0_sees rfl dsX0_sees (by refine ⟨rfl, rfl, ⟨?_, ?_⟩, ?_, ?_⟩ <;> simp only [xrd, rmX0_sees] <;> omega) h 0 0 rfl rfl (st := []) rfl rfl (Nat.le_of_ble_eq_true rfl) dX0_compared_13 rfl (fun r13 F13 G13 h => ?_)
    refine x_if_ne (tgt := 37) (pc' := 19) K dX0_compared_16 rfl rfl (fun c16 => ?_) (fun c16 => ?_)
    · replace h := h.1 c16
      exact tX0_compared_37 K hmadded _ _ _ h
    · replace h := h.2 c16
      refine x_aload_n (pc' := 20) K dX0_compared_19 0 rfl rfl ?_
      refine x_bipush (pc' := 22) (v := 61) K dX0_compared_20 (by decide) rfl ?_
      refine x_callI (pc' := 25) K (mX0_sees l D cI cO a _) rfl gX0_compared_X0_sees rfl dsX0_sees (by refine ⟨rfl, rfl, ⟨?_, ?_⟩, ?_, ?_⟩ <;> simp only [xrd, rmX0_sees] <;> omega) h 0 0 rfl rfl (st := []) rfl rfl (Nat.le_of_ble_eq_true rfl) dX0_compared_22 rfl (fun r22 F22 G22 h => ?_)
      refine x_if_ne (tgt := 37) (pc' := 28) K dX0_compared_25 rfl rfl (fun c25 => ?_) (fun c25 => ?_)
      · replace h := h.1 c25
        exact tX0_compared_37 K hmadded _ _ _ h
      · replace h := h.2 c25
        refine x_aload_n (pc' := 29) K dX0_compared_28 0 rfl rfl ?_
        refine x_bipush (pc' := 31) (v := 62) K dX0_compared_29 (by decide) rfl ?_
        refine x_callI (pc' := 34) K (mX0_sees l D cI cO a _) rfl gX0_compared_X0_sees rfl dsX0_sees (by refine ⟨rfl, rfl, ⟨?_, ?_⟩, ?_, ?_⟩ <;> simp only [xrd, rmX0_sees] <;> omega) h 0 0 rfl rfl (st := []) rfl rfl (Nat.le_of_ble_eq_true rfl) dX0_compared_31 rfl (fun r31 F31 G31 h => ?_)
        refine x_if_eq (tgt := 81) (pc' := 37) K dX0_compared_34 rfl rfl (fun c34 => ?_) (fun c34 => ?_)
        · replace h := h.1 c34
          refine x_iconst (pc' := 82) (v := 1) K dX0_compared_81 (by decide) rfl ?_
          exact x_zret (wf := w0 cI a) K (Or.inr rfl) h dX0_compared_82
        · replace h := h.2 c34
          exact tX0_compared_37 K hmadded _ _ _ h
  · replace h := h.2 c5
    refine x_iconst (pc' := 9) (v := 0) K dX0_compared_8 (by decide) rfl ?_
    exact x_zret (wf := w0 cI a) K (Or.inl rfl) h dX0_compared_9
/-! X0_both -/
theorem dsX0_both : xDesc yX0_both 1 := by decide +kernel
theorem uX0_both_f27 : Cond.fieldLink RX0 27 "PigNinths$Reader" "at" "I" ∈ wsX0_both := nw_in nwl_X0_both nwe_91 (by decide +kernel)
theorem hinX0_both_X0 : ∀ w ∈ wsX00, w ∈ wsX0_both := nw_all nwl_X0_both nwl_X00 (by decide +kernel)
theorem uX0_both_f20 : Cond.fieldLink RX0 20 "PigNinths$Reader" "bytes" "LPigNinths$Row;" ∈ wsX0_both := nw_in nwl_X0_both nwe_89 (by decide +kernel)
theorem uX0_both_f34 : Cond.fieldLink RX0 34 "PigNinths$Row" "size" "I" ∈ wsX0_both := nw_in nwl_X0_both nwe_104 (by decide +kernel)
theorem hinX0_both_X1 : ∀ w ∈ wsX10, w ∈ wsX0_both := nw_all nwl_X0_both nwl_X10 (by decide +kernel)
theorem uX0_both_f14 : Cond.fieldLink RX0 14 "PigNinths$Reader" "code" "LPigNinths$Row;" ∈ wsX0_both := nw_in nwl_X0_both nwe_88 (by decide +kernel)
set_option maxHeartbeats 4000000 in
set_option maxRecDepth 100000 in
theorem tX0_both_10 (K : XK p m c cX0_both 2 s args wsX0_both RX0 D (xtys cI cO) A meth (some .boolean)) {wcompared : Int32 → xF → xA → (Int32 → xF → xA → Prop) → Prop} (hmcompared : ∀ (x1 : Int32), MI l yX0_compared wsX0_compared (xrd (2 * d) 3) D (xtys cI cO) [.ref (a 0), .int x1] (w0 cI a) (wcompared x1)) {Q : Int32 → xF → xA → Prop} : ∀ (n : Nat), ∀ (x1 : Int32) (F : xF) (G : xA), qX0_both_10 wcompared Q n x1 F G → XJ p l e (xrd (2 * d) 4) s m args below meth c 0 0 (MQ below (xQi D (w0 cI a) A Q) args s 0 0 A) D (xtys cI cO) A 2 (w0 cI a F G) 10 [(0, .ref (a 0)), (1, .int x1)] [] := by
  intro n
  induction n with
  | zero =>
    intro x1 F G h
    exact False.elim h
  | succ n ih =>
    intro x1 F G h
    refine x_aload_n (pc' := 11) K dX0_both_10 0 rfl rfl ?_
    refine xw0_0g_at (pc' := 14) K hinX0_both_X0 uX0_both_f27 dX0_both_11 rfl ?_
    refine x_aload_n (pc' := 15) K dX0_both_14 0 rfl rfl ?_
    refine xw0_0g_bytes (pc' := 18) K hinX0_both_X0 uX0_both_f20 dX0_both_15 rfl ?_
    refine xw0_3g_size (pc' := 21) K hinX0_both_X1 uX0_both_f34 dX0_both_18 rfl ?_
    refine x_icmp_ge (tgt := 66) (pc' := 24) K dX0_both_21 rfl rfl (fun c21 => ?_) (fun c21 => ?_)
    · replace h := h.1 c21
      refine x_iconst (pc' := 67) (v := 1) K dX0_both_66 (by decide) rfl ?_
      exact x_zret (wf := w0 cI a) K (Or.inr rfl) h dX0_both_67
    · replace h := h.2 c21
      refine x_aload_n (pc' := 25) K dX0_both_24 0 rfl rfl ?_
      refine x_bipush (pc' := 27) (v := 38) K dX0_both_25 (by decide) rfl ?_
      refine x_callI (pc' := 30) K (mX0_sees l D cI cO a _) rfl gX0_both_X0_sees rfl dsX0_sees (by refine ⟨rfl, rfl, ⟨?_, ?_⟩, ?_, ?_⟩ <;> simp only [xrd, rmX0_sees] <;> omega) h 0 0 rfl rfl (st := []) rfl rfl (Nat.le_of_ble_eq_true rfl) dX0_both_27 rfl (fun r27 F27 G27 h => ?_)
      refine x_if_eq (tgt := 66) (pc' := 33) K dX0_both_30 rfl rfl (fun c30 => ?_) (fun c30 => ?_)
      · replace h := h.1 c30
        refine x_iconst (pc' := 67) (v := 1) K dX0_both_66 (by decide) rfl ?_
        exact x_zret (wf := w0 cI a) K (Or.inr rfl) h dX0_both_67
      · replace h := h.2 c30
        refine x_aload_n (pc' := 34) K dX0_both_33 0 rfl rfl ?_
        refine x_dup (pc' := 35) K dX0_both_34 rfl rfl ?_
        refine xw0_0g_at (pc' := 38) K hinX0_both_X0 uX0_both_f27 dX0_both_35 rfl ?_
        refine x_iconst (pc' := 39) (v := 1) K dX0_both_38 (by decide) rfl ?_
        refine x_iadd (pc' := 40) K dX0_both_39 rfl ?_
        refine xw0_0p_at (pc' := 43) K hinX0_both_X0 uX0_both_f27 dX0_both_40 rfl (fun F40 eF40 => ?_)
        replace h := h F40 eF40
        refine x_aload_n (pc' := 44) K dX0_both_43 0 rfl rfl ?_
        refine x_iload_n (pc' := 45) K dX0_both_44 1 rfl rfl ?_
        refine x_callI (pc' := 48) K (hmcompared _) rfl gX0_both_X0_compared rfl dsX0_compared (by refine ⟨rfl, rfl, ⟨?_, ?_⟩, ?_, ?_⟩ <;> simp only [xrd] <;> omega) h 0 0 rfl rfl (st := []) rfl rfl (Nat.le_of_ble_eq_true rfl) dX0_both_45 rfl (fun r45 F45 G45 h => ?_)
        refine x_if_ne (tgt := 53) (pc' := 51) K dX0_both_48 rfl rfl (fun c48 => ?_) (fun c48 => ?_)
        · replace h := h.1 c48
          refine x_aload_n (pc' := 54) K dX0_both_53 0 rfl rfl ?_
          refine xw0_0g_code (pc' := 57) K hinX0_both_X0 uX0_both_f14 dX0_both_54 rfl ?_
          refine x_sipush (pc' := 60) (v := 20038) K dX0_both_57 (by decide) rfl ?_
          refine x_subV (pc' := 63) (wn := fun F' G' => w0 cI a (xspl F45 2 1 F') (xspl G45 0 1 G')) K (mX1_append l D cI cO (xsub a 1) 60 _) rfl gX0_both_X1_append rfl dsX1_append (by refine ⟨rfl, rfl, ⟨?_, ?_⟩, ?_, ?_⟩ <;> simp only [xrd, rmX1_append] <;> omega) h 1 0 rfl rfl (xpl8 cI a _ _) (fun F' G' => xpr8 cI a _ _ F' G') (st := []) rfl rfl (Nat.le_of_ble_eq_true rfl) dX0_both_60 rfl (fun F60 G60 h => ?_)
          obtain ⟨E60, eE60⟩ : ∃ x : xF, x = (xspl F45 2 1 F60) := ⟨_, rfl⟩
          obtain ⟨H60, eH60⟩ : ∃ x : xA, x = (xspl G45 0 1 G60) := ⟨_, rfl⟩
          refine x_weq (w' := w0 cI a E60 H60) (by subst eE60; subst eH60; rfl) ?_
          replace h := h E60 eE60
          replace h := h H60 eH60
          refine x_goto (tgt := 10) K dX0_both_63 rfl ?_
          exact ih _ _ _ h
        · replace h := h.2 c48
          refine x_iconst (pc' := 52) (v := 0) K dX0_both_51 (by decide) rfl ?_
          exact x_zret (wf := w0 cI a) K (Or.inl rfl) h dX0_both_52
set_option maxHeartbeats 4000000 in
set_option maxRecDepth 100000 in
theorem mX0_both (l : Launch) (D : va_G) (cI cO : ClassId) (a : Nat → Nat) (d : Nat)  {wcompared : Int32 → xF → xA → (Int32 → xF → xA → Prop) → Prop} (hmcompared : ∀ (x1 : Int32), MI l yX0_compared wsX0_compared (xrd (2 * d) 3) D (xtys cI cO) [.ref (a 0), .int x1] (w0 cI a) (wcompared x1)) (x1 : Int32) : MI l yX0_both wsX0_both (xrd (2 * d) 4) D (xtys cI cO) [.ref (a 0), .int x1] (w0 cI a) (qX0_both wcompared x1) := by
  refine MZ_of (cc := cX0_both) (maxL := 2) (own := RX0) (by decide) rfl rfl (Nat.le_of_ble_eq_true rfl) ?_
  intro p e s m args below meth c A F G Q h K
  refine x_locals [0, 1] (L' := [(0, .ref (a 0)), (1, .int _)]) rfl ?_
  refine x_aload_n (pc' := 1) K dX0_both_0 0 rfl rfl ?_
  refine x_iload_n (pc' := 2) K dX0_both_1 1 rfl rfl ?_
  refine x_callI (pc' := 5) K (hmcompared _) rfl gX0_both_X0_compared rfl dsX0_compared (by refine ⟨rfl, rfl, ⟨?_, ?_⟩, ?_, ?_⟩ <;> simp only [xrd] <;> omega) h 0 0 rfl rfl (st := []) rfl rfl (Nat.le_of_ble_eq_true rfl) dX0_both_2 rfl (fun r2 F2 G2 h => ?_)
  refine x_if_ne (tgt := 10) (pc' := 8) K dX0_both_5 rfl rfl (fun c5 => ?_) (fun c5 => ?_)
  · replace h := h.1 c5
    obtain ⟨n10, h⟩ := h
    exact tX0_both_10 K hmcompared n10 _ _ _ h
  · replace h := h.2 c5
    refine x_iconst (pc' := 9) (v := 0) K dX0_both_8 (by decide) rfl ?_
    exact x_zret (wf := w0 cI a) K (Or.inl rfl) h dX0_both_9
/-! X0_either -/
theorem dsX0_either : xDesc yX0_either 1 := by decide +kernel
theorem uX0_either_f27 : Cond.fieldLink RX0 27 "PigNinths$Reader" "at" "I" ∈ wsX0_either := nw_in nwl_X0_either nwe_91 (by decide +kernel)
theorem hinX0_either_X0 : ∀ w ∈ wsX00, w ∈ wsX0_either := nw_all nwl_X0_either nwl_X00 (by decide +kernel)
theorem uX0_either_f20 : Cond.fieldLink RX0 20 "PigNinths$Reader" "bytes" "LPigNinths$Row;" ∈ wsX0_either := nw_in nwl_X0_either nwe_89 (by decide +kernel)
theorem uX0_either_f34 : Cond.fieldLink RX0 34 "PigNinths$Row" "size" "I" ∈ wsX0_either := nw_in nwl_X0_either nwe_104 (by decide +kernel)
theorem hinX0_either_X1 : ∀ w ∈ wsX10, w ∈ wsX0_either := nw_all nwl_X0_either nwl_X10 (by decide +kernel)
theorem uX0_either_f14 : Cond.fieldLink RX0 14 "PigNinths$Reader" "code" "LPigNinths$Row;" ∈ wsX0_either := nw_in nwl_X0_either nwe_88 (by decide +kernel)
set_option maxHeartbeats 4000000 in
set_option maxRecDepth 100000 in
theorem tX0_either_10 (K : XK p m c cX0_either 2 s args wsX0_either RX0 D (xtys cI cO) A meth (some .boolean)) {wboth : Int32 → xF → xA → (Int32 → xF → xA → Prop) → Prop} (hmboth : ∀ (x1 : Int32), MI l yX0_both wsX0_both (xrd (2 * d) 4) D (xtys cI cO) [.ref (a 0), .int x1] (w0 cI a) (wboth x1)) {Q : Int32 → xF → xA → Prop} : ∀ (n : Nat), ∀ (x1 : Int32) (F : xF) (G : xA), qX0_either_10 wboth Q n x1 F G → XJ p l e (xrd (2 * d) 5) s m args below meth c 0 0 (MQ below (xQi D (w0 cI a) A Q) args s 0 0 A) D (xtys cI cO) A 2 (w0 cI a F G) 10 [(0, .ref (a 0)), (1, .int x1)] [] := by
  intro n
  induction n with
  | zero =>
    intro x1 F G h
    exact False.elim h
  | succ n ih =>
    intro x1 F G h
    refine x_aload_n (pc' := 11) K dX0_either_10 0 rfl rfl ?_
    refine xw0_0g_at (pc' := 14) K hinX0_either_X0 uX0_either_f27 dX0_either_11 rfl ?_
    refine x_aload_n (pc' := 15) K dX0_either_14 0 rfl rfl ?_
    refine xw0_0g_bytes (pc' := 18) K hinX0_either_X0 uX0_either_f20 dX0_either_15 rfl ?_
    refine xw0_3g_size (pc' := 21) K hinX0_either_X1 uX0_either_f34 dX0_either_18 rfl ?_
    refine x_icmp_ge (tgt := 66) (pc' := 24) K dX0_either_21 rfl rfl (fun c21 => ?_) (fun c21 => ?_)
    · replace h := h.1 c21
      refine x_iconst (pc' := 67) (v := 1) K dX0_either_66 (by decide) rfl ?_
      exact x_zret (wf := w0 cI a) K (Or.inr rfl) h dX0_either_67
    · replace h := h.2 c21
      refine x_aload_n (pc' := 25) K dX0_either_24 0 rfl rfl ?_
      refine x_bipush (pc' := 27) (v := 124) K dX0_either_25 (by decide) rfl ?_
      refine x_callI (pc' := 30) K (mX0_sees l D cI cO a _) rfl gX0_either_X0_sees rfl dsX0_sees (by refine ⟨rfl, rfl, ⟨?_, ?_⟩, ?_, ?_⟩ <;> simp only [xrd, rmX0_sees] <;> omega) h 0 0 rfl rfl (st := []) rfl rfl (Nat.le_of_ble_eq_true rfl) dX0_either_27 rfl (fun r27 F27 G27 h => ?_)
      refine x_if_eq (tgt := 66) (pc' := 33) K dX0_either_30 rfl rfl (fun c30 => ?_) (fun c30 => ?_)
      · replace h := h.1 c30
        refine x_iconst (pc' := 67) (v := 1) K dX0_either_66 (by decide) rfl ?_
        exact x_zret (wf := w0 cI a) K (Or.inr rfl) h dX0_either_67
      · replace h := h.2 c30
        refine x_aload_n (pc' := 34) K dX0_either_33 0 rfl rfl ?_
        refine x_dup (pc' := 35) K dX0_either_34 rfl rfl ?_
        refine xw0_0g_at (pc' := 38) K hinX0_either_X0 uX0_either_f27 dX0_either_35 rfl ?_
        refine x_iconst (pc' := 39) (v := 1) K dX0_either_38 (by decide) rfl ?_
        refine x_iadd (pc' := 40) K dX0_either_39 rfl ?_
        refine xw0_0p_at (pc' := 43) K hinX0_either_X0 uX0_either_f27 dX0_either_40 rfl (fun F40 eF40 => ?_)
        replace h := h F40 eF40
        refine x_aload_n (pc' := 44) K dX0_either_43 0 rfl rfl ?_
        refine x_iload_n (pc' := 45) K dX0_either_44 1 rfl rfl ?_
        refine x_callI (pc' := 48) K (hmboth _) rfl gX0_either_X0_both rfl dsX0_both (by refine ⟨rfl, rfl, ⟨?_, ?_⟩, ?_, ?_⟩ <;> simp only [xrd] <;> omega) h 0 0 rfl rfl (st := []) rfl rfl (Nat.le_of_ble_eq_true rfl) dX0_either_45 rfl (fun r45 F45 G45 h => ?_)
        refine x_if_ne (tgt := 53) (pc' := 51) K dX0_either_48 rfl rfl (fun c48 => ?_) (fun c48 => ?_)
        · replace h := h.1 c48
          refine x_aload_n (pc' := 54) K dX0_either_53 0 rfl rfl ?_
          refine xw0_0g_code (pc' := 57) K hinX0_either_X0 uX0_either_f14 dX0_either_54 rfl ?_
          refine x_sipush (pc' := 60) (v := 20124) K dX0_either_57 (by decide) rfl ?_
          refine x_subV (pc' := 63) (wn := fun F' G' => w0 cI a (xspl F45 2 1 F') (xspl G45 0 1 G')) K (mX1_append l D cI cO (xsub a 1) 60 _) rfl gX0_either_X1_append rfl dsX1_append (by refine ⟨rfl, rfl, ⟨?_, ?_⟩, ?_, ?_⟩ <;> simp only [xrd, rmX1_append] <;> omega) h 1 0 rfl rfl (xpl8 cI a _ _) (fun F' G' => xpr8 cI a _ _ F' G') (st := []) rfl rfl (Nat.le_of_ble_eq_true rfl) dX0_either_60 rfl (fun F60 G60 h => ?_)
          obtain ⟨E60, eE60⟩ : ∃ x : xF, x = (xspl F45 2 1 F60) := ⟨_, rfl⟩
          obtain ⟨H60, eH60⟩ : ∃ x : xA, x = (xspl G45 0 1 G60) := ⟨_, rfl⟩
          refine x_weq (w' := w0 cI a E60 H60) (by subst eE60; subst eH60; rfl) ?_
          replace h := h E60 eE60
          replace h := h H60 eH60
          refine x_goto (tgt := 10) K dX0_either_63 rfl ?_
          exact ih _ _ _ h
        · replace h := h.2 c48
          refine x_iconst (pc' := 52) (v := 0) K dX0_either_51 (by decide) rfl ?_
          exact x_zret (wf := w0 cI a) K (Or.inl rfl) h dX0_either_52
set_option maxHeartbeats 4000000 in
set_option maxRecDepth 100000 in
theorem mX0_either (l : Launch) (D : va_G) (cI cO : ClassId) (a : Nat → Nat) (d : Nat)  {wboth : Int32 → xF → xA → (Int32 → xF → xA → Prop) → Prop} (hmboth : ∀ (x1 : Int32), MI l yX0_both wsX0_both (xrd (2 * d) 4) D (xtys cI cO) [.ref (a 0), .int x1] (w0 cI a) (wboth x1)) (x1 : Int32) : MI l yX0_either wsX0_either (xrd (2 * d) 5) D (xtys cI cO) [.ref (a 0), .int x1] (w0 cI a) (qX0_either wboth x1) := by
  refine MZ_of (cc := cX0_either) (maxL := 2) (own := RX0) (by decide) rfl rfl (Nat.le_of_ble_eq_true rfl) ?_
  intro p e s m args below meth c A F G Q h K
  refine x_locals [0, 1] (L' := [(0, .ref (a 0)), (1, .int _)]) rfl ?_
  refine x_aload_n (pc' := 1) K dX0_either_0 0 rfl rfl ?_
  refine x_iload_n (pc' := 2) K dX0_either_1 1 rfl rfl ?_
  refine x_callI (pc' := 5) K (hmboth _) rfl gX0_either_X0_both rfl dsX0_both (by refine ⟨rfl, rfl, ⟨?_, ?_⟩, ?_, ?_⟩ <;> simp only [xrd] <;> omega) h 0 0 rfl rfl (st := []) rfl rfl (Nat.le_of_ble_eq_true rfl) dX0_either_2 rfl (fun r2 F2 G2 h => ?_)
  refine x_if_ne (tgt := 10) (pc' := 8) K dX0_either_5 rfl rfl (fun c5 => ?_) (fun c5 => ?_)
  · replace h := h.1 c5
    obtain ⟨n10, h⟩ := h
    exact tX0_either_10 K hmboth n10 _ _ _ h
  · replace h := h.2 c5
    refine x_iconst (pc' := 9) (v := 0) K dX0_either_8 (by decide) rfl ?_
    exact x_zret (wf := w0 cI a) K (Or.inl rfl) h dX0_either_9
/-! X0_enclosed -/
theorem dsX0_enclosed : xDesc yX0_enclosed 1 := by decide +kernel
theorem uX0_enclosed_f27 : Cond.fieldLink RX0 27 "PigNinths$Reader" "at" "I" ∈ wsX0_enclosed := nw_in nwl_X0_enclosed nwe_91 (by decide +kernel)
theorem hinX0_enclosed_X0 : ∀ w ∈ wsX00, w ∈ wsX0_enclosed := nw_all nwl_X0_enclosed nwl_X00 (by decide +kernel)
set_option maxHeartbeats 4000000 in
set_option maxRecDepth 100000 in
theorem mX0_enclosed (l : Launch) (D : va_G) (cI cO : ClassId) (a : Nat → Nat) (d : Nat)  {weither : Int32 → xF → xA → (Int32 → xF → xA → Prop) → Prop} (hmeither : ∀ (x1 : Int32), MI l yX0_either wsX0_either (xrd (2 * d) 5) D (xtys cI cO) [.ref (a 0), .int x1] (w0 cI a) (weither x1)) (x1 : Int32) : MI l yX0_enclosed wsX0_enclosed (xrd (2 * d) 6) D (xtys cI cO) [.ref (a 0), .int x1] (w0 cI a) (qX0_enclosed weither x1) := by
  refine MZ_of (cc := cX0_enclosed) (maxL := 2) (own := RX0) (by decide) rfl rfl (Nat.le_of_ble_eq_true rfl) ?_
  intro p e s m args below meth c A F G Q h K
  refine x_locals [0, 1] (L' := [(0, .ref (a 0)), (1, .int _)]) rfl ?_
  refine x_aload_n (pc' := 1) K dX0_enclosed_0 0 rfl rfl ?_
  refine x_dup (pc' := 2) K dX0_enclosed_1 rfl rfl ?_
  refine xw0_0g_at (pc' := 5) K hinX0_enclosed_X0 uX0_enclosed_f27 dX0_enclosed_2 rfl ?_
  refine x_iconst (pc' := 6) (v := 1) K dX0_enclosed_5 (by decide) rfl ?_
  refine x_iadd (pc' := 7) K dX0_enclosed_6 rfl ?_
  refine xw0_0p_at (pc' := 10) K hinX0_enclosed_X0 uX0_enclosed_f27 dX0_enclosed_7 rfl (fun F7 eF7 => ?_)
  replace h := h F7 eF7
  refine x_aload_n (pc' := 11) K dX0_enclosed_10 0 rfl rfl ?_
  refine x_iload_n (pc' := 12) K dX0_enclosed_11 1 rfl rfl ?_
  refine x_callI (pc' := 15) K (hmeither _) rfl gX0_enclosed_X0_either rfl dsX0_either (by refine ⟨rfl, rfl, ⟨?_, ?_⟩, ?_, ?_⟩ <;> simp only [xrd] <;> omega) h 0 0 rfl rfl (st := []) rfl rfl (Nat.le_of_ble_eq_true rfl) dX0_enclosed_12 rfl (fun r12 F12 G12 h => ?_)
  refine x_if_eq (tgt := 27) (pc' := 18) K dX0_enclosed_15 rfl rfl (fun c15 => ?_) (fun c15 => ?_)
  · replace h := h.1 c15
    refine x_iconst (pc' := 28) (v := 0) K dX0_enclosed_27 (by decide) rfl ?_
    exact x_zret (wf := w0 cI a) K (Or.inl rfl) h dX0_enclosed_28
  · replace h := h.2 c15
    refine x_aload_n (pc' := 19) K dX0_enclosed_18 0 rfl rfl ?_
    refine x_bipush (pc' := 21) (v := 41) K dX0_enclosed_19 (by decide) rfl ?_
    refine x_callI (pc' := 24) K (mX0_sees l D cI cO a _) rfl gX0_enclosed_X0_sees rfl dsX0_sees (by refine ⟨rfl, rfl, ⟨?_, ?_⟩, ?_, ?_⟩ <;> simp only [xrd, rmX0_sees] <;> omega) h 0 0 rfl rfl (st := []) rfl rfl (Nat.le_of_ble_eq_true rfl) dX0_enclosed_21 rfl (fun r21 F21 G21 h => ?_)
    refine x_if_ne (tgt := 29) (pc' := 27) K dX0_enclosed_24 rfl rfl (fun c24 => ?_) (fun c24 => ?_)
    · replace h := h.1 c24
      refine x_aload_n (pc' := 30) K dX0_enclosed_29 0 rfl rfl ?_
      refine x_dup (pc' := 31) K dX0_enclosed_30 rfl rfl ?_
      refine xw0_0g_at (pc' := 34) K hinX0_enclosed_X0 uX0_enclosed_f27 dX0_enclosed_31 rfl ?_
      refine x_iconst (pc' := 35) (v := 1) K dX0_enclosed_34 (by decide) rfl ?_
      refine x_iadd (pc' := 36) K dX0_enclosed_35 rfl ?_
      refine xw0_0p_at (pc' := 39) K hinX0_enclosed_X0 uX0_enclosed_f27 dX0_enclosed_36 rfl (fun F36 eF36 => ?_)
      replace h := h F36 eF36
      refine x_iconst (pc' := 40) (v := 1) K dX0_enclosed_39 (by decide) rfl ?_
      exact x_zret (wf := w0 cI a) K (Or.inr rfl) h dX0_enclosed_40
    · replace h := h.2 c24
      refine x_iconst (pc' := 28) (v := 0) K dX0_enclosed_27 (by decide) rfl ?_
      exact x_zret (wf := w0 cI a) K (Or.inl rfl) h dX0_enclosed_28
/-! X0_single -/
theorem uX0_single_f27 : Cond.fieldLink RX0 27 "PigNinths$Reader" "at" "I" ∈ wsX0_single := nw_in nwl_X0_single nwe_91 (by decide +kernel)
theorem hinX0_single_X0 : ∀ w ∈ wsX00, w ∈ wsX0_single := nw_all nwl_X0_single nwl_X00 (by decide +kernel)
theorem uX0_single_f14 : Cond.fieldLink RX0 14 "PigNinths$Reader" "code" "LPigNinths$Row;" ∈ wsX0_single := nw_in nwl_X0_single nwe_88 (by decide +kernel)
set_option maxHeartbeats 4000000 in
set_option maxRecDepth 100000 in
theorem mX0_single (l : Launch) (D : va_G) (cI cO : ClassId) (a : Nat → Nat) (d : Nat)  {wsingle : Int32 → xF → xA → (Int32 → xF → xA → Prop) → Prop} (hmsingle : ∀ (x1 : Int32), MI l yX0_single wsX0_single (xrd (2 * d) 0) D (xtys cI cO) [.ref (a 0), .int x1] (w0 cI a) (wsingle x1)) {wenclosed : Int32 → xF → xA → (Int32 → xF → xA → Prop) → Prop} (hmenclosed : ∀ (x1 : Int32), MI l yX0_enclosed wsX0_enclosed (xrd (2 * d) 6) D (xtys cI cO) [.ref (a 0), .int x1] (w0 cI a) (wenclosed x1)) (x1 : Int32) : MI l yX0_single wsX0_single (xrd (2 * d + 2) 0) D (xtys cI cO) [.ref (a 0), .int x1] (w0 cI a) (qX0_single wsingle wenclosed x1) := by
  refine MZ_of (cc := cX0_single) (maxL := 2) (own := RX0) (by decide) rfl rfl (Nat.le_of_ble_eq_true rfl) ?_
  intro p e s m args below meth c A F G Q h K
  refine x_locals [0, 1] (L' := [(0, .ref (a 0)), (1, .int _)]) rfl ?_
  refine x_aload_n (pc' := 1) K dX0_single_0 0 rfl rfl ?_
  refine x_callI (pc' := 4) K (mX0_seesDigit l D cI cO a) rfl gX0_single_X0_seesDigit rfl dsX0_seesDigit (by refine ⟨rfl, rfl, ⟨?_, ?_⟩, ?_, ?_⟩ <;> simp only [xrd, rmX0_seesDigit] <;> omega) h 0 0 rfl rfl (st := []) rfl rfl (Nat.le_of_ble_eq_true rfl) dX0_single_1 rfl (fun r1 F1 G1 h => ?_)
  refine x_if_eq (tgt := 13) (pc' := 7) K dX0_single_4 rfl rfl (fun c4 => ?_) (fun c4 => ?_)
  · replace h := h.1 c4
    refine x_aload_n (pc' := 14) K dX0_single_13 0 rfl rfl ?_
    refine x_callI (pc' := 17) K (mX0_readsName l D cI cO a) rfl gX0_single_X0_readsName rfl dsX0_readsName (by refine ⟨rfl, rfl, ⟨?_, ?_⟩, ?_, ?_⟩ <;> simp only [xrd, rmX0_readsName] <;> omega) h 0 0 rfl rfl (st := []) rfl rfl (Nat.le_of_ble_eq_true rfl) dX0_single_14 rfl (fun r14 F14 G14 h => ?_)
    refine x_if_eq (tgt := 22) (pc' := 20) K dX0_single_17 rfl rfl (fun c17 => ?_) (fun c17 => ?_)
    · replace h := h.1 c17
      refine x_iload_n (pc' := 23) K dX0_single_22 1 rfl rfl ?_
      refine x_iconst (pc' := 24) (v := 5) K dX0_single_23 (by decide) rfl ?_
      refine x_icmp_lt (tgt := 29) (pc' := 27) K dX0_single_24 rfl rfl (fun c24 => ?_) (fun c24 => ?_)
      · replace h := h.1 c24
        refine x_aload_n (pc' := 30) K dX0_single_29 0 rfl rfl ?_
        refine x_bipush (pc' := 32) (v := 33) K dX0_single_30 (by decide) rfl ?_
        refine x_callI (pc' := 35) K (mX0_sees l D cI cO a _) rfl gX0_single_X0_sees rfl dsX0_sees (by refine ⟨rfl, rfl, ⟨?_, ?_⟩, ?_, ?_⟩ <;> simp only [xrd, rmX0_sees] <;> omega) h 0 0 rfl rfl (st := []) rfl rfl (Nat.le_of_ble_eq_true rfl) dX0_single_32 rfl (fun r32 F32 G32 h => ?_)
        refine x_if_eq (tgt := 72) (pc' := 38) K dX0_single_35 rfl rfl (fun c35 => ?_) (fun c35 => ?_)
        · replace h := h.1 c35
          refine x_aload_n (pc' := 73) K dX0_single_72 0 rfl rfl ?_
          refine x_bipush (pc' := 75) (v := 40) K dX0_single_73 (by decide) rfl ?_
          refine x_callI (pc' := 78) K (mX0_sees l D cI cO a _) rfl gX0_single_X0_sees rfl dsX0_sees (by refine ⟨rfl, rfl, ⟨?_, ?_⟩, ?_, ?_⟩ <;> simp only [xrd, rmX0_sees] <;> omega) h 0 0 rfl rfl (st := []) rfl rfl (Nat.le_of_ble_eq_true rfl) dX0_single_75 rfl (fun r75 F75 G75 h => ?_)
          refine x_if_eq (tgt := 95) (pc' := 81) K dX0_single_78 rfl rfl (fun c78 => ?_) (fun c78 => ?_)
          · replace h := h.1 c78
            refine x_iconst (pc' := 96) (v := 0) K dX0_single_95 (by decide) rfl ?_
            exact x_zret (wf := w0 cI a) K (Or.inl rfl) h dX0_single_96
          · replace h := h.2 c78
            refine x_aload_n (pc' := 82) K dX0_single_81 0 rfl rfl ?_
            refine x_iload_n (pc' := 83) K dX0_single_82 1 rfl rfl ?_
            refine x_iconst (pc' := 84) (v := 1) K dX0_single_83 (by decide) rfl ?_
            refine x_iadd (pc' := 85) K dX0_single_84 rfl ?_
            refine x_callI (pc' := 88) K (hmenclosed _) rfl gX0_single_X0_enclosed rfl dsX0_enclosed (by refine ⟨rfl, rfl, ⟨?_, ?_⟩, ?_, ?_⟩ <;> simp only [xrd] <;> omega) h 0 0 rfl rfl (st := []) rfl rfl (Nat.le_of_ble_eq_true rfl) dX0_single_85 rfl (fun r85 F85 G85 h => ?_)
            refine x_if_eq (tgt := 95) (pc' := 91) K dX0_single_88 rfl rfl (fun c88 => ?_) (fun c88 => ?_)
            · replace h := h.1 c88
              refine x_iconst (pc' := 96) (v := 0) K dX0_single_95 (by decide) rfl ?_
              exact x_zret (wf := w0 cI a) K (Or.inl rfl) h dX0_single_96
            · replace h := h.2 c88
              refine x_iconst (pc' := 92) (v := 1) K dX0_single_91 (by decide) rfl ?_
              refine x_goto (tgt := 96) K dX0_single_92 rfl ?_
              exact x_zret (wf := w0 cI a) K (Or.inr rfl) h dX0_single_96
        · replace h := h.2 c35
          refine x_aload_n (pc' := 39) K dX0_single_38 0 rfl rfl ?_
          refine x_dup (pc' := 40) K dX0_single_39 rfl rfl ?_
          refine xw0_0g_at (pc' := 43) K hinX0_single_X0 uX0_single_f27 dX0_single_40 rfl ?_
          refine x_iconst (pc' := 44) (v := 1) K dX0_single_43 (by decide) rfl ?_
          refine x_iadd (pc' := 45) K dX0_single_44 rfl ?_
          refine xw0_0p_at (pc' := 48) K hinX0_single_X0 uX0_single_f27 dX0_single_45 rfl (fun F45 eF45 => ?_)
          replace h := h F45 eF45
          refine x_aload_n (pc' := 49) K dX0_single_48 0 rfl rfl ?_
          refine x_iload_n (pc' := 50) K dX0_single_49 1 rfl rfl ?_
          refine x_iconst (pc' := 51) (v := 1) K dX0_single_50 (by decide) rfl ?_
          refine x_iadd (pc' := 52) K dX0_single_51 rfl ?_
          refine x_callI (pc' := 55) K (hmsingle _) rfl gX0_single_X0_single rfl dsX0_single (by refine ⟨rfl, rfl, ⟨?_, ?_⟩, ?_, ?_⟩ <;> simp only [xrd] <;> omega) h 0 0 rfl rfl (st := []) rfl rfl (Nat.le_of_ble_eq_true rfl) dX0_single_52 rfl (fun r52 F52 G52 h => ?_)
          refine x_if_ne (tgt := 60) (pc' := 58) K dX0_single_55 rfl rfl (fun c55 => ?_) (fun c55 => ?_)
          · replace h := h.1 c55
            refine x_aload_n (pc' := 61) K dX0_single_60 0 rfl rfl ?_
            refine xw0_0g_code (pc' := 64) K hinX0_single_X0 uX0_single_f14 dX0_single_61 rfl ?_
            refine x_sipush (pc' := 67) (v := 20033) K dX0_single_64 (by decide) rfl ?_
            refine x_subV (pc' := 70) (wn := fun F' G' => w0 cI a (xspl F52 2 1 F') (xspl G52 0 1 G')) K (mX1_append l D cI cO (xsub a 1) 60 _) rfl gX0_single_X1_append rfl dsX1_append (by refine ⟨rfl, rfl, ⟨?_, ?_⟩, ?_, ?_⟩ <;> simp only [xrd, rmX1_append] <;> omega) h 1 0 rfl rfl (xpl8 cI a _ _) (fun F' G' => xpr8 cI a _ _ F' G') (st := []) rfl rfl (Nat.le_of_ble_eq_true rfl) dX0_single_67 rfl (fun F67 G67 h => ?_)
            obtain ⟨E67, eE67⟩ : ∃ x : xF, x = (xspl F52 2 1 F67) := ⟨_, rfl⟩
            obtain ⟨H67, eH67⟩ : ∃ x : xA, x = (xspl G52 0 1 G67) := ⟨_, rfl⟩
            refine x_weq (w' := w0 cI a E67 H67) (by subst eE67; subst eH67; rfl) ?_
            replace h := h E67 eE67
            replace h := h H67 eH67
            refine x_iconst (pc' := 71) (v := 1) K dX0_single_70 (by decide) rfl ?_
            exact x_zret (wf := w0 cI a) K (Or.inr rfl) h dX0_single_71
          · replace h := h.2 c55
            refine x_iconst (pc' := 59) (v := 0) K dX0_single_58 (by decide) rfl ?_
            exact x_zret (wf := w0 cI a) K (Or.inl rfl) h dX0_single_59
      · replace h := h.2 c24
        refine x_iconst (pc' := 28) (v := 0) K dX0_single_27 (by decide) rfl ?_
        exact x_zret (wf := w0 cI a) K (Or.inl rfl) h dX0_single_28
    · replace h := h.2 c17
      refine x_iconst (pc' := 21) (v := 1) K dX0_single_20 (by decide) rfl ?_
      exact x_zret (wf := w0 cI a) K (Or.inr rfl) h dX0_single_21
  · replace h := h.2 c4
    refine x_aload_n (pc' := 8) K dX0_single_7 0 rfl rfl ?_
    refine x_callV (pc' := 11) K (mX0_number l D cI cO a) rfl gX0_single_X0_number rfl dsX0_number (by refine ⟨rfl, rfl, ⟨?_, ?_⟩, ?_, ?_⟩ <;> simp only [xrd, rmX0_number] <;> omega) h 0 0 rfl rfl (st := []) rfl rfl (Nat.le_of_ble_eq_true rfl) dX0_single_8 rfl (fun F8 G8 h => ?_)
    refine x_iconst (pc' := 12) (v := 1) K dX0_single_11 (by decide) rfl ?_
    exact x_zret (wf := w0 cI a) K (Or.inr rfl) h dX0_single_12
theorem mX0_single_d (l : Launch) (D : va_G) (cI cO : ClassId) (a : Nat → Nat) : ∀ (d : Nat) (x1 : Int32), MI l yX0_single wsX0_single (xrd (2 * d) 0) D (xtys cI cO) [.ref (a 0), .int x1] (w0 cI a) (qX0_single_d d x1) := by
  intro d
  induction d with
  | zero => exact fun x1 F G sz Q h => False.elim h
  | succ d ih => exact fun x1 => mX0_single l D cI cO a d ih (fun x1 => mX0_enclosed l D cI cO a d (fun x1 => mX0_either l D cI cO a d (fun x1 => mX0_both l D cI cO a d (fun x1 => mX0_compared l D cI cO a d (fun x1 => mX0_added l D cI cO a d (fun x1 => mX0_multiplied l D cI cO a d ih x1) x1) x1) x1) x1) x1) x1
abbrev rmX0_eitherT : Room := { frames := 127, cells := 0, slots := 0, locals := 7700 }
theorem mX0_eitherT (l : Launch) (D : va_G) (cI cO : ClassId) (a : Nat → Nat) (x1 : Int32) : MI l yX0_either wsX0_either rmX0_eitherT D (xtys cI cO) [.ref (a 0), .int x1] (w0 cI a) (qX0_eitherT x1) := (fun x1 => mX0_either l D cI cO a 7 (fun x1 => mX0_both l D cI cO a 7 (fun x1 => mX0_compared l D cI cO a 7 (fun x1 => mX0_added l D cI cO a 7 (fun x1 => mX0_multiplied l D cI cO a 7 (mX0_single_d l D cI cO a 7) x1) x1) x1) x1) x1) x1
/-! X0_read -/
set_option maxHeartbeats 4000000 in
set_option maxRecDepth 100000 in
theorem xpl9 (cI : ClassId) (a : Nat → Nat) (F : xF) (G : xA) : (w01 cI a F G).Perm (xpick (bw01 cI a F G) [0, 1] ++ w11 60 60 cI (xcat 2 (xsub a 3) (xsub a 5)) (xcat 1 (xsub F 3) (xsub F 4)) (xcat 1 (xsub G 1) (xsub G 2))) := xperm0 (bl := bw01 cI a F G) (n := 4) rfl rfl [0, 1] [2, 3] (by decide +kernel) rfl rfl
set_option maxHeartbeats 4000000 in
set_option maxRecDepth 100000 in
theorem xpr9 (cI : ClassId) (a : Nat → Nat) (F : xF) (G : xA) (F' : xF) (G' : xA) : (w01 cI a (xspl (xspl F 3 1 F') 4 1 (xsub F' 1)) (xspl (xspl G 1 1 G') 2 1 (xsub G' 1))).Perm (xpick (bw01 cI a F G) [0, 1] ++ w11 60 60 cI (xcat 2 (xsub a 3) (xsub a 5)) F' G') := xperm0 (bl := bw01 cI a (xspl (xspl F 3 1 F') 4 1 (xsub F' 1)) (xspl (xspl G 1 1 G') 2 1 (xsub G' 1))) (n := 4) rfl rfl [0, 1] [2, 3] (by decide +kernel) rfl rfl
set_option maxHeartbeats 4000000 in
set_option maxRecDepth 100000 in
theorem xpl10 (cI : ClassId) (a : Nat → Nat) (F : xF) (G : xA) : (w01 cI a F G).Perm (xpick (bw01 cI a F G) [3] ++ w0 cI (xsub a 0) (xsub F 0) (xsub G 0)) := xperm0 (bl := bw01 cI a F G) (n := 4) rfl rfl [3] [0, 1, 2] (by decide +kernel) rfl rfl
set_option maxHeartbeats 4000000 in
set_option maxRecDepth 100000 in
theorem xpr10 (cI : ClassId) (a : Nat → Nat) (F : xF) (G : xA) (F' : xF) (G' : xA) : (w01 cI a (xspl F 0 4 F') (xspl G 0 2 G')).Perm (xpick (bw01 cI a F G) [3] ++ w0 cI (xsub a 0) F' G') := xperm0 (bl := bw01 cI a (xspl F 0 4 F') (xspl G 0 2 G')) (n := 4) rfl rfl [3] [0, 1, 2] (by decide +kernel) rfl rfl
abbrev rmX0_read : Room := { frames := 128, cells := 0, slots := 0, locals := 7721 }
theorem dsX0_read : xDesc yX0_read 2 := by decide +kernel
theorem uX0_read_f20 : Cond.fieldLink RX0 20 "PigNinths$Reader" "bytes" "LPigNinths$Row;" ∈ wsX0_read := nw_in nwl_X0_read nwe_89 (by decide +kernel)
theorem hinX0_read_X0 : ∀ w ∈ wsX00, w ∈ wsX0_read := nw_all nwl_X0_read nwl_X00 (by decide +kernel)
theorem uX0_read_f23 : Cond.fieldLink RX0 23 "PigNinths$Reader" "names" "I" ∈ wsX0_read := nw_in nwl_X0_read nwe_90 (by decide +kernel)
theorem uX0_read_f27 : Cond.fieldLink RX0 27 "PigNinths$Reader" "at" "I" ∈ wsX0_read := nw_in nwl_X0_read nwe_91 (by decide +kernel)
theorem uX0_read_f14 : Cond.fieldLink RX0 14 "PigNinths$Reader" "code" "LPigNinths$Row;" ∈ wsX0_read := nw_in nwl_X0_read nwe_88 (by decide +kernel)
theorem uX0_read_f34 : Cond.fieldLink RX0 34 "PigNinths$Row" "size" "I" ∈ wsX0_read := nw_in nwl_X0_read nwe_104 (by decide +kernel)
theorem hinX0_read_X1 : ∀ w ∈ wsX10, w ∈ wsX0_read := nw_all nwl_X0_read nwl_X10 (by decide +kernel)
set_option maxHeartbeats 4000000 in
set_option maxRecDepth 100000 in
theorem mX0_read (l : Launch) (D : va_G) (cI cO : ClassId) (a : Nat → Nat)  (x2 : Int32) : MI l yX0_read wsX0_read rmX0_read D (xtys cI cO) [.ref (a 0), .ref (a 5), .int x2] (w01 cI a) (qX0_read x2) := by
  refine MI_of (cc := cX0_read) (maxL := 4) (own := RX0) (by decide) rfl rfl (Nat.le_of_ble_eq_true rfl) ?_
  intro p e s m args below meth c A F G Q h K
  refine x_locals [0, 1, 2] (L' := [(0, .ref (a 0)), (1, .ref (a 5)), (2, .int _)]) rfl ?_
  refine x_aload_n (pc' := 1) K dX0_read_0 0 rfl rfl ?_
  refine xw01_0g_bytes (pc' := 4) K hinX0_read_X0 uX0_read_f20 dX0_read_1 rfl ?_
  refine x_aload_n (pc' := 5) K dX0_read_4 1 rfl rfl ?_
  refine x_subV (pc' := 8) (wn := fun F' G' => w01 cI a (xspl (xspl F 3 1 F') 4 1 (xsub F' 1)) (xspl (xspl G 1 1 G') 2 1 (xsub G' 1))) K (mX1_takeFrom l D cI cO (xcat 2 (xsub a 3) (xsub a 5)) 60 60) rfl gX0_read_X1_takeFrom rfl dsX1_takeFrom ⟨rfl, rfl, ⟨Nat.le_of_ble_eq_true rfl, Nat.le_of_ble_eq_true rfl⟩, Nat.le_of_ble_eq_true rfl, Nat.le_of_ble_eq_true rfl⟩ h 1 0 rfl rfl (xpl9 cI a _ _) (fun F' G' => xpr9 cI a _ _ F' G') (st := []) rfl rfl (Nat.le_of_ble_eq_true rfl) dX0_read_5 rfl (fun F5 G5 h => ?_)
  obtain ⟨E5, eE5⟩ : ∃ x : xF, x = (xspl (xspl F 3 1 F5) 4 1 (xsub F5 1)) := ⟨_, rfl⟩
  obtain ⟨H5, eH5⟩ : ∃ x : xA, x = (xspl (xspl G 1 1 G5) 2 1 (xsub G5 1)) := ⟨_, rfl⟩
  refine x_weq (w' := w01 cI a E5 H5) (by subst eE5; subst eH5; rfl) ?_
  replace h := h E5 eE5
  replace h := h H5 eH5
  refine x_aload_n (pc' := 9) K dX0_read_8 0 rfl rfl ?_
  refine x_iconst (pc' := 10) (v := 3) K dX0_read_9 (by decide) rfl ?_
  refine x_iload_n (pc' := 11) K dX0_read_10 2 rfl rfl ?_
  refine x_imul (pc' := 12) K dX0_read_11 rfl ?_
  refine xw01_0p_names (pc' := 15) K hinX0_read_X0 uX0_read_f23 dX0_read_12 rfl (fun F12 eF12 => ?_)
  replace h := h F12 eF12
  refine x_aload_n (pc' := 16) K dX0_read_15 0 rfl rfl ?_
  refine x_iconst (pc' := 17) (v := 0) K dX0_read_16 (by decide) rfl ?_
  refine xw01_0p_at (pc' := 20) K hinX0_read_X0 uX0_read_f27 dX0_read_17 rfl (fun F17 eF17 => ?_)
  replace h := h F17 eF17
  refine x_aload_n (pc' := 21) K dX0_read_20 0 rfl rfl ?_
  refine xw01_0g_code (pc' := 24) K hinX0_read_X0 uX0_read_f14 dX0_read_21 rfl ?_
  refine x_iconst (pc' := 25) (v := 0) K dX0_read_24 (by decide) rfl ?_
  refine xw01_1p_size (pc' := 28) K hinX0_read_X1 uX0_read_f34 dX0_read_25 rfl (fun F25 eF25 => ?_)
  replace h := h F25 eF25
  refine x_aload_n (pc' := 29) K dX0_read_28 0 rfl rfl ?_
  refine x_iconst (pc' := 30) (v := 0) K dX0_read_29 (by decide) rfl ?_
  refine x_subI (pc' := 33) (wn := fun F' G' => w01 cI a (xspl F25 0 4 F') (xspl H5 0 2 G')) K (mX0_eitherT l D cI cO (xsub a 0) _) rfl gX0_read_X0_either rfl dsX0_either ⟨rfl, rfl, ⟨Nat.le_of_ble_eq_true rfl, Nat.le_of_ble_eq_true rfl⟩, Nat.le_of_ble_eq_true rfl, Nat.le_of_ble_eq_true rfl⟩ h 0 0 rfl rfl (xpl10 cI a _ _) (fun F' G' => xpr10 cI a _ _ F' G') (st := []) rfl rfl (Nat.le_of_ble_eq_true rfl) dX0_read_30 rfl (fun r30 F30 G30 h => ?_)
  obtain ⟨E30, eE30⟩ : ∃ x : xF, x = (xspl F25 0 4 F30) := ⟨_, rfl⟩
  obtain ⟨H30, eH30⟩ : ∃ x : xA, x = (xspl H5 0 2 G30) := ⟨_, rfl⟩
  refine x_weq (w' := w01 cI a E30 H30) (by subst eE30; subst eH30; rfl) ?_
  replace h := h E30 eE30
  replace h := h H30 eH30
  refine x_if_eq (tgt := 54) (pc' := 36) K dX0_read_33 rfl rfl (fun c33 => ?_) (fun c33 => ?_)
  · replace h := h.1 c33
    refine x_iconst (pc' := 55) (v := 0) K dX0_read_54 (by decide) rfl ?_
    refine x_istore_n (pc' := 56) (i := 3) K dX0_read_55 rfl (by decide) [1, 2, 3, 0] (L' := [(0, .ref (a 0)), (1, .ref (a 5)), (2, .int _), (3, .int _)]) rfl rfl ?_
    refine x_iload_n (pc' := 57) K dX0_read_56 3 rfl rfl ?_
    refine x_if_eq (tgt := 64) (pc' := 60) K dX0_read_57 rfl rfl (fun c57 => ?_) (fun c57 => ?_)
    · replace h := h.1 c57
      refine x_aload_n (pc' := 65) K dX0_read_64 0 rfl rfl ?_
      refine xw01_0g_at (pc' := 68) K hinX0_read_X0 uX0_read_f27 dX0_read_65 rfl ?_
      exact x_iret (wf := w01 cI a) K h dX0_read_68
    · replace h := h.2 c57
      refine x_iconst (pc' := 61) (v := -1) K dX0_read_60 (by decide) rfl ?_
      refine x_goto (tgt := 68) K dX0_read_61 rfl ?_
      exact x_iret (wf := w01 cI a) K h dX0_read_68
  · replace h := h.2 c33
    refine x_aload_n (pc' := 37) K dX0_read_36 0 rfl rfl ?_
    refine xw01_0g_at (pc' := 40) K hinX0_read_X0 uX0_read_f27 dX0_read_37 rfl ?_
    refine x_aload_n (pc' := 41) K dX0_read_40 0 rfl rfl ?_
    refine xw01_0g_bytes (pc' := 44) K hinX0_read_X0 uX0_read_f20 dX0_read_41 rfl ?_
    refine xw01_3g_size (pc' := 47) K hinX0_read_X1 uX0_read_f34 dX0_read_44 rfl ?_
    refine x_icmp_ne (tgt := 54) (pc' := 50) K dX0_read_47 rfl rfl (fun c47 => ?_) (fun c47 => ?_)
    · replace h := h.1 c47
      refine x_iconst (pc' := 55) (v := 0) K dX0_read_54 (by decide) rfl ?_
      refine x_istore_n (pc' := 56) (i := 3) K dX0_read_55 rfl (by decide) [1, 2, 3, 0] (L' := [(0, .ref (a 0)), (1, .ref (a 5)), (2, .int _), (3, .int _)]) rfl rfl ?_
      refine x_iload_n (pc' := 57) K dX0_read_56 3 rfl rfl ?_
      refine x_if_eq (tgt := 64) (pc' := 60) K dX0_read_57 rfl rfl (fun c57 => ?_) (fun c57 => ?_)
      · replace h := h.1 c57
        refine x_aload_n (pc' := 65) K dX0_read_64 0 rfl rfl ?_
        refine xw01_0g_at (pc' := 68) K hinX0_read_X0 uX0_read_f27 dX0_read_65 rfl ?_
        exact x_iret (wf := w01 cI a) K h dX0_read_68
      · replace h := h.2 c57
        refine x_iconst (pc' := 61) (v := -1) K dX0_read_60 (by decide) rfl ?_
        refine x_goto (tgt := 68) K dX0_read_61 rfl ?_
        exact x_iret (wf := w01 cI a) K h dX0_read_68
    · replace h := h.2 c47
      refine x_iconst (pc' := 51) (v := 1) K dX0_read_50 (by decide) rfl ?_
      refine x_goto (tgt := 55) K dX0_read_51 rfl ?_
      refine x_istore_n (pc' := 56) (i := 3) K dX0_read_55 rfl (by decide) [1, 2, 3, 0] (L' := [(0, .ref (a 0)), (1, .ref (a 5)), (2, .int _), (3, .int _)]) rfl rfl ?_
      refine x_iload_n (pc' := 57) K dX0_read_56 3 rfl rfl ?_
      refine x_if_eq (tgt := 64) (pc' := 60) K dX0_read_57 rfl rfl (fun c57 => ?_) (fun c57 => ?_)
      · replace h := h.1 c57
        refine x_aload_n (pc' := 65) K dX0_read_64 0 rfl rfl ?_
        refine xw01_0g_at (pc' := 68) K hinX0_read_X0 uX0_read_f27 dX0_read_65 rfl ?_
        exact x_iret (wf := w01 cI a) K h dX0_read_68
      · replace h := h.2 c57
        refine x_iconst (pc' := 61) (v := -1) K dX0_read_60 (by decide) rfl ?_
        refine x_goto (tgt := 68) K dX0_read_61 rfl ?_
        exact x_iret (wf := w01 cI a) K h dX0_read_68
end
