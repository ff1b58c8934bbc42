section
variable {p : Program} {l : Launch} {e : Env} {s : State} {m : MethodId} {args : Array Value} {below : List Frame} {meth : Method} {c : Code} {D : va_G} {cI cO : ClassId} {A : Nat → Prop} {a : Nat → Nat} {d : Nat}
/-! X6_voice -/
set_option maxHeartbeats 4000000 in
set_option maxRecDepth 100000 in
theorem xpl35 (cI : ClassId) (cO : ClassId) (a : Nat → Nat) (F : xF) (G : xA) : (w6 cI cO a F G).Perm (List.flatMap (bw6 cI cO a F G) [0, 1, 2, 3, 4, 5, 6, 7, 8, 9, 10, 11, 12, 13, 14, 15, 16, 17, 18, 19, 20, 21, 22, 23, 24, 25, 26, 27, 28, 29, 30, 31, 32, 33, 34, 35, 36, 37, 38, 39, 40, 41, 42, 45, 46, 47, 48, 49, 50, 51, 52, 53] ++ w4 cI (xsub a 93) (xsub F 37) (xsub G 65)) := xpermF (bf := bw6 cI cO a F G) (ns := [0, 1, 2, 3, 4, 5, 6, 7, 8, 9, 10, 11, 12, 13, 14, 15, 16, 17, 18, 19, 20, 21, 22, 23, 24, 25, 26, 27, 28, 29, 30, 31, 32, 33, 34, 35, 36, 37, 38, 39, 40, 41, 42, 43, 44, 45, 46, 47, 48, 49, 50, 51, 52, 53]) rfl [0, 1, 2, 3, 4, 5, 6, 7, 8, 9, 10, 11, 12, 13, 14, 15, 16, 17, 18, 19, 20, 21, 22, 23, 24, 25, 26, 27, 28, 29, 30, 31, 32, 33, 34, 35, 36, 37, 38, 39, 40, 41, 42, 45, 46, 47, 48, 49, 50, 51, 52, 53] [43, 44] (by decide +kernel) rfl rfl
set_option maxHeartbeats 4000000 in
set_option maxRecDepth 100000 in
theorem xpr35 (cI : ClassId) (cO : ClassId) (a : Nat → Nat) (F : xF) (G : xA) (F' : xF) (G' : xA) : (w6 cI cO a (xspl F 37 5 F') (xspl G 65 1 G')).Perm (List.flatMap (bw6 cI cO a F G) [0, 1, 2, 3, 4, 5, 6, 7, 8, 9, 10, 11, 12, 13, 14, 15, 16, 17, 18, 19, 20, 21, 22, 23, 24, 25, 26, 27, 28, 29, 30, 31, 32, 33, 34, 35, 36, 37, 38, 39, 40, 41, 42, 45, 46, 47, 48, 49, 50, 51, 52, 53] ++ w4 cI (xsub a 93) F' G') := xpermF (bf := bw6 cI cO a (xspl F 37 5 F') (xspl G 65 1 G')) (ns := [0, 1, 2, 3, 4, 5, 6, 7, 8, 9, 10, 11, 12, 13, 14, 15, 16, 17, 18, 19, 20, 21, 22, 23, 24, 25, 26, 27, 28, 29, 30, 31, 32, 33, 34, 35, 36, 37, 38, 39, 40, 41, 42, 43, 44, 45, 46, 47, 48, 49, 50, 51, 52, 53]) rfl [0, 1, 2, 3, 4, 5, 6, 7, 8, 9, 10, 11, 12, 13, 14, 15, 16, 17, 18, 19, 20, 21, 22, 23, 24, 25, 26, 27, 28, 29, 30, 31, 32, 33, 34, 35, 36, 37, 38, 39, 40, 41, 42, 45, 46, 47, 48, 49, 50, 51, 52, 53] [43, 44] (by decide +kernel) rfl rfl
abbrev rmX6_voice : Room := { frames := 173, cells := 0, slots := 0, locals := 10428 }
theorem dsX6_voice : xDesc yX6_voice 3 := by decide +kernel
theorem uX6_voice_f64 : Cond.fieldLink RX6 64 "PigNinths" "voices" "LPigNinths$Voices;" ∈ wsX6_voice := by decide +kernel
theorem hinX6_voice_X6 : ∀ w ∈ wsX60, w ∈ wsX6_voice := by decide +kernel
theorem uX6_voice_f10 : Cond.fieldLink RX6 10 "PigNinths" "now" "LPigNinths$World;" ∈ wsX6_voice := by decide +kernel
theorem uX6_voice_f105 : Cond.fieldLink RX6 105 "PigNinths$World" "kind" "[I" ∈ wsX6_voice := by decide +kernel
theorem hinX6_voice_X5 : ∀ w ∈ wsX50, w ∈ wsX6_voice := by decide +kernel
theorem uX6_voice_f108 : Cond.fieldLink RX6 108 "PigNinths$World" "mark" "[I" ∈ wsX6_voice := by decide +kernel
theorem uX6_voice_f221 : Cond.fieldLink RX6 221 "PigNinths$Voices" "parted" "Z" ∈ wsX6_voice := by decide +kernel
theorem hinX6_voice_X4 : ∀ w ∈ wsX40, w ∈ wsX6_voice := by decide +kernel
def qX6_voice (x1 : Int32) (x2 : Int32) (x3 : Int32) (F : xF) (G : xA) (Q : Int32 → xF → xA → Prop) : Prop := qX6_isFarmer x1 (fun r1 => ((r1 = 0 → qX6_error (1 : Int32) F G (fun r18 F18 G18 => Q r18 F18 G18)) ∧ (¬ r1 = 0 → qX6_within x2 (0 : Int32) (3 : Int32) (fun r10 => ((¬ r10 = 0 → (vp_in x1 9) ∧ (vp_in x1 9) ∧ qX4_answer x1 (G 2 x1.toNatClampNeg) (G 3 x1.toNatClampNeg) x2 x3 (xsub F 37) (xsub G 65) (fun r47 F47 G47 => (∀ E47 : xF, E47 = (xspl F 37 5 F47) → (∀ H47 : xA, H47 = (xspl G 65 1 G47) → (((E47 37) = 0 → Q r47 E47 H47) ∧ (¬ (E47 37) = 0 → qX6_error (6 : Int32) E47 H47 (fun r65 F65 G65 => Q r65 F65 G65))))))) ∧ (r10 = 0 → qX6_error (1 : Int32) F G (fun r18 F18 G18 => Q r18 F18 G18)))))))
set_option maxHeartbeats 4000000 in
set_option maxRecDepth 100000 in
theorem mX6_voice (l : Launch) (D : va_G) (cI cO : ClassId) (a : Nat → Nat)  (x1 : Int32) (x2 : Int32) (x3 : Int32) : MI l yX6_voice wsX6_voice rmX6_voice D (xtys cI cO) [.ref (a 0), .int x1, .int x2, .int x3] (w6 cI cO a) (qX6_voice x1 x2 x3) := by
  refine MI_of (cc := cX6_voice) (maxL := 5) (own := RX6) (by decide) rfl rfl (Nat.le_of_ble_eq_true rfl) ?_
  intro p e s m args below meth c A F G Q h K
  refine x_locals [0, 1, 2, 3] (L' := [(0, .ref (a 0)), (1, .int _), (2, .int _), (3, .int _)]) rfl ?_
  refine x_iload_n (pc' := 1) K dX6_voice_0 1 rfl rfl ?_
  refine x_callS (pc' := 4) K (mX6_isFarmer l D cI cO a _) rfl gX6_voice_X6_isFarmer dsX6_isFarmer ⟨rfl, rfl, ⟨Nat.le_of_ble_eq_true rfl, Nat.le_of_ble_eq_true rfl⟩, Nat.le_of_ble_eq_true rfl, Nat.le_of_ble_eq_true rfl⟩ h (st := []) rfl rfl (Nat.le_of_ble_eq_true rfl) dX6_voice_1 rfl (fun r1 h => ?_)
  refine x_if_eq (tgt := 16) (pc' := 7) K dX6_voice_4 rfl rfl (fun c4 => ?_) (fun c4 => ?_)
  · replace h := h.1 c4
    refine x_aload_n (pc' := 17) K dX6_voice_16 0 rfl rfl ?_
    refine x_iconst (pc' := 18) (v := 1) K dX6_voice_17 (by decide) rfl ?_
    refine x_callI (pc' := 21) K (mX6_error l D cI cO a _) rfl gX6_voice_X6_error rfl dsX6_error ⟨rfl, rfl, ⟨Nat.le_of_ble_eq_true rfl, Nat.le_of_ble_eq_true rfl⟩, Nat.le_of_ble_eq_true rfl, Nat.le_of_ble_eq_true rfl⟩ h 6 0 rfl rfl (st := []) rfl rfl (Nat.le_of_ble_eq_true rfl) dX6_voice_18 rfl (fun r18 F18 G18 h => ?_)
    exact x_iret (wf := w6 cI cO a) K h dX6_voice_21
  · replace h := h.2 c4
    refine x_iload_n (pc' := 8) K dX6_voice_7 2 rfl rfl ?_
    refine x_iconst (pc' := 9) (v := 0) K dX6_voice_8 (by decide) rfl ?_
    refine x_iconst (pc' := 10) (v := 3) K dX6_voice_9 (by decide) rfl ?_
    refine x_callS (pc' := 13) K (mX6_within l D cI cO a _ _ _) rfl gX6_voice_X6_within dsX6_within ⟨rfl, rfl, ⟨Nat.le_of_ble_eq_true rfl, Nat.le_of_ble_eq_true rfl⟩, Nat.le_of_ble_eq_true rfl, Nat.le_of_ble_eq_true rfl⟩ h (st := []) rfl rfl (Nat.le_of_ble_eq_true rfl) dX6_voice_10 rfl (fun r10 h => ?_)
    refine x_if_ne (tgt := 22) (pc' := 16) K dX6_voice_13 rfl rfl (fun c13 => ?_) (fun c13 => ?_)
    · replace h := h.1 c13
      refine x_aload_n (pc' := 23) K dX6_voice_22 0 rfl rfl ?_
      refine xw6_0g_voices (pc' := 26) K hinX6_voice_X6 uX6_voice_f64 dX6_voice_23 rfl ?_
      refine x_iload_n (pc' := 27) K dX6_voice_26 1 rfl rfl ?_
      refine x_aload_n (pc' := 28) K dX6_voice_27 0 rfl rfl ?_
      refine xw6_0g_now (pc' := 31) K hinX6_voice_X6 uX6_voice_f10 dX6_voice_28 rfl ?_
      refine xw6_1g_kind (pc' := 34) K hinX6_voice_X5 uX6_voice_f105 dX6_voice_31 rfl ?_
      refine x_iload_n (pc' := 35) K dX6_voice_34 1 rfl rfl ?_
      obtain ⟨i35, h⟩ := h
      refine xw6_4l (pc' := 36) K i35 rfl dX6_voice_35 rfl ?_
      refine x_aload_n (pc' := 37) K dX6_voice_36 0 rfl rfl ?_
      refine xw6_0g_now (pc' := 40) K hinX6_voice_X6 uX6_voice_f10 dX6_voice_37 rfl ?_
      refine xw6_1g_mark (pc' := 43) K hinX6_voice_X5 uX6_voice_f108 dX6_voice_40 rfl ?_
      refine x_iload_n (pc' := 44) K dX6_voice_43 1 rfl rfl ?_
      obtain ⟨i44, h⟩ := h
      refine xw6_5l (pc' := 45) K i44 rfl dX6_voice_44 rfl ?_
      refine x_iload_n (pc' := 46) K dX6_voice_45 2 rfl rfl ?_
      refine x_iload_n (pc' := 47) K dX6_voice_46 3 rfl rfl ?_
      refine x_subI (pc' := 50) (wn := fun F' G' => w6 cI cO a (xspl F 37 5 F') (xspl G 65 1 G')) K (mX4_answer l D cI cO (xsub a 93) _ _ _ _ _) rfl gX6_voice_X4_answer rfl dsX4_answer ⟨rfl, rfl, ⟨Nat.le_of_ble_eq_true rfl, Nat.le_of_ble_eq_true rfl⟩, Nat.le_of_ble_eq_true rfl, Nat.le_of_ble_eq_true rfl⟩ h 4 0 rfl rfl (xpl35 cI cO a _ _) (fun F' G' => xpr35 cI cO a _ _ F' G') (st := []) rfl rfl (Nat.le_of_ble_eq_true rfl) dX6_voice_47 rfl (fun r47 F47 G47 h => ?_)
      obtain ⟨E47, eE47⟩ : ∃ x : xF, x = (xspl F 37 5 F47) := ⟨_, rfl⟩
      obtain ⟨H47, eH47⟩ : ∃ x : xA, x = (xspl G 65 1 G47) := ⟨_, rfl⟩
      refine x_weq (w' := w6 cI cO a E47 H47) (by subst eE47; subst eH47; rfl) ?_
      replace h := h E47 eE47
      replace h := h H47 eH47
      refine x_istore (pc' := 52) (i := 4) K dX6_voice_50 (by decide) [1, 2, 3, 4, 0] (L' := [(0, .ref (a 0)), (1, .int _), (2, .int _), (3, .int _), (4, .int _)]) rfl rfl ?_
      refine x_aload_n (pc' := 53) K dX6_voice_52 0 rfl rfl ?_
      refine xw6_0g_voices (pc' := 56) K hinX6_voice_X6 uX6_voice_f64 dX6_voice_53 rfl ?_
      refine xw6_93g_parted (pc' := 59) K hinX6_voice_X4 uX6_voice_f221 dX6_voice_56 rfl ?_
      refine x_if_eq (tgt := 71) (pc' := 62) K dX6_voice_59 rfl rfl (fun c59 => ?_) (fun c59 => ?_)
      · replace h := h.1 c59
        refine x_iload (pc' := 73) K dX6_voice_71 4 rfl rfl ?_
        exact x_iret (wf := w6 cI cO a) K h dX6_voice_73
      · replace h := h.2 c59
        refine x_aload_n (pc' := 63) K dX6_voice_62 0 rfl rfl ?_
        refine x_bipush (pc' := 65) (v := 6) K dX6_voice_63 (by decide) rfl ?_
        refine x_callI (pc' := 68) K (mX6_error l D cI cO a _) rfl gX6_voice_X6_error rfl dsX6_error ⟨rfl, rfl, ⟨Nat.le_of_ble_eq_true rfl, Nat.le_of_ble_eq_true rfl⟩, Nat.le_of_ble_eq_true rfl, Nat.le_of_ble_eq_true rfl⟩ h 6 0 rfl rfl (st := []) rfl rfl (Nat.le_of_ble_eq_true rfl) dX6_voice_65 rfl (fun r65 F65 G65 h => ?_)
        refine x_goto (tgt := 73) K dX6_voice_68 rfl ?_
        exact x_iret (wf := w6 cI cO a) K h dX6_voice_73
    · replace h := h.2 c13
      refine x_aload_n (pc' := 17) K dX6_voice_16 0 rfl rfl ?_
      refine x_iconst (pc' := 18) (v := 1) K dX6_voice_17 (by decide) rfl ?_
      refine x_callI (pc' := 21) K (mX6_error l D cI cO a _) rfl gX6_voice_X6_error rfl dsX6_error ⟨rfl, rfl, ⟨Nat.le_of_ble_eq_true rfl, Nat.le_of_ble_eq_true rfl⟩, Nat.le_of_ble_eq_true rfl, Nat.le_of_ble_eq_true rfl⟩ h 6 0 rfl rfl (st := []) rfl rfl (Nat.le_of_ble_eq_true rfl) dX6_voice_18 rfl (fun r18 F18 G18 h => ?_)
      exact x_iret (wf := w6 cI cO a) K h dX6_voice_21
/-! X6_body -/
set_option maxHeartbeats 4000000 in
set_option maxRecDepth 100000 in
theorem xpl36 (cI : ClassId) (cO : ClassId) (a : Nat → Nat) (F : xF) (G : xA) : (w6 cI cO a F G).Perm (List.flatMap (bw6 cI cO a F G) [0, 1, 2, 3, 4, 5, 6, 7, 8, 9, 10, 11, 12, 13, 14, 15, 16, 17, 18, 19, 20, 21, 22, 23, 24, 25, 26, 27, 28, 29, 30, 31, 32, 33, 34, 35, 36, 37, 38, 39, 40, 41, 42, 43, 45, 46, 47, 48, 49, 50, 51, 52, 53] ++ w1 30 cI (xsub a 94) (xsub F 41) (xsub G 65)) := xpermF (bf := bw6 cI cO a F G) (ns := [0, 1, 2, 3, 4, 5, 6, 7, 8, 9, 10, 11, 12, 13, 14, 15, 16, 17, 18, 19, 20, 21, 22, 23, 24, 25, 26, 27, 28, 29, 30, 31, 32, 33, 34, 35, 36, 37, 38, 39, 40, 41, 42, 43, 44, 45, 46, 47, 48, 49, 50, 51, 52, 53]) rfl [0, 1, 2, 3, 4, 5, 6, 7, 8, 9, 10, 11, 12, 13, 14, 15, 16, 17, 18, 19, 20, 21, 22, 23, 24, 25, 26, 27, 28, 29, 30, 31, 32, 33, 34, 35, 36, 37, 38, 39, 40, 41, 42, 43, 45, 46, 47, 48, 49, 50, 51, 52, 53] [44] (by decide +kernel) rfl rfl
set_option maxHeartbeats 4000000 in
set_option maxRecDepth 100000 in
theorem xpr36 (cI : ClassId) (cO : ClassId) (a : Nat → Nat) (F : xF) (G : xA) (F' : xF) (G' : xA) : (w6 cI cO a (xspl F 41 1 F') (xspl G 65 1 G')).Perm (List.flatMap (bw6 cI cO a F G) [0, 1, 2, 3, 4, 5, 6, 7, 8, 9, 10, 11, 12, 13, 14, 15, 16, 17, 18, 19, 20, 21, 22, 23, 24, 25, 26, 27, 28, 29, 30, 31, 32, 33, 34, 35, 36, 37, 38, 39, 40, 41, 42, 43, 45, 46, 47, 48, 49, 50, 51, 52, 53] ++ w1 30 cI (xsub a 94) F' G') := xpermF (bf := bw6 cI cO a (xspl F 41 1 F') (xspl G 65 1 G')) (ns := [0, 1, 2, 3, 4, 5, 6, 7, 8, 9, 10, 11, 12, 13, 14, 15, 16, 17, 18, 19, 20, 21, 22, 23, 24, 25, 26, 27, 28, 29, 30, 31, 32, 33, 34, 35, 36, 37, 38, 39, 40, 41, 42, 43, 44, 45, 46, 47, 48, 49, 50, 51, 52, 53]) rfl [0, 1, 2, 3, 4, 5, 6, 7, 8, 9, 10, 11, 12, 13, 14, 15, 16, 17, 18, 19, 20, 21, 22, 23, 24, 25, 26, 27, 28, 29, 30, 31, 32, 33, 34, 35, 36, 37, 38, 39, 40, 41, 42, 43, 45, 46, 47, 48, 49, 50, 51, 52, 53] [44] (by decide +kernel) rfl rfl
abbrev rmX6_body : Room := { frames := 3, cells := 0, slots := 0, locals := 82 }
theorem dsX6_body : xDesc yX6_body 1 := by decide +kernel
theorem uX6_body_f64 : Cond.fieldLink RX6 64 "PigNinths" "voices" "LPigNinths$Voices;" ∈ wsX6_body := by decide +kernel
theorem hinX6_body_X6 : ∀ w ∈ wsX60, w ∈ wsX6_body := by decide +kernel
theorem uX6_body_f225 : Cond.fieldLink RX6 225 "PigNinths$Voices" "trace" "LPigNinths$Row;" ∈ wsX6_body := by decide +kernel
theorem hinX6_body_X4 : ∀ w ∈ wsX40, w ∈ wsX6_body := by decide +kernel
theorem uX6_body_f135 : Cond.fieldLink RX6 135 "PigNinths$Row" "size" "I" ∈ wsX6_body := by decide +kernel
theorem hinX6_body_X1 : ∀ w ∈ wsX10, w ∈ wsX6_body := by decide +kernel
def qX6_body (x1 : Int32) (F : xF) (G : xA) (Q : Int32 → xF → xA → Prop) : Prop := qX6_within x1 (0 : Int32) ((F 41) - (1 : Int32)) (fun r14 => ((¬ r14 = 0 → qX1_at 30 x1 (xsub F 41) (xsub G 65) (fun r34 F34 G34 => (∀ E34 : xF, E34 = (xspl F 41 1 F34) → (∀ H34 : xA, H34 = (xspl G 65 1 G34) → Q r34 E34 H34)))) ∧ (r14 = 0 → qX6_error (2 : Int32) F G (fun r22 F22 G22 => Q r22 F22 G22))))
set_option maxHeartbeats 4000000 in
set_option maxRecDepth 100000 in
theorem mX6_body (l : Launch) (D : va_G) (cI cO : ClassId) (a : Nat → Nat)  (x1 : Int32) : MI l yX6_body wsX6_body rmX6_body D (xtys cI cO) [.ref (a 0), .int x1] (w6 cI cO a) (qX6_body x1) := by
  refine MI_of (cc := cX6_body) (maxL := 2) (own := RX6) (by decide) rfl rfl (Nat.le_of_ble_eq_true rfl) ?_
  intro p e s m args below meth c A F G Q h K
  refine x_locals [0, 1] (L' := [(0, .ref (a 0)), (1, .int _)]) rfl ?_
  refine x_iload_n (pc' := 1) K dX6_body_0 1 rfl rfl ?_
  refine x_iconst (pc' := 2) (v := 0) K dX6_body_1 (by decide) rfl ?_
  refine x_aload_n (pc' := 3) K dX6_body_2 0 rfl rfl ?_
  refine xw6_0g_voices (pc' := 6) K hinX6_body_X6 uX6_body_f64 dX6_body_3 rfl ?_
  refine xw6_93g_trace (pc' := 9) K hinX6_body_X4 uX6_body_f225 dX6_body_6 rfl ?_
  refine xw6_94g_size (pc' := 12) K hinX6_body_X1 uX6_body_f135 dX6_body_9 rfl ?_
  refine x_iconst (pc' := 13) (v := 1) K dX6_body_12 (by decide) rfl ?_
  refine x_isub (pc' := 14) K dX6_body_13 rfl ?_
  refine x_callS (pc' := 17) K (mX6_within l D cI cO a _ _ _) rfl gX6_body_X6_within dsX6_within ⟨rfl, rfl, ⟨Nat.le_of_ble_eq_true rfl, Nat.le_of_ble_eq_true rfl⟩, Nat.le_of_ble_eq_true rfl, Nat.le_of_ble_eq_true rfl⟩ h (st := []) rfl rfl (Nat.le_of_ble_eq_true rfl) dX6_body_14 rfl (fun r14 h => ?_)
  refine x_if_ne (tgt := 26) (pc' := 20) K dX6_body_17 rfl rfl (fun c17 => ?_) (fun c17 => ?_)
  · replace h := h.1 c17
    refine x_aload_n (pc' := 27) K dX6_body_26 0 rfl rfl ?_
    refine xw6_0g_voices (pc' := 30) K hinX6_body_X6 uX6_body_f64 dX6_body_27 rfl ?_
    refine xw6_93g_trace (pc' := 33) K hinX6_body_X4 uX6_body_f225 dX6_body_30 rfl ?_
    refine x_iload_n (pc' := 34) K dX6_body_33 1 rfl rfl ?_
    refine x_subI (pc' := 37) (wn := fun F' G' => w6 cI cO a (xspl F 41 1 F') (xspl G 65 1 G')) K (mX1_at l D cI cO (xsub a 94) 30 _) rfl gX6_body_X1_at rfl dsX1_at ⟨rfl, rfl, ⟨Nat.le_of_ble_eq_true rfl, Nat.le_of_ble_eq_true rfl⟩, Nat.le_of_ble_eq_true rfl, Nat.le_of_ble_eq_true rfl⟩ h 1 0 rfl rfl (xpl36 cI cO a _ _) (fun F' G' => xpr36 cI cO a _ _ F' G') (st := []) rfl rfl (Nat.le_of_ble_eq_true rfl) dX6_body_34 rfl (fun r34 F34 G34 h => ?_)
    obtain ⟨E34, eE34⟩ : ∃ x : xF, x = (xspl F 41 1 F34) := ⟨_, rfl⟩
    obtain ⟨H34, eH34⟩ : ∃ x : xA, x = (xspl G 65 1 G34) := ⟨_, rfl⟩
    refine x_weq (w' := w6 cI cO a E34 H34) (by subst eE34; subst eH34; rfl) ?_
    replace h := h E34 eE34
    replace h := h H34 eH34
    exact x_iret (wf := w6 cI cO a) K h dX6_body_37
  · replace h := h.2 c17
    refine x_aload_n (pc' := 21) K dX6_body_20 0 rfl rfl ?_
    refine x_iconst (pc' := 22) (v := 2) K dX6_body_21 (by decide) rfl ?_
    refine x_callI (pc' := 25) K (mX6_error l D cI cO a _) rfl gX6_body_X6_error rfl dsX6_error ⟨rfl, rfl, ⟨Nat.le_of_ble_eq_true rfl, Nat.le_of_ble_eq_true rfl⟩, Nat.le_of_ble_eq_true rfl, Nat.le_of_ble_eq_true rfl⟩ h 6 0 rfl rfl (st := []) rfl rfl (Nat.le_of_ble_eq_true rfl) dX6_body_22 rfl (fun r22 F22 G22 h => ?_)
    exact x_iret (wf := w6 cI cO a) K h dX6_body_25
/-! X6_sheet -/
abbrev rmX6_sheet : Room := { frames := 4, cells := 0, slots := 0, locals := 105 }
theorem dsX6_sheet : xDesc yX6_sheet 3 := by decide +kernel
theorem uX6_sheet_f70 : Cond.fieldLink RX6 70 "PigNinths" "sheets" "[LPigNinths$Sheet;" ∈ wsX6_sheet := by decide +kernel
theorem hinX6_sheet_X6 : ∀ w ∈ wsX60, w ∈ wsX6_sheet := by decide +kernel
def qX6_sheet_49 (Q : Int32 → xF → xA → Prop) (x1 : Int32) (x2 : Int32) (x3 : Int32) (F : xF) (G : xA) : Prop := ((x2 = 0 → (vp_in x1 4) ∧ ((x1.toNatClampNeg = 0 → qX2_becomes x2 x3 (xsub F 42) (xsub G 66) (fun F73 G73 => (∀ E73 : xF, E73 = (xspl F 42 2 F73) → (∀ H73 : xA, H73 = (xspl G 66 1 G73) → Q (1 : Int32) E73 H73)))) ∧ (x1.toNatClampNeg = 1 → qX2_becomes x2 x3 (xsub F 44) (xsub G 67) (fun F73 G73 => (∀ E73 : xF, E73 = (xspl F 44 2 F73) → (∀ H73 : xA, H73 = (xspl G 67 1 G73) → Q (1 : Int32) E73 H73)))) ∧ (x1.toNatClampNeg = 2 → qX2_becomes x2 x3 (xsub F 46) (xsub G 68) (fun F73 G73 => (∀ E73 : xF, E73 = (xspl F 46 2 F73) → (∀ H73 : xA, H73 = (xspl G 68 1 G73) → Q (1 : Int32) E73 H73)))) ∧ (x1.toNatClampNeg = 3 → qX2_becomes x2 x3 (xsub F 48) (xsub G 69) (fun F73 G73 => (∀ E73 : xF, E73 = (xspl F 48 2 F73) → (∀ H73 : xA, H73 = (xspl G 69 1 G73) → Q (1 : Int32) E73 H73)))))) ∧ (¬ x2 = 0 → ((x3 ≤ (24 : Int32) → (vp_in x1 4) ∧ ((x1.toNatClampNeg = 0 → qX2_becomes x2 x3 (xsub F 42) (xsub G 66) (fun F73 G73 => (∀ E73 : xF, E73 = (xspl F 42 2 F73) → (∀ H73 : xA, H73 = (xspl G 66 1 G73) → Q (1 : Int32) E73 H73)))) ∧ (x1.toNatClampNeg = 1 → qX2_becomes x2 x3 (xsub F 44) (xsub G 67) (fun F73 G73 => (∀ E73 : xF, E73 = (xspl F 44 2 F73) → (∀ H73 : xA, H73 = (xspl G 67 1 G73) → Q (1 : Int32) E73 H73)))) ∧ (x1.toNatClampNeg = 2 → qX2_becomes x2 x3 (xsub F 46) (xsub G 68) (fun F73 G73 => (∀ E73 : xF, E73 = (xspl F 46 2 F73) → (∀ H73 : xA, H73 = (xspl G 68 1 G73) → Q (1 : Int32) E73 H73)))) ∧ (x1.toNatClampNeg = 3 → qX2_becomes x2 x3 (xsub F 48) (xsub G 69) (fun F73 G73 => (∀ E73 : xF, E73 = (xspl F 48 2 F73) → (∀ H73 : xA, H73 = (xspl G 69 1 G73) → Q (1 : Int32) E73 H73)))))) ∧ (¬ x3 ≤ (24 : Int32) → qX6_error (1 : Int32) F G (fun r61 F61 G61 => Q r61 F61 G61)))))
def qX6_sheet (x1 : Int32) (x2 : Int32) (x3 : Int32) (F : xF) (G : xA) (Q : Int32 → xF → xA → Prop) : Prop := qX6_isSheet x1 (fun r1 => ((r1 = 0 → qX6_error (1 : Int32) F G (fun r31 F31 G31 => Q r31 F31 G31)) ∧ (¬ r1 = 0 → ((x2 = 0 → ((x2 = 0 → qX6_sheet_49 Q x1 x2 x3 F G) ∧ (¬ x2 = 0 → ((0 ≤ x3 → qX6_sheet_49 Q x1 x2 x3 F G) ∧ (¬ 0 ≤ x3 → qX6_error (3 : Int32) F G (fun r45 F45 G45 => Q r45 F45 G45)))))) ∧ (¬ x2 = 0 → ((x2 = (8 : Int32) → ((x2 = 0 → qX6_sheet_49 Q x1 x2 x3 F G) ∧ (¬ x2 = 0 → ((0 ≤ x3 → qX6_sheet_49 Q x1 x2 x3 F G) ∧ (¬ 0 ≤ x3 → qX6_error (3 : Int32) F G (fun r45 F45 G45 => Q r45 F45 G45)))))) ∧ (¬ x2 = (8 : Int32) → ((x2 = (16 : Int32) → ((x2 = 0 → qX6_sheet_49 Q x1 x2 x3 F G) ∧ (¬ x2 = 0 → ((0 ≤ x3 → qX6_sheet_49 Q x1 x2 x3 F G) ∧ (¬ 0 ≤ x3 → qX6_error (3 : Int32) F G (fun r45 F45 G45 => Q r45 F45 G45)))))) ∧ (¬ x2 = (16 : Int32) → ((x2 = (32 : Int32) → ((x2 = 0 → qX6_sheet_49 Q x1 x2 x3 F G) ∧ (¬ x2 = 0 → ((0 ≤ x3 → qX6_sheet_49 Q x1 x2 x3 F G) ∧ (¬ 0 ≤ x3 → qX6_error (3 : Int32) F G (fun r45 F45 G45 => Q r45 F45 G45)))))) ∧ (¬ x2 = (32 : Int32) → qX6_error (1 : Int32) F G (fun r31 F31 G31 => Q r31 F31 G31))))))))))))
set_option maxHeartbeats 4000000 in
set_option maxRecDepth 100000 in
theorem tX6_sheet_49 (K : XK p m c cX6_sheet 4 s args wsX6_sheet RX6 D (xtys cI cO) A meth (some .int)) {Q : Int32 → xF → xA → Prop} : ∀ (x1 : Int32) (x2 : Int32) (x3 : Int32) (F : xF) (G : xA), qX6_sheet_49 Q x1 x2 x3 F G → XJ p l e rmX6_sheet s m args below meth c 0 0 (MQ below (xQi D (w6 cI cO a) A Q) args s 0 0 A) D (xtys cI cO) A 4 (w6 cI cO a F G) 49 [(0, .ref (a 0)), (1, .int x1), (2, .int x2), (3, .int x3)] [] := by
  intro x1 x2 x3 F G h
  refine x_iload_n (pc' := 50) K dX6_sheet_49 2 rfl rfl ?_
  refine x_if_eq (tgt := 65) (pc' := 53) K dX6_sheet_50 rfl rfl (fun c50 => ?_) (fun c50 => ?_)
  · replace h := h.1 c50
    refine x_aload_n (pc' := 66) K dX6_sheet_65 0 rfl rfl ?_
    refine xw6_0g_sheets (pc' := 69) K hinX6_sheet_X6 uX6_sheet_f70 dX6_sheet_66 rfl ?_
    refine x_iload_n (pc' := 70) K dX6_sheet_69 1 rfl rfl ?_
    obtain ⟨i70, h⟩ := h
    rcases xin4 i70 with e70 | e70 | e70 | e70
    · replace h := h.1 e70
      refine xw6_96q0 (pc' := 71) K i70 e70 dX6_sheet_70 rfl ?_
      refine x_iload_n (pc' := 72) K dX6_sheet_71 2 rfl rfl ?_
      refine x_iload_n (pc' := 73) K dX6_sheet_72 3 rfl rfl ?_
      refine x_subV (pc' := 76) (wn := fun F' G' => w6 cI cO a (xspl F 42 2 F') (xspl G 66 1 G')) K (mX2_becomes l D cI cO (xsub a 97) _ _) rfl gX6_sheet_X2_becomes rfl dsX2_becomes ⟨rfl, rfl, ⟨Nat.le_of_ble_eq_true rfl, Nat.le_of_ble_eq_true rfl⟩, Nat.le_of_ble_eq_true rfl, Nat.le_of_ble_eq_true rfl⟩ h 2 0 rfl rfl (xpl31 cI cO a _ _) (fun F' G' => xpr31 cI cO a _ _ F' G') (st := []) rfl rfl (Nat.le_of_ble_eq_true rfl) dX6_sheet_73 rfl (fun F73 G73 h => ?_)
      obtain ⟨E73, eE73⟩ : ∃ x : xF, x = (xspl F 42 2 F73) := ⟨_, rfl⟩
      obtain ⟨H73, eH73⟩ : ∃ x : xA, x = (xspl G 66 1 G73) := ⟨_, rfl⟩
      refine x_weq (w' := w6 cI cO a E73 H73) (by subst eE73; subst eH73; rfl) ?_
      replace h := h E73 eE73
      replace h := h H73 eH73
      refine x_iconst (pc' := 77) (v := 1) K dX6_sheet_76 (by decide) rfl ?_
      exact x_iret (wf := w6 cI cO a) K h dX6_sheet_77
    · replace h := h.2.1 e70
      refine xw6_96q1 (pc' := 71) K i70 e70 dX6_sheet_70 rfl ?_
      refine x_iload_n (pc' := 72) K dX6_sheet_71 2 rfl rfl ?_
      refine x_iload_n (pc' := 73) K dX6_sheet_72 3 rfl rfl ?_
      refine x_subV (pc' := 76) (wn := fun F' G' => w6 cI cO a (xspl F 44 2 F') (xspl G 67 1 G')) K (mX2_becomes l D cI cO (xsub a 99) _ _) rfl gX6_sheet_X2_becomes rfl dsX2_becomes ⟨rfl, rfl, ⟨Nat.le_of_ble_eq_true rfl, Nat.le_of_ble_eq_true rfl⟩, Nat.le_of_ble_eq_true rfl, Nat.le_of_ble_eq_true rfl⟩ h 2 0 rfl rfl (xpl32 cI cO a _ _) (fun F' G' => xpr32 cI cO a _ _ F' G') (st := []) rfl rfl (Nat.le_of_ble_eq_true rfl) dX6_sheet_73 rfl (fun F73 G73 h => ?_)
      obtain ⟨E73, eE73⟩ : ∃ x : xF, x = (xspl F 44 2 F73) := ⟨_, rfl⟩
      obtain ⟨H73, eH73⟩ : ∃ x : xA, x = (xspl G 67 1 G73) := ⟨_, rfl⟩
      refine x_weq (w' := w6 cI cO a E73 H73) (by subst eE73; subst eH73; rfl) ?_
      replace h := h E73 eE73
      replace h := h H73 eH73
      refine x_iconst (pc' := 77) (v := 1) K dX6_sheet_76 (by decide) rfl ?_
      exact x_iret (wf := w6 cI cO a) K h dX6_sheet_77
    · replace h := h.2.2.1 e70
      refine xw6_96q2 (pc' := 71) K i70 e70 dX6_sheet_70 rfl ?_
      refine x_iload_n (pc' := 72) K dX6_sheet_71 2 rfl rfl ?_
      refine x_iload_n (pc' := 73) K dX6_sheet_72 3 rfl rfl ?_
      refine x_subV (pc' := 76) (wn := fun F' G' => w6 cI cO a (xspl F 46 2 F') (xspl G 68 1 G')) K (mX2_becomes l D cI cO (xsub a 101) _ _) rfl gX6_sheet_X2_becomes rfl dsX2_becomes ⟨rfl, rfl, ⟨Nat.le_of_ble_eq_true rfl, Nat.le_of_ble_eq_true rfl⟩, Nat.le_of_ble_eq_true rfl, Nat.le_of_ble_eq_true rfl⟩ h 2 0 rfl rfl (xpl33 cI cO a _ _) (fun F' G' => xpr33 cI cO a _ _ F' G') (st := []) rfl rfl (Nat.le_of_ble_eq_true rfl) dX6_sheet_73 rfl (fun F73 G73 h => ?_)
      obtain ⟨E73, eE73⟩ : ∃ x : xF, x = (xspl F 46 2 F73) := ⟨_, rfl⟩
      obtain ⟨H73, eH73⟩ : ∃ x : xA, x = (xspl G 68 1 G73) := ⟨_, rfl⟩
      refine x_weq (w' := w6 cI cO a E73 H73) (by subst eE73; subst eH73; rfl) ?_
      replace h := h E73 eE73
      replace h := h H73 eH73
      refine x_iconst (pc' := 77) (v := 1) K dX6_sheet_76 (by decide) rfl ?_
      exact x_iret (wf := w6 cI cO a) K h dX6_sheet_77
    · replace h := h.2.2.2 e70
      refine xw6_96q3 (pc' := 71) K i70 e70 dX6_sheet_70 rfl ?_
      refine x_iload_n (pc' := 72) K dX6_sheet_71 2 rfl rfl ?_
      refine x_iload_n (pc' := 73) K dX6_sheet_72 3 rfl rfl ?_
      refine x_subV (pc' := 76) (wn := fun F' G' => w6 cI cO a (xspl F 48 2 F') (xspl G 69 1 G')) K (mX2_becomes l D cI cO (xsub a 103) _ _) rfl gX6_sheet_X2_becomes rfl dsX2_becomes ⟨rfl, rfl, ⟨Nat.le_of_ble_eq_true rfl, Nat.le_of_ble_eq_true rfl⟩, Nat.le_of_ble_eq_true rfl, Nat.le_of_ble_eq_true rfl⟩ h 2 0 rfl rfl (xpl34 cI cO a _ _) (fun F' G' => xpr34 cI cO a _ _ F' G') (st := []) rfl rfl (Nat.le_of_ble_eq_true rfl) dX6_sheet_73 rfl (fun F73 G73 h => ?_)
      obtain ⟨E73, eE73⟩ : ∃ x : xF, x = (xspl F 48 2 F73) := ⟨_, rfl⟩
      obtain ⟨H73, eH73⟩ : ∃ x : xA, x = (xspl G 69 1 G73) := ⟨_, rfl⟩
      refine x_weq (w' := w6 cI cO a E73 H73) (by subst eE73; subst eH73; rfl) ?_
      replace h := h E73 eE73
      replace h := h H73 eH73
      refine x_iconst (pc' := 77) (v := 1) K dX6_sheet_76 (by decide) rfl ?_
      exact x_iret (wf := w6 cI cO a) K h dX6_sheet_77
  · replace h := h.2 c50
    refine x_iload_n (pc' := 54) K dX6_sheet_53 3 rfl rfl ?_
    refine x_bipush (pc' := 56) (v := 24) K dX6_sheet_54 (by decide) rfl ?_
    refine x_icmp_le (tgt := 65) (pc' := 59) K dX6_sheet_56 rfl rfl (fun c56 => ?_) (fun c56 => ?_)
    · replace h := h.1 c56
      refine x_aload_n (pc' := 66) K dX6_sheet_65 0 rfl rfl ?_
      refine xw6_0g_sheets (pc' := 69) K hinX6_sheet_X6 uX6_sheet_f70 dX6_sheet_66 rfl ?_
      refine x_iload_n (pc' := 70) K dX6_sheet_69 1 rfl rfl ?_
      obtain ⟨i70, h⟩ := h
      rcases xin4 i70 with e70 | e70 | e70 | e70
      · replace h := h.1 e70
        refine xw6_96q0 (pc' := 71) K i70 e70 dX6_sheet_70 rfl ?_
        refine x_iload_n (pc' := 72) K dX6_sheet_71 2 rfl rfl ?_
        refine x_iload_n (pc' := 73) K dX6_sheet_72 3 rfl rfl ?_
        refine x_subV (pc' := 76) (wn := fun F' G' => w6 cI cO a (xspl F 42 2 F') (xspl G 66 1 G')) K (mX2_becomes l D cI cO (xsub a 97) _ _) rfl gX6_sheet_X2_becomes rfl dsX2_becomes ⟨rfl, rfl, ⟨Nat.le_of_ble_eq_true rfl, Nat.le_of_ble_eq_true rfl⟩, Nat.le_of_ble_eq_true rfl, Nat.le_of_ble_eq_true rfl⟩ h 2 0 rfl rfl (xpl31 cI cO a _ _) (fun F' G' => xpr31 cI cO a _ _ F' G') (st := []) rfl rfl (Nat.le_of_ble_eq_true rfl) dX6_sheet_73 rfl (fun F73 G73 h => ?_)
        obtain ⟨E73, eE73⟩ : ∃ x : xF, x = (xspl F 42 2 F73) := ⟨_, rfl⟩
        obtain ⟨H73, eH73⟩ : ∃ x : xA, x = (xspl G 66 1 G73) := ⟨_, rfl⟩
        refine x_weq (w' := w6 cI cO a E73 H73) (by subst eE73; subst eH73; rfl) ?_
        replace h := h E73 eE73
        replace h := h H73 eH73
        refine x_iconst (pc' := 77) (v := 1) K dX6_sheet_76 (by decide) rfl ?_
        exact x_iret (wf := w6 cI cO a) K h dX6_sheet_77
      · replace h := h.2.1 e70
        refine xw6_96q1 (pc' := 71) K i70 e70 dX6_sheet_70 rfl ?_
        refine x_iload_n (pc' := 72) K dX6_sheet_71 2 rfl rfl ?_
        refine x_iload_n (pc' := 73) K dX6_sheet_72 3 rfl rfl ?_
        refine x_subV (pc' := 76) (wn := fun F' G' => w6 cI cO a (xspl F 44 2 F') (xspl G 67 1 G')) K (mX2_becomes l D cI cO (xsub a 99) _ _) rfl gX6_sheet_X2_becomes rfl dsX2_becomes ⟨rfl, rfl, ⟨Nat.le_of_ble_eq_true rfl, Nat.le_of_ble_eq_true rfl⟩, Nat.le_of_ble_eq_true rfl, Nat.le_of_ble_eq_true rfl⟩ h 2 0 rfl rfl (xpl32 cI cO a _ _) (fun F' G' => xpr32 cI cO a _ _ F' G') (st := []) rfl rfl (Nat.le_of_ble_eq_true rfl) dX6_sheet_73 rfl (fun F73 G73 h => ?_)
        obtain ⟨E73, eE73⟩ : ∃ x : xF, x = (xspl F 44 2 F73) := ⟨_, rfl⟩
        obtain ⟨H73, eH73⟩ : ∃ x : xA, x = (xspl G 67 1 G73) := ⟨_, rfl⟩
        refine x_weq (w' := w6 cI cO a E73 H73) (by subst eE73; subst eH73; rfl) ?_
        replace h := h E73 eE73
        replace h := h H73 eH73
        refine x_iconst (pc' := 77) (v := 1) K dX6_sheet_76 (by decide) rfl ?_
        exact x_iret (wf := w6 cI cO a) K h dX6_sheet_77
      · replace h := h.2.2.1 e70
        refine xw6_96q2 (pc' := 71) K i70 e70 dX6_sheet_70 rfl ?_
        refine x_iload_n (pc' := 72) K dX6_sheet_71 2 rfl rfl ?_
        refine x_iload_n (pc' := 73) K dX6_sheet_72 3 rfl rfl ?_
        refine x_subV (pc' := 76) (wn := fun F' G' => w6 cI cO a (xspl F 46 2 F') (xspl G 68 1 G')) K (mX2_becomes l D cI cO (xsub a 101) _ _) rfl gX6_sheet_X2_becomes rfl dsX2_becomes ⟨rfl, rfl, ⟨Nat.le_of_ble_eq_true rfl, Nat.le_of_ble_eq_true rfl⟩, Nat.le_of_ble_eq_true rfl, Nat.le_of_ble_eq_true rfl⟩ h 2 0 rfl rfl (xpl33 cI cO a _ _) (fun F' G' => xpr33 cI cO a _ _ F' G') (st := []) rfl rfl (Nat.le_of_ble_eq_true rfl) dX6_sheet_73 rfl (fun F73 G73 h => ?_)
        obtain ⟨E73, eE73⟩ : ∃ x : xF, x = (xspl F 46 2 F73) := ⟨_, rfl⟩
        obtain ⟨H73, eH73⟩ : ∃ x : xA, x = (xspl G 68 1 G73) := ⟨_, rfl⟩
        refine x_weq (w' := w6 cI cO a E73 H73) (by subst eE73; subst eH73; rfl) ?_
        replace h := h E73 eE73
        replace h := h H73 eH73
        refine x_iconst (pc' := 77) (v := 1) K dX6_sheet_76 (by decide) rfl ?_
        exact x_iret (wf := w6 cI cO a) K h dX6_sheet_77
      · replace h := h.2.2.2 e70
        refine xw6_96q3 (pc' := 71) K i70 e70 dX6_sheet_70 rfl ?_
        refine x_iload_n (pc' := 72) K dX6_sheet_71 2 rfl rfl ?_
        refine x_iload_n (pc' := 73) K dX6_sheet_72 3 rfl rfl ?_
        refine x_subV (pc' := 76) (wn := fun F' G' => w6 cI cO a (xspl F 48 2 F') (xspl G 69 1 G')) K (mX2_becomes l D cI cO (xsub a 103) _ _) rfl gX6_sheet_X2_becomes rfl dsX2_becomes ⟨rfl, rfl, ⟨Nat.le_of_ble_eq_true rfl, Nat.le_of_ble_eq_true rfl⟩, Nat.le_of_ble_eq_true rfl, Nat.le_of_ble_eq_true rfl⟩ h 2 0 rfl rfl (xpl34 cI cO a _ _) (fun F' G' => xpr34 cI cO a _ _ F' G') (st := []) rfl rfl (Nat.le_of_ble_eq_true rfl) dX6_sheet_73 rfl (fun F73 G73 h => ?_)
        obtain ⟨E73, eE73⟩ : ∃ x : xF, x = (xspl F 48 2 F73) := ⟨_, rfl⟩
        obtain ⟨H73, eH73⟩ : ∃ x : xA, x = (xspl G 69 1 G73) := ⟨_, rfl⟩
        refine x_weq (w' := w6 cI cO a E73 H73) (by subst eE73; subst eH73; rfl) ?_
        replace h := h E73 eE73
        replace h := h H73 eH73
        refine x_iconst (pc' := 77) (v := 1) K dX6_sheet_76 (by decide) rfl ?_
        exact x_iret (wf := w6 cI cO a) K h dX6_sheet_77
    · replace h := h.2 c56
      refine x_aload_n (pc' := 60) K dX6_sheet_59 0 rfl rfl ?_
      refine x_iconst (pc' := 61) (v := 1) K dX6_sheet_60 (by decide) rfl ?_
      refine x_callI (pc' := 64) K (mX6_error l D cI cO a _) rfl gX6_sheet_X6_error rfl dsX6_error ⟨rfl, rfl, ⟨Nat.le_of_ble_eq_true rfl, Nat.le_of_ble_eq_true rfl⟩, Nat.le_of_ble_eq_true rfl, Nat.le_of_ble_eq_true rfl⟩ h 6 0 rfl rfl (st := []) rfl rfl (Nat.le_of_ble_eq_true rfl) dX6_sheet_61 rfl (fun r61 F61 G61 h => ?_)
      exact x_iret (wf := w6 cI cO a) K h dX6_sheet_64
set_option maxHeartbeats 4000000 in
set_option maxRecDepth 100000 in
theorem mX6_sheet (l : Launch) (D : va_G) (cI cO : ClassId) (a : Nat → Nat)  (x1 : Int32) (x2 : Int32) (x3 : Int32) : MI l yX6_sheet wsX6_sheet rmX6_sheet D (xtys cI cO) [.ref (a 0), .int x1, .int x2, .int x3] (w6 cI cO a) (qX6_sheet x1 x2 x3) := by
  refine MI_of (cc := cX6_sheet) (maxL := 4) (own := RX6) (by decide) rfl rfl (Nat.le_of_ble_eq_true rfl) ?_
  intro p e s m args below meth c A F G Q h K
  refine x_locals [0, 1, 2, 3] (L' := [(0, .ref (a 0)), (1, .int _), (2, .int _), (3, .int _)]) rfl ?_
  refine x_iload_n (pc' := 1) K dX6_sheet_0 1 rfl rfl ?_
  refine x_callS (pc' := 4) K (mX6_isSheet l D cI cO a _) rfl gX6_sheet_X6_isSheet dsX6_isSheet ⟨rfl, rfl, ⟨Nat.le_of_ble_eq_true rfl, Nat.le_of_ble_eq_true rfl⟩, Nat.le_of_ble_eq_true rfl, Nat.le_of_ble_eq_true rfl⟩ h (st := []) rfl rfl (Nat.le_of_ble_eq_true rfl) dX6_sheet_1 rfl (fun r1 h => ?_)
  refine x_if_eq (tgt := 29) (pc' := 7) K dX6_sheet_4 rfl rfl (fun c4 => ?_) (fun c4 => ?_)
  · replace h := h.1 c4
    refine x_aload_n (pc' := 30) K dX6_sheet_29 0 rfl rfl ?_
    refine x_iconst (pc' := 31) (v := 1) K dX6_sheet_30 (by decide) rfl ?_
    refine x_callI (pc' := 34) K (mX6_error l D cI cO a _) rfl gX6_sheet_X6_error rfl dsX6_error ⟨rfl, rfl, ⟨Nat.le_of_ble_eq_true rfl, Nat.le_of_ble_eq_true rfl⟩, Nat.le_of_ble_eq_true rfl, Nat.le_of_ble_eq_true rfl⟩ h 6 0 rfl rfl (st := []) rfl rfl (Nat.le_of_ble_eq_true rfl) dX6_sheet_31 rfl (fun r31 F31 G31 h => ?_)
    exact x_iret (wf := w6 cI cO a) K h dX6_sheet_34
  · replace h := h.2 c4
    refine x_iload_n (pc' := 8) K dX6_sheet_7 2 rfl rfl ?_
    refine x_if_eq (tgt := 35) (pc' := 11) K dX6_sheet_8 rfl rfl (fun c8 => ?_) (fun c8 => ?_)
    · replace h := h.1 c8
      refine x_iload_n (pc' := 36) K dX6_sheet_35 2 rfl rfl ?_
      refine x_if_eq (tgt := 49) (pc' := 39) K dX6_sheet_36 rfl rfl (fun c36 => ?_) (fun c36 => ?_)
      · replace h := h.1 c36
        exact tX6_sheet_49 K _ _ _ _ _ h
      · replace h := h.2 c36
        refine x_iload_n (pc' := 40) K dX6_sheet_39 3 rfl rfl ?_
        refine x_if_ge (tgt := 49) (pc' := 43) K dX6_sheet_40 rfl rfl (fun c40 => ?_) (fun c40 => ?_)
        · replace h := h.1 c40
          exact tX6_sheet_49 K _ _ _ _ _ h
        · replace h := h.2 c40
          refine x_aload_n (pc' := 44) K dX6_sheet_43 0 rfl rfl ?_
          refine x_iconst (pc' := 45) (v := 3) K dX6_sheet_44 (by decide) rfl ?_
          refine x_callI (pc' := 48) K (mX6_error l D cI cO a _) rfl gX6_sheet_X6_error rfl dsX6_error ⟨rfl, rfl, ⟨Nat.le_of_ble_eq_true rfl, Nat.le_of_ble_eq_true rfl⟩, Nat.le_of_ble_eq_true rfl, Nat.le_of_ble_eq_true rfl⟩ h 6 0 rfl rfl (st := []) rfl rfl (Nat.le_of_ble_eq_true rfl) dX6_sheet_45 rfl (fun r45 F45 G45 h => ?_)
          exact x_iret (wf := w6 cI cO a) K h dX6_sheet_48
    · replace h := h.2 c8
      refine x_iload_n (pc' := 12) K dX6_sheet_11 2 rfl rfl ?_
      refine x_bipush (pc' := 14) (v := 8) K dX6_sheet_12 (by decide) rfl ?_
      refine x_icmp_eq (tgt := 35) (pc' := 17) K dX6_sheet_14 rfl rfl (fun c14 => ?_) (fun c14 => ?_)
      · replace h := h.1 c14
        refine x_iload_n (pc' := 36) K dX6_sheet_35 2 rfl rfl ?_
        refine x_if_eq (tgt := 49) (pc' := 39) K dX6_sheet_36 rfl rfl (fun c36 => ?_) (fun c36 => ?_)
        · replace h := h.1 c36
          exact tX6_sheet_49 K _ _ _ _ _ h
        · replace h := h.2 c36
          refine x_iload_n (pc' := 40) K dX6_sheet_39 3 rfl rfl ?_
          refine x_if_ge (tgt := 49) (pc' := 43) K dX6_sheet_40 rfl rfl (fun c40 => ?_) (fun c40 => ?_)
          · replace h := h.1 c40
            exact tX6_sheet_49 K _ _ _ _ _ h
          · replace h := h.2 c40
            refine x_aload_n (pc' := 44) K dX6_sheet_43 0 rfl rfl ?_
            refine x_iconst (pc' := 45) (v := 3) K dX6_sheet_44 (by decide) rfl ?_
            refine x_callI (pc' := 48) K (mX6_error l D cI cO a _) rfl gX6_sheet_X6_error rfl dsX6_error ⟨rfl, rfl, ⟨Nat.le_of_ble_eq_true rfl, Nat.le_of_ble_eq_true rfl⟩, Nat.le_of_ble_eq_true rfl, Nat.le_of_ble_eq_true rfl⟩ h 6 0 rfl rfl (st := []) rfl rfl (Nat.le_of_ble_eq_true rfl) dX6_sheet_45 rfl (fun r45 F45 G45 h => ?_)
            exact x_iret (wf := w6 cI cO a) K h dX6_sheet_48
      · replace h := h.2 c14
        refine x_iload_n (pc' := 18) K dX6_sheet_17 2 rfl rfl ?_
        refine x_bipush (pc' := 20) (v := 16) K dX6_sheet_18 (by decide) rfl ?_
        refine x_icmp_eq (tgt := 35) (pc' := 23) K dX6_sheet_20 rfl rfl (fun c20 => ?_) (fun c20 => ?_)
        · replace h := h.1 c20
          refine x_iload_n (pc' := 36) K dX6_sheet_35 2 rfl rfl ?_
          refine x_if_eq (tgt := 49) (pc' := 39) K dX6_sheet_36 rfl rfl (fun c36 => ?_) (fun c36 => ?_)
          · replace h := h.1 c36
            exact tX6_sheet_49 K _ _ _ _ _ h
          · replace h := h.2 c36
            refine x_iload_n (pc' := 40) K dX6_sheet_39 3 rfl rfl ?_
            refine x_if_ge (tgt := 49) (pc' := 43) K dX6_sheet_40 rfl rfl (fun c40 => ?_) (fun c40 => ?_)
            · replace h := h.1 c40
              exact tX6_sheet_49 K _ _ _ _ _ h
            · replace h := h.2 c40
              refine x_aload_n (pc' := 44) K dX6_sheet_43 0 rfl rfl ?_
              refine x_iconst (pc' := 45) (v := 3) K dX6_sheet_44 (by decide) rfl ?_
              refine x_callI (pc' := 48) K (mX6_error l D cI cO a _) rfl gX6_sheet_X6_error rfl dsX6_error ⟨rfl, rfl, ⟨Nat.le_of_ble_eq_true rfl, Nat.le_of_ble_eq_true rfl⟩, Nat.le_of_ble_eq_true rfl, Nat.le_of_ble_eq_true rfl⟩ h 6 0 rfl rfl (st := []) rfl rfl (Nat.le_of_ble_eq_true rfl) dX6_sheet_45 rfl (fun r45 F45 G45 h => ?_)
              exact x_iret (wf := w6 cI cO a) K h dX6_sheet_48
        · replace h := h.2 c20
          refine x_iload_n (pc' := 24) K dX6_sheet_23 2 rfl rfl ?_
          refine x_bipush (pc' := 26) (v := 32) K dX6_sheet_24 (by decide) rfl ?_
          refine x_icmp_eq (tgt := 35) (pc' := 29) K dX6_sheet_26 rfl rfl (fun c26 => ?_) (fun c26 => ?_)
          · replace h := h.1 c26
            refine x_iload_n (pc' := 36) K dX6_sheet_35 2 rfl rfl ?_
            refine x_if_eq (tgt := 49) (pc' := 39) K dX6_sheet_36 rfl rfl (fun c36 => ?_) (fun c36 => ?_)
            · replace h := h.1 c36
              exact tX6_sheet_49 K _ _ _ _ _ h
            · replace h := h.2 c36
              refine x_iload_n (pc' := 40) K dX6_sheet_39 3 rfl rfl ?_
              refine x_if_ge (tgt := 49) (pc' := 43) K dX6_sheet_40 rfl rfl (fun c40 => ?_) (fun c40 => ?_)
              · replace h := h.1 c40
                exact tX6_sheet_49 K _ _ _ _ _ h
              · replace h := h.2 c40
                refine x_aload_n (pc' := 44) K dX6_sheet_43 0 rfl rfl ?_
                refine x_iconst (pc' := 45) (v := 3) K dX6_sheet_44 (by decide) rfl ?_
                refine x_callI (pc' := 48) K (mX6_error l D cI cO a _) rfl gX6_sheet_X6_error rfl dsX6_error ⟨rfl, rfl, ⟨Nat.le_of_ble_eq_true rfl, Nat.le_of_ble_eq_true rfl⟩, Nat.le_of_ble_eq_true rfl, Nat.le_of_ble_eq_true rfl⟩ h 6 0 rfl rfl (st := []) rfl rfl (Nat.le_of_ble_eq_true rfl) dX6_sheet_45 rfl (fun r45 F45 G45 h => ?_)
                exact x_iret (wf := w6 cI cO a) K h dX6_sheet_48
          · replace h := h.2 c26
            refine x_aload_n (pc' := 30) K dX6_sheet_29 0 rfl rfl ?_
            refine x_iconst (pc' := 31) (v := 1) K dX6_sheet_30 (by decide) rfl ?_
            refine x_callI (pc' := 34) K (mX6_error l D cI cO a _) rfl gX6_sheet_X6_error rfl dsX6_error ⟨rfl, rfl, ⟨Nat.le_of_ble_eq_true rfl, Nat.le_of_ble_eq_true rfl⟩, Nat.le_of_ble_eq_true rfl, Nat.le_of_ble_eq_true rfl⟩ h 6 0 rfl rfl (st := []) rfl rfl (Nat.le_of_ble_eq_true rfl) dX6_sheet_31 rfl (fun r31 F31 G31 h => ?_)
            exact x_iret (wf := w6 cI cO a) K h dX6_sheet_34
/-! X6_put -/
abbrev rmX6_put : Room := { frames := 4, cells := 0, slots := 0, locals := 102 }
theorem dsX6_put : xDesc yX6_put 3 := by decide +kernel
theorem uX6_put_f70 : Cond.fieldLink RX6 70 "PigNinths" "sheets" "[LPigNinths$Sheet;" ∈ wsX6_put := by decide +kernel
theorem hinX6_put_X6 : ∀ w ∈ wsX60, w ∈ wsX6_put := by decide +kernel
theorem uX6_put_f212 : Cond.fieldLink RX6 212 "PigNinths$Sheet" "size" "I" ∈ wsX6_put := by decide +kernel
theorem hinX6_put_X2 : ∀ w ∈ wsX20, w ∈ wsX6_put := by decide +kernel
def qX6_put (x1 : Int32) (x2 : Int32) (x3 : Int32) (F : xF) (G : xA) (Q : Int32 → xF → xA → Prop) : Prop := qX6_isSheet x1 (fun r1 => ((¬ r1 = 0 → (vp_in x1 4) ∧ ((x1.toNatClampNeg = 0 → qX2_isMissing  (xsub F 42) (xsub G 66) (fun r23 F23 G23 => (∀ E23 : xF, E23 = (xspl F 42 2 F23) → (∀ H23 : xA, H23 = (xspl G 66 1 G23) → ((r23 = 0 → qX6_within x2 (0 : Int32) ((E23 43) - (1 : Int32)) (fun r44 => ((¬ r44 = 0 → qX2_hold x2 x3 (xsub E23 42) (xsub H23 66) (fun F60 G60 => (∀ E60 : xF, E60 = (xspl E23 42 2 F60) → (∀ H60 : xA, H60 = (xspl H23 66 1 G60) → Q (1 : Int32) E60 H60)))) ∧ (r44 = 0 → qX6_error (1 : Int32) E23 H23 (fun r52 F52 G52 => Q r52 F52 G52))))) ∧ (¬ r23 = 0 → qX6_error (2 : Int32) E23 H23 (fun r31 F31 G31 => Q r31 F31 G31))))))) ∧ (x1.toNatClampNeg = 1 → qX2_isMissing  (xsub F 44) (xsub G 67) (fun r23 F23 G23 => (∀ E23 : xF, E23 = (xspl F 44 2 F23) → (∀ H23 : xA, H23 = (xspl G 67 1 G23) → ((r23 = 0 → qX6_within x2 (0 : Int32) ((E23 45) - (1 : Int32)) (fun r44 => ((¬ r44 = 0 → qX2_hold x2 x3 (xsub E23 44) (xsub H23 67) (fun F60 G60 => (∀ E60 : xF, E60 = (xspl E23 44 2 F60) → (∀ H60 : xA, H60 = (xspl H23 67 1 G60) → Q (1 : Int32) E60 H60)))) ∧ (r44 = 0 → qX6_error (1 : Int32) E23 H23 (fun r52 F52 G52 => Q r52 F52 G52))))) ∧ (¬ r23 = 0 → qX6_error (2 : Int32) E23 H23 (fun r31 F31 G31 => Q r31 F31 G31))))))) ∧ (x1.toNatClampNeg = 2 → qX2_isMissing  (xsub F 46) (xsub G 68) (fun r23 F23 G23 => (∀ E23 : xF, E23 = (xspl F 46 2 F23) → (∀ H23 : xA, H23 = (xspl G 68 1 G23) → ((r23 = 0 → qX6_within x2 (0 : Int32) ((E23 47) - (1 : Int32)) (fun r44 => ((¬ r44 = 0 → qX2_hold x2 x3 (xsub E23 46) (xsub H23 68) (fun F60 G60 => (∀ E60 : xF, E60 = (xspl E23 46 2 F60) → (∀ H60 : xA, H60 = (xspl H23 68 1 G60) → Q (1 : Int32) E60 H60)))) ∧ (r44 = 0 → qX6_error (1 : Int32) E23 H23 (fun r52 F52 G52 => Q r52 F52 G52))))) ∧ (¬ r23 = 0 → qX6_error (2 : Int32) E23 H23 (fun r31 F31 G31 => Q r31 F31 G31))))))) ∧ (x1.toNatClampNeg = 3 → qX2_isMissing  (xsub F 48) (xsub G 69) (fun r23 F23 G23 => (∀ E23 : xF, E23 = (xspl F 48 2 F23) → (∀ H23 : xA, H23 = (xspl G 69 1 G23) → ((r23 = 0 → qX6_within x2 (0 : Int32) ((E23 49) - (1 : Int32)) (fun r44 => ((¬ r44 = 0 → qX2_hold x2 x3 (xsub E23 48) (xsub H23 69) (fun F60 G60 => (∀ E60 : xF, E60 = (xspl E23 48 2 F60) → (∀ H60 : xA, H60 = (xspl H23 69 1 G60) → Q (1 : Int32) E60 H60)))) ∧ (r44 = 0 → qX6_error (1 : Int32) E23 H23 (fun r52 F52 G52 => Q r52 F52 G52))))) ∧ (¬ r23 = 0 → qX6_error (2 : Int32) E23 H23 (fun r31 F31 G31 => Q r31 F31 G31))))))))) ∧ (r1 = 0 → qX6_error (1 : Int32) F G (fun r9 F9 G9 => Q r9 F9 G9))))
set_option maxHeartbeats 4000000 in
set_option maxRecDepth 100000 in
theorem mX6_put (l : Launch) (D : va_G) (cI cO : ClassId) (a : Nat → Nat)  (x1 : Int32) (x2 : Int32) (x3 : Int32) : MI l yX6_put wsX6_put rmX6_put D (xtys cI cO) [.ref (a 0), .int x1, .int x2, .int x3] (w6 cI cO a) (qX6_put x1 x2 x3) := by
  refine MI_of (cc := cX6_put) (maxL := 5) (own := RX6) (by decide) rfl rfl (Nat.le_of_ble_eq_true rfl) ?_
  intro p e s m args below meth c A F G Q h K
  refine x_locals [0, 1, 2, 3] (L' := [(0, .ref (a 0)), (1, .int _), (2, .int _), (3, .int _)]) rfl ?_
  refine x_iload_n (pc' := 1) K dX6_put_0 1 rfl rfl ?_
  refine x_callS (pc' := 4) K (mX6_isSheet l D cI cO a _) rfl gX6_put_X6_isSheet dsX6_isSheet ⟨rfl, rfl, ⟨Nat.le_of_ble_eq_true rfl, Nat.le_of_ble_eq_true rfl⟩, Nat.le_of_ble_eq_true rfl, Nat.le_of_ble_eq_true rfl⟩ h (st := []) rfl rfl (Nat.le_of_ble_eq_true rfl) dX6_put_1 rfl (fun r1 h => ?_)
  refine x_if_ne (tgt := 13) (pc' := 7) K dX6_put_4 rfl rfl (fun c4 => ?_) (fun c4 => ?_)
  · replace h := h.1 c4
    refine x_aload_n (pc' := 14) K dX6_put_13 0 rfl rfl ?_
    refine xw6_0g_sheets (pc' := 17) K hinX6_put_X6 uX6_put_f70 dX6_put_14 rfl ?_
    refine x_iload_n (pc' := 18) K dX6_put_17 1 rfl rfl ?_
    obtain ⟨i18, h⟩ := h
    rcases xin4 i18 with e18 | e18 | e18 | e18
    · replace h := h.1 e18
      refine xw6_96q0 (pc' := 19) K i18 e18 dX6_put_18 rfl ?_
      refine x_astore (pc' := 21) (i := 4) K dX6_put_19 (by decide) [1, 2, 3, 4, 0] (L' := [(0, .ref (a 0)), (1, .int _), (2, .int _), (3, .int _), (4, .ref (a 97))]) rfl rfl ?_
      refine x_aload (pc' := 23) K dX6_put_21 4 rfl rfl ?_
      refine x_subI (pc' := 26) (wn := fun F' G' => w6 cI cO a (xspl F 42 2 F') (xspl G 66 1 G')) K (mX2_isMissing l D cI cO (xsub a 97)) rfl gX6_put_X2_isMissing rfl dsX2_isMissing ⟨rfl, rfl, ⟨Nat.le_of_ble_eq_true rfl, Nat.le_of_ble_eq_true rfl⟩, Nat.le_of_ble_eq_true rfl, Nat.le_of_ble_eq_true rfl⟩ h 2 0 rfl rfl (xpl31 cI cO a _ _) (fun F' G' => xpr31 cI cO a _ _ F' G') (st := []) rfl rfl (Nat.le_of_ble_eq_true rfl) dX6_put_23 rfl (fun r23 F23 G23 h => ?_)
      obtain ⟨E23, eE23⟩ : ∃ x : xF, x = (xspl F 42 2 F23) := ⟨_, rfl⟩
      obtain ⟨H23, eH23⟩ : ∃ x : xA, x = (xspl G 66 1 G23) := ⟨_, rfl⟩
      refine x_weq (w' := w6 cI cO a E23 H23) (by subst eE23; subst eH23; rfl) ?_
      replace h := h E23 eE23
      replace h := h H23 eH23
      refine x_if_eq (tgt := 35) (pc' := 29) K dX6_put_26 rfl rfl (fun c26 => ?_) (fun c26 => ?_)
      · replace h := h.1 c26
        refine x_iload_n (pc' := 36) K dX6_put_35 2 rfl rfl ?_
        refine x_iconst (pc' := 37) (v := 0) K dX6_put_36 (by decide) rfl ?_
        refine x_aload (pc' := 39) K dX6_put_37 4 rfl rfl ?_
        refine xw6_97g_size (pc' := 42) K hinX6_put_X2 uX6_put_f212 dX6_put_39 rfl ?_
        refine x_iconst (pc' := 43) (v := 1) K dX6_put_42 (by decide) rfl ?_
        refine x_isub (pc' := 44) K dX6_put_43 rfl ?_
        refine x_callS (pc' := 47) K (mX6_within l D cI cO a _ _ _) rfl gX6_put_X6_within dsX6_within ⟨rfl, rfl, ⟨Nat.le_of_ble_eq_true rfl, Nat.le_of_ble_eq_true rfl⟩, Nat.le_of_ble_eq_true rfl, Nat.le_of_ble_eq_true rfl⟩ h (st := []) rfl rfl (Nat.le_of_ble_eq_true rfl) dX6_put_44 rfl (fun r44 h => ?_)
        refine x_if_ne (tgt := 56) (pc' := 50) K dX6_put_47 rfl rfl (fun c47 => ?_) (fun c47 => ?_)
        · replace h := h.1 c47
          refine x_aload (pc' := 58) K dX6_put_56 4 rfl rfl ?_
          refine x_iload_n (pc' := 59) K dX6_put_58 2 rfl rfl ?_
          refine x_iload_n (pc' := 60) K dX6_put_59 3 rfl rfl ?_
          refine x_subV (pc' := 63) (wn := fun F' G' => w6 cI cO a (xspl E23 42 2 F') (xspl H23 66 1 G')) K (mX2_hold l D cI cO (xsub a 97) _ _) rfl gX6_put_X2_hold rfl dsX2_hold ⟨rfl, rfl, ⟨Nat.le_of_ble_eq_true rfl, Nat.le_of_ble_eq_true rfl⟩, Nat.le_of_ble_eq_true rfl, Nat.le_of_ble_eq_true rfl⟩ h 2 0 rfl rfl (xpl31 cI cO a _ _) (fun F' G' => xpr31 cI cO a _ _ F' G') (st := []) rfl rfl (Nat.le_of_ble_eq_true rfl) dX6_put_60 rfl (fun F60 G60 h => ?_)
          obtain ⟨E60, eE60⟩ : ∃ x : xF, x = (xspl E23 42 2 F60) := ⟨_, rfl⟩
          obtain ⟨H60, eH60⟩ : ∃ x : xA, x = (xspl H23 66 1 G60) := ⟨_, rfl⟩
          refine x_weq (w' := w6 cI cO a E60 H60) (by subst eE60; subst eH60; rfl) ?_
          replace h := h E60 eE60
          replace h := h H60 eH60
          refine x_iconst (pc' := 64) (v := 1) K dX6_put_63 (by decide) rfl ?_
          exact x_iret (wf := w6 cI cO a) K h dX6_put_64
        · replace h := h.2 c47
          refine x_aload_n (pc' := 51) K dX6_put_50 0 rfl rfl ?_
          refine x_iconst (pc' := 52) (v := 1) K dX6_put_51 (by decide) rfl ?_
          refine x_callI (pc' := 55) K (mX6_error l D cI cO a _) rfl gX6_put_X6_error rfl dsX6_error ⟨rfl, rfl, ⟨Nat.le_of_ble_eq_true rfl, Nat.le_of_ble_eq_true rfl⟩, Nat.le_of_ble_eq_true rfl, Nat.le_of_ble_eq_true rfl⟩ h 6 0 rfl rfl (st := []) rfl rfl (Nat.le_of_ble_eq_true rfl) dX6_put_52 rfl (fun r52 F52 G52 h => ?_)
          exact x_iret (wf := w6 cI cO a) K h dX6_put_55
      · replace h := h.2 c26
        refine x_aload_n (pc' := 30) K dX6_put_29 0 rfl rfl ?_
        refine x_iconst (pc' := 31) (v := 2) K dX6_put_30 (by decide) rfl ?_
        refine x_callI (pc' := 34) K (mX6_error l D cI cO a _) rfl gX6_put_X6_error rfl dsX6_error ⟨rfl, rfl, ⟨Nat.le_of_ble_eq_true rfl, Nat.le_of_ble_eq_true rfl⟩, Nat.le_of_ble_eq_true rfl, Nat.le_of_ble_eq_true rfl⟩ h 6 0 rfl rfl (st := []) rfl rfl (Nat.le_of_ble_eq_true rfl) dX6_put_31 rfl (fun r31 F31 G31 h => ?_)
        exact x_iret (wf := w6 cI cO a) K h dX6_put_34
    · replace h := h.2.1 e18
      refine xw6_96q1 (pc' := 19) K i18 e18 dX6_put_18 rfl ?_
      refine x_astore (pc' := 21) (i := 4) K dX6_put_19 (by decide) [1, 2, 3, 4, 0] (L' := [(0, .ref (a 0)), (1, .int _), (2, .int _), (3, .int _), (4, .ref (a 99))]) rfl rfl ?_
      refine x_aload (pc' := 23) K dX6_put_21 4 rfl rfl ?_
      refine x_subI (pc' := 26) (wn := fun F' G' => w6 cI cO a (xspl F 44 2 F') (xspl G 67 1 G')) K (mX2_isMissing l D cI cO (xsub a 99)) rfl gX6_put_X2_isMissing rfl dsX2_isMissing ⟨rfl, rfl, ⟨Nat.le_of_ble_eq_true rfl, Nat.le_of_ble_eq_true rfl⟩, Nat.le_of_ble_eq_true rfl, Nat.le_of_ble_eq_true rfl⟩ h 2 0 rfl rfl (xpl32 cI cO a _ _) (fun F' G' => xpr32 cI cO a _ _ F' G') (st := []) rfl rfl (Nat.le_of_ble_eq_true rfl) dX6_put_23 rfl (fun r23 F23 G23 h => ?_)
      obtain ⟨E23, eE23⟩ : ∃ x : xF, x = (xspl F 44 2 F23) := ⟨_, rfl⟩
      obtain ⟨H23, eH23⟩ : ∃ x : xA, x = (xspl G 67 1 G23) := ⟨_, rfl⟩
      refine x_weq (w' := w6 cI cO a E23 H23) (by subst eE23; subst eH23; rfl) ?_
      replace h := h E23 eE23
      replace h := h H23 eH23
      refine x_if_eq (tgt := 35) (pc' := 29) K dX6_put_26 rfl rfl (fun c26 => ?_) (fun c26 => ?_)
      · replace h := h.1 c26
        refine x_iload_n (pc' := 36) K dX6_put_35 2 rfl rfl ?_
        refine x_iconst (pc' := 37) (v := 0) K dX6_put_36 (by decide) rfl ?_
        refine x_aload (pc' := 39) K dX6_put_37 4 rfl rfl ?_
        refine xw6_99g_size (pc' := 42) K hinX6_put_X2 uX6_put_f212 dX6_put_39 rfl ?_
        refine x_iconst (pc' := 43) (v := 1) K dX6_put_42 (by decide) rfl ?_
        refine x_isub (pc' := 44) K dX6_put_43 rfl ?_
        refine x_callS (pc' := 47) K (mX6_within l D cI cO a _ _ _) rfl gX6_put_X6_within dsX6_within ⟨rfl, rfl, ⟨Nat.le_of_ble_eq_true rfl, Nat.le_of_ble_eq_true rfl⟩, Nat.le_of_ble_eq_true rfl, Nat.le_of_ble_eq_true rfl⟩ h (st := []) rfl rfl (Nat.le_of_ble_eq_true rfl) dX6_put_44 rfl (fun r44 h => ?_)
        refine x_if_ne (tgt := 56) (pc' := 50) K dX6_put_47 rfl rfl (fun c47 => ?_) (fun c47 => ?_)
        · replace h := h.1 c47
          refine x_aload (pc' := 58) K dX6_put_56 4 rfl rfl ?_
          refine x_iload_n (pc' := 59) K dX6_put_58 2 rfl rfl ?_
          refine x_iload_n (pc' := 60) K dX6_put_59 3 rfl rfl ?_
          refine x_subV (pc' := 63) (wn := fun F' G' => w6 cI cO a (xspl E23 44 2 F') (xspl H23 67 1 G')) K (mX2_hold l D cI cO (xsub a 99) _ _) rfl gX6_put_X2_hold rfl dsX2_hold ⟨rfl, rfl, ⟨Nat.le_of_ble_eq_true rfl, Nat.le_of_ble_eq_true rfl⟩, Nat.le_of_ble_eq_true rfl, Nat.le_of_ble_eq_true rfl⟩ h 2 0 rfl rfl (xpl32 cI cO a _ _) (fun F' G' => xpr32 cI cO a _ _ F' G') (st := []) rfl rfl (Nat.le_of_ble_eq_true rfl) dX6_put_60 rfl (fun F60 G60 h => ?_)
          obtain ⟨E60, eE60⟩ : ∃ x : xF, x = (xspl E23 44 2 F60) := ⟨_, rfl⟩
          obtain ⟨H60, eH60⟩ : ∃ x : xA, x = (xspl H23 67 1 G60) := ⟨_, rfl⟩
          refine x_weq (w' := w6 cI cO a E60 H60) (by subst eE60; subst eH60; rfl) ?_
          replace h := h E60 eE60
          replace h := h H60 eH60
          refine x_iconst (pc' := 64) (v := 1) K dX6_put_63 (by decide) rfl ?_
          exact x_iret (wf := w6 cI cO a) K h dX6_put_64
        · replace h := h.2 c47
          refine x_aload_n (pc' := 51) K dX6_put_50 0 rfl rfl ?_
          refine x_iconst (pc' := 52) (v := 1) K dX6_put_51 (by decide) rfl ?_
          refine x_callI (pc' := 55) K (mX6_error l D cI cO a _) rfl gX6_put_X6_error rfl dsX6_error ⟨rfl, rfl, ⟨Nat.le_of_ble_eq_true rfl, Nat.le_of_ble_eq_true rfl⟩, Nat.le_of_ble_eq_true rfl, Nat.le_of_ble_eq_true rfl⟩ h 6 0 rfl rfl (st := []) rfl rfl (Nat.le_of_ble_eq_true rfl) dX6_put_52 rfl (fun r52 F52 G52 h => ?_)
          exact x_iret (wf := w6 cI cO a) K h dX6_put_55
      · replace h := h.2 c26
        refine x_aload_n (pc' := 30) K dX6_put_29 0 rfl rfl ?_
        refine x_iconst (pc' := 31) (v := 2) K dX6_put_30 (by decide) rfl ?_
        refine x_callI (pc' := 34) K (mX6_error l D cI cO a _) rfl gX6_put_X6_error rfl dsX6_error ⟨rfl, rfl, ⟨Nat.le_of_ble_eq_true rfl, Nat.le_of_ble_eq_true rfl⟩, Nat.le_of_ble_eq_true rfl, Nat.le_of_ble_eq_true rfl⟩ h 6 0 rfl rfl (st := []) rfl rfl (Nat.le_of_ble_eq_true rfl) dX6_put_31 rfl (fun r31 F31 G31 h => ?_)
        exact x_iret (wf := w6 cI cO a) K h dX6_put_34
    · replace h := h.2.2.1 e18
      refine xw6_96q2 (pc' := 19) K i18 e18 dX6_put_18 rfl ?_
      refine x_astore (pc' := 21) (i := 4) K dX6_put_19 (by decide) [1, 2, 3, 4, 0] (L' := [(0, .ref (a 0)), (1, .int _), (2, .int _), (3, .int _), (4, .ref (a 101))]) rfl rfl ?_
      refine x_aload (pc' := 23) K dX6_put_21 4 rfl rfl ?_
      refine x_subI (pc' := 26) (wn := fun F' G' => w6 cI cO a (xspl F 46 2 F') (xspl G 68 1 G')) K (mX2_isMissing l D cI cO (xsub a 101)) rfl gX6_put_X2_isMissing rfl dsX2_isMissing ⟨rfl, rfl, ⟨Nat.le_of_ble_eq_true rfl, Nat.le_of_ble_eq_true rfl⟩, Nat.le_of_ble_eq_true rfl, Nat.le_of_ble_eq_true rfl⟩ h 2 0 rfl rfl (xpl33 cI cO a _ _) (fun F' G' => xpr33 cI cO a _ _ F' G') (st := []) rfl rfl (Nat.le_of_ble_eq_true rfl) dX6_put_23 rfl (fun r23 F23 G23 h => ?_)
      obtain ⟨E23, eE23⟩ : ∃ x : xF, x = (xspl F 46 2 F23) := ⟨_, rfl⟩
      obtain ⟨H23, eH23⟩ : ∃ x : xA, x = (xspl G 68 1 G23) := ⟨_, rfl⟩
      refine x_weq (w' := w6 cI cO a E23 H23) (by subst eE23; subst eH23; rfl) ?_
      replace h := h E23 eE23
      replace h := h H23 eH23
      refine x_if_eq (tgt := 35) (pc' := 29) K dX6_put_26 rfl rfl (fun c26 => ?_) (fun c26 => ?_)
      · replace h := h.1 c26
        refine x_iload_n (pc' := 36) K dX6_put_35 2 rfl rfl ?_
        refine x_iconst (pc' := 37) (v := 0) K dX6_put_36 (by decide) rfl ?_
        refine x_aload (pc' := 39) K dX6_put_37 4 rfl rfl ?_
        refine xw6_101g_size (pc' := 42) K hinX6_put_X2 uX6_put_f212 dX6_put_39 rfl ?_
        refine x_iconst (pc' := 43) (v := 1) K dX6_put_42 (by decide) rfl ?_
        refine x_isub (pc' := 44) K dX6_put_43 rfl ?_
        refine x_callS (pc' := 47) K (mX6_within l D cI cO a _ _ _) rfl gX6_put_X6_within dsX6_within ⟨rfl, rfl, ⟨Nat.le_of_ble_eq_true rfl, Nat.le_of_ble_eq_true rfl⟩, Nat.le_of_ble_eq_true rfl, Nat.le_of_ble_eq_true rfl⟩ h (st := []) rfl rfl (Nat.le_of_ble_eq_true rfl) dX6_put_44 rfl (fun r44 h => ?_)
        refine x_if_ne (tgt := 56) (pc' := 50) K dX6_put_47 rfl rfl (fun c47 => ?_) (fun c47 => ?_)
        · replace h := h.1 c47
          refine x_aload (pc' := 58) K dX6_put_56 4 rfl rfl ?_
          refine x_iload_n (pc' := 59) K dX6_put_58 2 rfl rfl ?_
          refine x_iload_n (pc' := 60) K dX6_put_59 3 rfl rfl ?_
          refine x_subV (pc' := 63) (wn := fun F' G' => w6 cI cO a (xspl E23 46 2 F') (xspl H23 68 1 G')) K (mX2_hold l D cI cO (xsub a 101) _ _) rfl gX6_put_X2_hold rfl dsX2_hold ⟨rfl, rfl, ⟨Nat.le_of_ble_eq_true rfl, Nat.le_of_ble_eq_true rfl⟩, Nat.le_of_ble_eq_true rfl, Nat.le_of_ble_eq_true rfl⟩ h 2 0 rfl rfl (xpl33 cI cO a _ _) (fun F' G' => xpr33 cI cO a _ _ F' G') (st := []) rfl rfl (Nat.le_of_ble_eq_true rfl) dX6_put_60 rfl (fun F60 G60 h => ?_)
          obtain ⟨E60, eE60⟩ : ∃ x : xF, x = (xspl E23 46 2 F60) := ⟨_, rfl⟩
          obtain ⟨H60, eH60⟩ : ∃ x : xA, x = (xspl H23 68 1 G60) := ⟨_, rfl⟩
          refine x_weq (w' := w6 cI cO a E60 H60) (by subst eE60; subst eH60; rfl) ?_
          replace h := h E60 eE60
          replace h := h H60 eH60
          refine x_iconst (pc' := 64) (v := 1) K dX6_put_63 (by decide) rfl ?_
          exact x_iret (wf := w6 cI cO a) K h dX6_put_64
        · replace h := h.2 c47
          refine x_aload_n (pc' := 51) K dX6_put_50 0 rfl rfl ?_
          refine x_iconst (pc' := 52) (v := 1) K dX6_put_51 (by decide) rfl ?_
          refine x_callI (pc' := 55) K (mX6_error l D cI cO a _) rfl gX6_put_X6_error rfl dsX6_error ⟨rfl, rfl, ⟨Nat.le_of_ble_eq_true rfl, Nat.le_of_ble_eq_true rfl⟩, Nat.le_of_ble_eq_true rfl, Nat.le_of_ble_eq_true rfl⟩ h 6 0 rfl rfl (st := []) rfl rfl (Nat.le_of_ble_eq_true rfl) dX6_put_52 rfl (fun r52 F52 G52 h => ?_)
          exact x_iret (wf := w6 cI cO a) K h dX6_put_55
      · replace h := h.2 c26
        refine x_aload_n (pc' := 30) K dX6_put_29 0 rfl rfl ?_
        refine x_iconst (pc' := 31) (v := 2) K dX6_put_30 (by decide) rfl ?_
        refine x_callI (pc' := 34) K (mX6_error l D cI cO a _) rfl gX6_put_X6_error rfl dsX6_error ⟨rfl, rfl, ⟨Nat.le_of_ble_eq_true rfl, Nat.le_of_ble_eq_true rfl⟩, Nat.le_of_ble_eq_true rfl, Nat.le_of_ble_eq_true rfl⟩ h 6 0 rfl rfl (st := []) rfl rfl (Nat.le_of_ble_eq_true rfl) dX6_put_31 rfl (fun r31 F31 G31 h => ?_)
        exact x_iret (wf := w6 cI cO a) K h dX6_put_34
    · replace h := h.2.2.2 e18
      refine xw6_96q3 (pc' := 19) K i18 e18 dX6_put_18 rfl ?_
      refine x_astore (pc' := 21) (i := 4) K dX6_put_19 (by decide) [1, 2, 3, 4, 0] (L' := [(0, .ref (a 0)), (1, .int _), (2, .int _), (3, .int _), (4, .ref (a 103))]) rfl rfl ?_
      refine x_aload (pc' := 23) K dX6_put_21 4 rfl rfl ?_
      refine x_subI (pc' := 26) (wn := fun F' G' => w6 cI cO a (xspl F 48 2 F') (xspl G 69 1 G')) K (mX2_isMissing l D cI cO (xsub a 103)) rfl gX6_put_X2_isMissing rfl dsX2_isMissing ⟨rfl, rfl, ⟨Nat.le_of_ble_eq_true rfl, Nat.le_of_ble_eq_true rfl⟩, Nat.le_of_ble_eq_true rfl, Nat.le_of_ble_eq_true rfl⟩ h 2 0 rfl rfl (xpl34 cI cO a _ _) (fun F' G' => xpr34 cI cO a _ _ F' G') (st := []) rfl rfl (Nat.le_of_ble_eq_true rfl) dX6_put_23 rfl (fun r23 F23 G23 h => ?_)
      obtain ⟨E23, eE23⟩ : ∃ x : xF, x = (xspl F 48 2 F23) := ⟨_, rfl⟩
      obtain ⟨H23, eH23⟩ : ∃ x : xA, x = (xspl G 69 1 G23) := ⟨_, rfl⟩
      refine x_weq (w' := w6 cI cO a E23 H23) (by subst eE23; subst eH23; rfl) ?_
      replace h := h E23 eE23
      replace h := h H23 eH23
      refine x_if_eq (tgt := 35) (pc' := 29) K dX6_put_26 rfl rfl (fun c26 => ?_) (fun c26 => ?_)
      · replace h := h.1 c26
        refine x_iload_n (pc' := 36) K dX6_put_35 2 rfl rfl ?_
        refine x_iconst (pc' := 37) (v := 0) K dX6_put_36 (by decide) rfl ?_
        refine x_aload (pc' := 39) K dX6_put_37 4 rfl rfl ?_
        refine xw6_103g_size (pc' := 42) K hinX6_put_X2 uX6_put_f212 dX6_put_39 rfl ?_
        refine x_iconst (pc' := 43) (v := 1) K dX6_put_42 (by decide) rfl ?_
        refine x_isub (pc' := 44) K dX6_put_43 rfl ?_
        refine x_callS (pc' := 47) K (mX6_within l D cI cO a _ _ _) rfl gX6_put_X6_within dsX6_within ⟨rfl, rfl, ⟨Nat.le_of_ble_eq_true rfl, Nat.le_of_ble_eq_true rfl⟩, Nat.le_of_ble_eq_true rfl, Nat.le_of_ble_eq_true rfl⟩ h (st := []) rfl rfl (Nat.le_of_ble_eq_true rfl) dX6_put_44 rfl (fun r44 h => ?_)
        refine x_if_ne (tgt := 56) (pc' := 50) K dX6_put_47 rfl rfl (fun c47 => ?_) (fun c47 => ?_)
        · replace h := h.1 c47
          refine x_aload (pc' := 58) K dX6_put_56 4 rfl rfl ?_
          refine x_iload_n (pc' := 59) K dX6_put_58 2 rfl rfl ?_
          refine x_iload_n (pc' := 60) K dX6_put_59 3 rfl rfl ?_
          refine x_subV (pc' := 63) (wn := fun F' G' => w6 cI cO a (xspl E23 48 2 F') (xspl H23 69 1 G')) K (mX2_hold l D cI cO (xsub a 103) _ _) rfl gX6_put_X2_hold rfl dsX2_hold ⟨rfl, rfl, ⟨Nat.le_of_ble_eq_true rfl, Nat.le_of_ble_eq_true rfl⟩, Nat.le_of_ble_eq_true rfl, Nat.le_of_ble_eq_true rfl⟩ h 2 0 rfl rfl (xpl34 cI cO a _ _) (fun F' G' => xpr34 cI cO a _ _ F' G') (st := []) rfl rfl (Nat.le_of_ble_eq_true rfl) dX6_put_60 rfl (fun F60 G60 h => ?_)
          obtain ⟨E60, eE60⟩ : ∃ x : xF, x = (xspl E23 48 2 F60) := ⟨_, rfl⟩
          obtain ⟨H60, eH60⟩ : ∃ x : xA, x = (xspl H23 69 1 G60) := ⟨_, rfl⟩
          refine x_weq (w' := w6 cI cO a E60 H60) (by subst eE60; subst eH60; rfl) ?_
          replace h := h E60 eE60
          replace h := h H60 eH60
          refine x_iconst (pc' := 64) (v := 1) K dX6_put_63 (by decide) rfl ?_
          exact x_iret (wf := w6 cI cO a) K h dX6_put_64
        · replace h := h.2 c47
          refine x_aload_n (pc' := 51) K dX6_put_50 0 rfl rfl ?_
          refine x_iconst (pc' := 52) (v := 1) K dX6_put_51 (by decide) rfl ?_
          refine x_callI (pc' := 55) K (mX6_error l D cI cO a _) rfl gX6_put_X6_error rfl dsX6_error ⟨rfl, rfl, ⟨Nat.le_of_ble_eq_true rfl, Nat.le_of_ble_eq_true rfl⟩, Nat.le_of_ble_eq_true rfl, Nat.le_of_ble_eq_true rfl⟩ h 6 0 rfl rfl (st := []) rfl rfl (Nat.le_of_ble_eq_true rfl) dX6_put_52 rfl (fun r52 F52 G52 h => ?_)
          exact x_iret (wf := w6 cI cO a) K h dX6_put_55
      · replace h := h.2 c26
        refine x_aload_n (pc' := 30) K dX6_put_29 0 rfl rfl ?_
        refine x_iconst (pc' := 31) (v := 2) K dX6_put_30 (by decide) rfl ?_
        refine x_callI (pc' := 34) K (mX6_error l D cI cO a _) rfl gX6_put_X6_error rfl dsX6_error ⟨rfl, rfl, ⟨Nat.le_of_ble_eq_true rfl, Nat.le_of_ble_eq_true rfl⟩, Nat.le_of_ble_eq_true rfl, Nat.le_of_ble_eq_true rfl⟩ h 6 0 rfl rfl (st := []) rfl rfl (Nat.le_of_ble_eq_true rfl) dX6_put_31 rfl (fun r31 F31 G31 h => ?_)
        exact x_iret (wf := w6 cI cO a) K h dX6_put_34
  · replace h := h.2 c4
    refine x_aload_n (pc' := 8) K dX6_put_7 0 rfl rfl ?_
    refine x_iconst (pc' := 9) (v := 1) K dX6_put_8 (by decide) rfl ?_
    refine x_callI (pc' := 12) K (mX6_error l D cI cO a _) rfl gX6_put_X6_error rfl dsX6_error ⟨rfl, rfl, ⟨Nat.le_of_ble_eq_true rfl, Nat.le_of_ble_eq_true rfl⟩, Nat.le_of_ble_eq_true rfl, Nat.le_of_ble_eq_true rfl⟩ h 6 0 rfl rfl (st := []) rfl rfl (Nat.le_of_ble_eq_true rfl) dX6_put_9 rfl (fun r9 F9 G9 h => ?_)
    exact x_iret (wf := w6 cI cO a) K h dX6_put_12
/-! X6_move -/
abbrev rmX6_move : Room := { frames := 4, cells := 0, slots := 0, locals := 200 }
theorem dsX6_move : xDesc yX6_move 5 := by decide +kernel
theorem uX6_move_f70 : Cond.fieldLink RX6 70 "PigNinths" "sheets" "[LPigNinths$Sheet;" ∈ wsX6_move := by decide +kernel
theorem hinX6_move_X6 : ∀ w ∈ wsX60, w ∈ wsX6_move := by decide +kernel
theorem uX6_move_f237 : Cond.fieldLink RX6 237 "PigNinths$Sheet" "bits" "I" ∈ wsX6_move := by decide +kernel
theorem hinX6_move_X2 : ∀ w ∈ wsX20, w ∈ wsX6_move := by decide +kernel
theorem uX6_move_f243 : Cond.fieldLink RX6 243 "PigNinths$Sheet" "numbers" "[I" ∈ wsX6_move := by decide +kernel
theorem uX6_move_m246 : Cond.methodLink RX6 246 arraycopyName ∈ wsX6_move := by decide +kernel
theorem uX6_move_cn : Cond.native arraycopyName ∈ wsX6_move := by decide +kernel
theorem uX6_move_cs : Cond.static arraycopyName ∈ wsX6_move := by decide +kernel
theorem uX6_move_ci : Cond.initialized "java/lang/System" ∈ wsX6_move := by decide +kernel
def qX6_move (x1 : Int32) (x2 : Int32) (x3 : Int32) (x4 : Int32) (x5 : Int32) (F : xF) (G : xA) (Q : Int32 → xF → xA → Prop) : Prop := qX6_isSheet x1 (fun r1 => ((r1 = 0 → qX6_error (1 : Int32) F G (fun r16 F16 G16 => Q r16 F16 G16)) ∧ (¬ r1 = 0 → qX6_isSheet x3 (fun r8 => ((¬ r8 = 0 → (vp_in x1 4) ∧ ((x1.toNatClampNeg = 0 → (vp_in x3 4) ∧ ((x3.toNatClampNeg = 0 → qX2_isMissing  (xsub F 42) (xsub G 66) (fun r38 F38 G38 => (∀ E38 : xF, E38 = (xspl F 42 2 F38) → (∀ H38 : xA, H38 = (xspl G 66 1 G38) → ((¬ r38 = 0 → qX6_error (2 : Int32) E38 H38 (fun r54 F54 G54 => Q r54 F54 G54)) ∧ (r38 = 0 → qX2_isMissing  (xsub E38 42) (xsub H38 66) (fun r46 F46 G46 => (∀ E46 : xF, E46 = (xspl E38 42 2 F46) → (∀ H46 : xA, H46 = (xspl H38 66 1 G46) → ((r46 = 0 → (((E46 42) = (E46 42) → qX2_holdsPart x2 x5 (xsub E46 42) (xsub H46 66) (fun r82 F82 G82 => (∀ E82 : xF, E82 = (xspl E46 42 2 F82) → (∀ H82 : xA, H82 = (xspl H46 66 1 G82) → ((r82 = 0 → qX6_error (1 : Int32) E82 H82 (fun r102 F102 G102 => Q r102 F102 G102)) ∧ (¬ r82 = 0 → qX2_holdsPart x4 x5 (xsub E82 42) (xsub H82 66) (fun r94 F94 G94 => (∀ E94 : xF, E94 = (xspl E82 42 2 F94) → (∀ H94 : xA, H94 = (xspl H82 66 1 G94) → ((¬ r94 = 0 → (¬ x2 < 0) ∧ (¬ x4 < 0) ∧ (¬ x5 < 0) ∧ (x2.toNatClampNeg + x5.toNatClampNeg ≤ 24) ∧ (x4.toNatClampNeg + x5.toNatClampNeg ≤ 24) ∧ (∀ G121 : xA, G121 = va_up H94 66 (va_cpy (H94 66) (H94 66) x2.toNatClampNeg x4.toNatClampNeg x5.toNatClampNeg) → Q x5 E94 G121)) ∧ (r94 = 0 → qX6_error (1 : Int32) E94 H94 (fun r102 F102 G102 => Q r102 F102 G102)))))))))))) ∧ (¬ (E46 42) = (E46 42) → qX6_error (5 : Int32) E46 H46 (fun r73 F73 G73 => Q r73 F73 G73)))) ∧ (¬ r46 = 0 → qX6_error (2 : Int32) E46 H46 (fun r54 F54 G54 => Q r54 F54 G54)))))))))))) ∧ (x3.toNatClampNeg = 1 → qX2_isMissing  (xsub F 42) (xsub G 66) (fun r38 F38 G38 => (∀ E38 : xF, E38 = (xspl F 42 2 F38) → (∀ H38 : xA, H38 = (xspl G 66 1 G38) → ((¬ r38 = 0 → qX6_error (2 : Int32) E38 H38 (fun r54 F54 G54 => Q r54 F54 G54)) ∧ (r38 = 0 → qX2_isMissing  (xsub E38 44) (xsub H38 67) (fun r46 F46 G46 => (∀ E46 : xF, E46 = (xspl E38 44 2 F46) → (∀ H46 : xA, H46 = (xspl H38 67 1 G46) → ((r46 = 0 → (((E46 42) = (E46 44) → qX2_holdsPart x2 x5 (xsub E46 42) (xsub H46 66) (fun r82 F82 G82 => (∀ E82 : xF, E82 = (xspl E46 42 2 F82) → (∀ H82 : xA, H82 = (xspl H46 66 1 G82) → ((r82 = 0 → qX6_error (1 : Int32) E82 H82 (fun r102 F102 G102 => Q r102 F102 G102)) ∧ (¬ r82 = 0 → qX2_holdsPart x4 x5 (xsub E82 44) (xsub H82 67) (fun r94 F94 G94 => (∀ E94 : xF, E94 = (xspl E82 44 2 F94) → (∀ H94 : xA, H94 = (xspl H82 67 1 G94) → ((¬ r94 = 0 → (¬ x2 < 0) ∧ (¬ x4 < 0) ∧ (¬ x5 < 0) ∧ (x2.toNatClampNeg + x5.toNatClampNeg ≤ 24) ∧ (x4.toNatClampNeg + x5.toNatClampNeg ≤ 24) ∧ (∀ G121 : xA, G121 = va_up H94 67 (va_cpy (H94 66) (H94 67) x2.toNatClampNeg x4.toNatClampNeg x5.toNatClampNeg) → Q x5 E94 G121)) ∧ (r94 = 0 → qX6_error (1 : Int32) E94 H94 (fun r102 F102 G102 => Q r102 F102 G102)))))))))))) ∧ (¬ (E46 42) = (E46 44) → qX6_error (5 : Int32) E46 H46 (fun r73 F73 G73 => Q r73 F73 G73)))) ∧ (¬ r46 = 0 → qX6_error (2 : Int32) E46 H46 (fun r54 F54 G54 => Q r54 F54 G54)))))))))))) ∧ (x3.toNatClampNeg = 2 → qX2_isMissing  (xsub F 42) (xsub G 66) (fun r38 F38 G38 => (∀ E38 : xF, E38 = (xspl F 42 2 F38) → (∀ H38 : xA, H38 = (xspl G 66 1 G38) → ((¬ r38 = 0 → qX6_error (2 : Int32) E38 H38 (fun r54 F54 G54 => Q r54 F54 G54)) ∧ (r38 = 0 → qX2_isMissing  (xsub E38 46) (xsub H38 68) (fun r46 F46 G46 => (∀ E46 : xF, E46 = (xspl E38 46 2 F46) → (∀ H46 : xA, H46 = (xspl H38 68 1 G46) → ((r46 = 0 → (((E46 42) = (E46 46) → qX2_holdsPart x2 x5 (xsub E46 42) (xsub H46 66) (fun r82 F82 G82 => (∀ E82 : xF, E82 = (xspl E46 42 2 F82) → (∀ H82 : xA, H82 = (xspl H46 66 1 G82) → ((r82 = 0 → qX6_error (1 : Int32) E82 H82 (fun r102 F102 G102 => Q r102 F102 G102)) ∧ (¬ r82 = 0 → qX2_holdsPart x4 x5 (xsub E82 46) (xsub H82 68) (fun r94 F94 G94 => (∀ E94 : xF, E94 = (xspl E82 46 2 F94) → (∀ H94 : xA, H94 = (xspl H82 68 1 G94) → ((¬ r94 = 0 → (¬ x2 < 0) ∧ (¬ x4 < 0) ∧ (¬ x5 < 0) ∧ (x2.toNatClampNeg + x5.toNatClampNeg ≤ 24) ∧ (x4.toNatClampNeg + x5.toNatClampNeg ≤ 24) ∧ (∀ G121 : xA, G121 = va_up H94 68 (va_cpy (H94 66) (H94 68) x2.toNatClampNeg x4.toNatClampNeg x5.toNatClampNeg) → Q x5 E94 G121)) ∧ (r94 = 0 → qX6_error (1 : Int32) E94 H94 (fun r102 F102 G102 => Q r102 F102 G102)))))))))))) ∧ (¬ (E46 42) = (E46 46) → qX6_error (5 : Int32) E46 H46 (fun r73 F73 G73 => Q r73 F73 G73)))) ∧ (¬ r46 = 0 → qX6_error (2 : Int32) E46 H46 (fun r54 F54 G54 => Q r54 F54 G54)))))))))))) ∧ (x3.toNatClampNeg = 3 → qX2_isMissing  (xsub F 42) (xsub G 66) (fun r38 F38 G38 => (∀ E38 : xF, E38 = (xspl F 42 2 F38) → (∀ H38 : xA, H38 = (xspl G 66 1 G38) → ((¬ r38 = 0 → qX6_error (2 : Int32) E38 H38 (fun r54 F54 G54 => Q r54 F54 G54)) ∧ (r38 = 0 → qX2_isMissing  (xsub E38 48) (xsub H38 69) (fun r46 F46 G46 => (∀ E46 : xF, E46 = (xspl E38 48 2 F46) → (∀ H46 : xA, H46 = (xspl H38 69 1 G46) → ((r46 = 0 → (((E46 42) = (E46 48) → qX2_holdsPart x2 x5 (xsub E46 42) (xsub H46 66) (fun r82 F82 G82 => (∀ E82 : xF, E82 = (xspl E46 42 2 F82) → (∀ H82 : xA, H82 = (xspl H46 66 1 G82) → ((r82 = 0 → qX6_error (1 : Int32) E82 H82 (fun r102 F102 G102 => Q r102 F102 G102)) ∧ (¬ r82 = 0 → qX2_holdsPart x4 x5 (xsub E82 48) (xsub H82 69) (fun r94 F94 G94 => (∀ E94 : xF, E94 = (xspl E82 48 2 F94) → (∀ H94 : xA, H94 = (xspl H82 69 1 G94) → ((¬ r94 = 0 → (¬ x2 < 0) ∧ (¬ x4 < 0) ∧ (¬ x5 < 0) ∧ (x2.toNatClampNeg + x5.toNatClampNeg ≤ 24) ∧ (x4.toNatClampNeg + x5.toNatClampNeg ≤ 24) ∧ (∀ G121 : xA, G121 = va_up H94 69 (va_cpy (H94 66) (H94 69) x2.toNatClampNeg x4.toNatClampNeg x5.toNatClampNeg) → Q x5 E94 G121)) ∧ (r94 = 0 → qX6_error (1 : Int32) E94 H94 (fun r102 F102 G102 => Q r102 F102 G102)))))))))))) ∧ (¬ (E46 42) = (E46 48) → qX6_error (5 : Int32) E46 H46 (fun r73 F73 G73 => Q r73 F73 G73)))) ∧ (¬ r46 = 0 → qX6_error (2 : Int32) E46 H46 (fun r54 F54 G54 => Q r54 F54 G54)))))))))))))) ∧ (x1.toNatClampNeg = 1 → (vp_in x3 4) ∧ ((x3.toNatClampNeg = 0 → qX2_isMissing  (xsub F 44) (xsub G 67) (fun r38 F38 G38 => (∀ E38 : xF, E38 = (xspl F 44 2 F38) → (∀ H38 : xA, H38 = (xspl G 67 1 G38) → ((¬ r38 = 0 → qX6_error (2 : Int32) E38 H38 (fun r54 F54 G54 => Q r54 F54 G54)) ∧ (r38 = 0 → qX2_isMissing  (xsub E38 42) (xsub H38 66) (fun r46 F46 G46 => (∀ E46 : xF, E46 = (xspl E38 42 2 F46) → (∀ H46 : xA, H46 = (xspl H38 66 1 G46) → ((r46 = 0 → (((E46 44) = (E46 42) → qX2_holdsPart x2 x5 (xsub E46 44) (xsub H46 67) (fun r82 F82 G82 => (∀ E82 : xF, E82 = (xspl E46 44 2 F82) → (∀ H82 : xA, H82 = (xspl H46 67 1 G82) → ((r82 = 0 → qX6_error (1 : Int32) E82 H82 (fun r102 F102 G102 => Q r102 F102 G102)) ∧ (¬ r82 = 0 → qX2_holdsPart x4 x5 (xsub E82 42) (xsub H82 66) (fun r94 F94 G94 => (∀ E94 : xF, E94 = (xspl E82 42 2 F94) → (∀ H94 : xA, H94 = (xspl H82 66 1 G94) → ((¬ r94 = 0 → (¬ x2 < 0) ∧ (¬ x4 < 0) ∧ (¬ x5 < 0) ∧ (x2.toNatClampNeg + x5.toNatClampNeg ≤ 24) ∧ (x4.toNatClampNeg + x5.toNatClampNeg ≤ 24) ∧ (∀ G121 : xA, G121 = va_up H94 66 (va_cpy (H94 67) (H94 66) x2.toNatClampNeg x4.toNatClampNeg x5.toNatClampNeg) → Q x5 E94 G121)) ∧ (r94 = 0 → qX6_error (1 : Int32) E94 H94 (fun r102 F102 G102 => Q r102 F102 G102)))))))))))) ∧ (¬ (E46 44) = (E46 42) → qX6_error (5 : Int32) E46 H46 (fun r73 F73 G73 => Q r73 F73 G73)))) ∧ (¬ r46 = 0 → qX6_error (2 : Int32) E46 H46 (fun r54 F54 G54 => Q r54 F54 G54)))))))))))) ∧ (x3.toNatClampNeg = 1 → qX2_isMissing  (xsub F 44) (xsub G 67) (fun r38 F38 G38 => (∀ E38 : xF, E38 = (xspl F 44 2 F38) → (∀ H38 : xA, H38 = (xspl G 67 1 G38) → ((¬ r38 = 0 → qX6_error (2 : Int32) E38 H38 (fun r54 F54 G54 => Q r54 F54 G54)) ∧ (r38 = 0 → qX2_isMissing  (xsub E38 44) (xsub H38 67) (fun r46 F46 G46 => (∀ E46 : xF, E46 = (xspl E38 44 2 F46) → (∀ H46 : xA, H46 = (xspl H38 67 1 G46) → ((r46 = 0 → (((E46 44) = (E46 44) → qX2_holdsPart x2 x5 (xsub E46 44) (xsub H46 67) (fun r82 F82 G82 => (∀ E82 : xF, E82 = (xspl E46 44 2 F82) → (∀ H82 : xA, H82 = (xspl H46 67 1 G82) → ((r82 = 0 → qX6_error (1 : Int32) E82 H82 (fun r102 F102 G102 => Q r102 F102 G102)) ∧ (¬ r82 = 0 → qX2_holdsPart x4 x5 (xsub E82 44) (xsub H82 67) (fun r94 F94 G94 => (∀ E94 : xF, E94 = (xspl E82 44 2 F94) → (∀ H94 : xA, H94 = (xspl H82 67 1 G94) → ((¬ r94 = 0 → (¬ x2 < 0) ∧ (¬ x4 < 0) ∧ (¬ x5 < 0) ∧ (x2.toNatClampNeg + x5.toNatClampNeg ≤ 24) ∧ (x4.toNatClampNeg + x5.toNatClampNeg ≤ 24) ∧ (∀ G121 : xA, G121 = va_up H94 67 (va_cpy (H94 67) (H94 67) x2.toNatClampNeg x4.toNatClampNeg x5.toNatClampNeg) → Q x5 E94 G121)) ∧ (r94 = 0 → qX6_error (1 : Int32) E94 H94 (fun r102 F102 G102 => Q r102 F102 G102)))))))))))) ∧ (¬ (E46 44) = (E46 44) → qX6_error (5 : Int32) E46 H46 (fun r73 F73 G73 => Q r73 F73 G73)))) ∧ (¬ r46 = 0 → qX6_error (2 : Int32) E46 H46 (fun r54 F54 G54 => Q r54 F54 G54)))))))))))) ∧ (x3.toNatClampNeg = 2 → qX2_isMissing  (xsub F 44) (xsub G 67) (fun r38 F38 G38 => (∀ E38 : xF, E38 = (xspl F 44 2 F38) → (∀ H38 : xA, H38 = (xspl G 67 1 G38) → ((¬ r38 = 0 → qX6_error (2 : Int32) E38 H38 (fun r54 F54 G54 => Q r54 F54 G54)) ∧ (r38 = 0 → qX2_isMissing  (xsub E38 46) (xsub H38 68) (fun r46 F46 G46 => (∀ E46 : xF, E46 = (xspl E38 46 2 F46) → (∀ H46 : xA, H46 = (xspl H38 68 1 G46) → ((r46 = 0 → (((E46 44) = (E46 46) → qX2_holdsPart x2 x5 (xsub E46 44) (xsub H46 67) (fun r82 F82 G82 => (∀ E82 : xF, E82 = (xspl E46 44 2 F82) → (∀ H82 : xA, H82 = (xspl H46 67 1 G82) → ((r82 = 0 → qX6_error (1 : Int32) E82 H82 (fun r102 F102 G102 => Q r102 F102 G102)) ∧ (¬ r82 = 0 → qX2_holdsPart x4 x5 (xsub E82 46) (xsub H82 68) (fun r94 F94 G94 => (∀ E94 : xF, E94 = (xspl E82 46 2 F94) → (∀ H94 : xA, H94 = (xspl H82 68 1 G94) → ((¬ r94 = 0 → (¬ x2 < 0) ∧ (¬ x4 < 0) ∧ (¬ x5 < 0) ∧ (x2.toNatClampNeg + x5.toNatClampNeg ≤ 24) ∧ (x4.toNatClampNeg + x5.toNatClampNeg ≤ 24) ∧ (∀ G121 : xA, G121 = va_up H94 68 (va_cpy (H94 67) (H94 68) x2.toNatClampNeg x4.toNatClampNeg x5.toNatClampNeg) → Q x5 E94 G121)) ∧ (r94 = 0 → qX6_error (1 : Int32) E94 H94 (fun r102 F102 G102 => Q r102 F102 G102)))))))))))) ∧ (¬ (E46 44) = (E46 46) → qX6_error (5 : Int32) E46 H46 (fun r73 F73 G73 => Q r73 F73 G73)))) ∧ (¬ r46 = 0 → qX6_error (2 : Int32) E46 H46 (fun r54 F54 G54 => Q r54 F54 G54)))))))))))) ∧ (x3.toNatClampNeg = 3 → qX2_isMissing  (xsub F 44) (xsub G 67) (fun r38 F38 G38 => (∀ E38 : xF, E38 = (xspl F 44 2 F38) → (∀ H38 : xA, H38 = (xspl G 67 1 G38) → ((¬ r38 = 0 → qX6_error (2 : Int32) E38 H38 (fun r54 F54 G54 => Q r54 F54 G54)) ∧ (r38 = 0 → qX2_isMissing  (xsub E38 48) (xsub H38 69) (fun r46 F46 G46 => (∀ E46 : xF, E46 = (xspl E38 48 2 F46) → (∀ H46 : xA, H46 = (xspl H38 69 1 G46) → ((r46 = 0 → (((E46 44) = (E46 48) → qX2_holdsPart x2 x5 (xsub E46 44) (xsub H46 67) (fun r82 F82 G82 => (∀ E82 : xF, E82 = (xspl E46 44 2 F82) → (∀ H82 : xA, H82 = (xspl H46 67 1 G82) → ((r82 = 0 → qX6_error (1 : Int32) E82 H82 (fun r102 F102 G102 => Q r102 F102 G102)) ∧ (¬ r82 = 0 → qX2_holdsPart x4 x5 (xsub E82 48) (xsub H82 69) (fun r94 F94 G94 => (∀ E94 : xF, E94 = (xspl E82 48 2 F94) → (∀ H94 : xA, H94 = (xspl H82 69 1 G94) → ((¬ r94 = 0 → (¬ x2 < 0) ∧ (¬ x4 < 0) ∧ (¬ x5 < 0) ∧ (x2.toNatClampNeg + x5.toNatClampNeg ≤ 24) ∧ (x4.toNatClampNeg + x5.toNatClampNeg ≤ 24) ∧ (∀ G121 : xA, G121 = va_up H94 69 (va_cpy (H94 67) (H94 69) x2.toNatClampNeg x4.toNatClampNeg x5.toNatClampNeg) → Q x5 E94 G121)) ∧ (r94 = 0 → qX6_error (1 : Int32) E94 H94 (fun r102 F102 G102 => Q r102 F102 G102)))))))))))) ∧ (¬ (E46 44) = (E46 48) → qX6_error (5 : Int32) E46 H46 (fun r73 F73 G73 => Q r73 F73 G73)))) ∧ (¬ r46 = 0 → qX6_error (2 : Int32) E46 H46 (fun r54 F54 G54 => Q r54 F54 G54)))))))))))))) ∧ (x1.toNatClampNeg = 2 → (vp_in x3 4) ∧ ((x3.toNatClampNeg = 0 → qX2_isMissing  (xsub F 46) (xsub G 68) (fun r38 F38 G38 => (∀ E38 : xF, E38 = (xspl F 46 2 F38) → (∀ H38 : xA, H38 = (xspl G 68 1 G38) → ((¬ r38 = 0 → qX6_error (2 : Int32) E38 H38 (fun r54 F54 G54 => Q r54 F54 G54)) ∧ (r38 = 0 → qX2_isMissing  (xsub E38 42) (xsub H38 66) (fun r46 F46 G46 => (∀ E46 : xF, E46 = (xspl E38 42 2 F46) → (∀ H46 : xA, H46 = (xspl H38 66 1 G46) → ((r46 = 0 → (((E46 46) = (E46 42) → qX2_holdsPart x2 x5 (xsub E46 46) (xsub H46 68) (fun r82 F82 G82 => (∀ E82 : xF, E82 = (xspl E46 46 2 F82) → (∀ H82 : xA, H82 = (xspl H46 68 1 G82) → ((r82 = 0 → qX6_error (1 : Int32) E82 H82 (fun r102 F102 G102 => Q r102 F102 G102)) ∧ (¬ r82 = 0 → qX2_holdsPart x4 x5 (xsub E82 42) (xsub H82 66) (fun r94 F94 G94 => (∀ E94 : xF, E94 = (xspl E82 42 2 F94) → (∀ H94 : xA, H94 = (xspl H82 66 1 G94) → ((¬ r94 = 0 → (¬ x2 < 0) ∧ (¬ x4 < 0) ∧ (¬ x5 < 0) ∧ (x2.toNatClampNeg + x5.toNatClampNeg ≤ 24) ∧ (x4.toNatClampNeg + x5.toNatClampNeg ≤ 24) ∧ (∀ G121 : xA, G121 = va_up H94 66 (va_cpy (H94 68) (H94 66) x2.toNatClampNeg x4.toNatClampNeg x5.toNatClampNeg) → Q x5 E94 G121)) ∧ (r94 = 0 → qX6_error (1 : Int32) E94 H94 (fun r102 F102 G102 => Q r102 F102 G102)))))))))))) ∧ (¬ (E46 46) = (E46 42) → qX6_error (5 : Int32) E46 H46 (fun r73 F73 G73 => Q r73 F73 G73)))) ∧ (¬ r46 = 0 → qX6_error (2 : Int32) E46 H46 (fun r54 F54 G54 => Q r54 F54 G54)))))))))))) ∧ (x3.toNatClampNeg = 1 → qX2_isMissing  (xsub F 46) (xsub G 68) (fun r38 F38 G38 => (∀ E38 : xF, E38 = (xspl F 46 2 F38) → (∀ H38 : xA, H38 = (xspl G 68 1 G38) → ((¬ r38 = 0 → qX6_error (2 : Int32) E38 H38 (fun r54 F54 G54 => Q r54 F54 G54)) ∧ (r38 = 0 → qX2_isMissing  (xsub E38 44) (xsub H38 67) (fun r46 F46 G46 => (∀ E46 : xF, E46 = (xspl E38 44 2 F46) → (∀ H46 : xA, H46 = (xspl H38 67 1 G46) → ((r46 = 0 → (((E46 46) = (E46 44) → qX2_holdsPart x2 x5 (xsub E46 46) (xsub H46 68) (fun r82 F82 G82 => (∀ E82 : xF, E82 = (xspl E46 46 2 F82) → (∀ H82 : xA, H82 = (xspl H46 68 1 G82) → ((r82 = 0 → qX6_error (1 : Int32) E82 H82 (fun r102 F102 G102 => Q r102 F102 G102)) ∧ (¬ r82 = 0 → qX2_holdsPart x4 x5 (xsub E82 44) (xsub H82 67) (fun r94 F94 G94 => (∀ E94 : xF, E94 = (xspl E82 44 2 F94) → (∀ H94 : xA, H94 = (xspl H82 67 1 G94) → ((¬ r94 = 0 → (¬ x2 < 0) ∧ (¬ x4 < 0) ∧ (¬ x5 < 0) ∧ (x2.toNatClampNeg + x5.toNatClampNeg ≤ 24) ∧ (x4.toNatClampNeg + x5.toNatClampNeg ≤ 24) ∧ (∀ G121 : xA, G121 = va_up H94 67 (va_cpy (H94 68) (H94 67) x2.toNatClampNeg x4.toNatClampNeg x5.toNatClampNeg) → Q x5 E94 G121)) ∧ (r94 = 0 → qX6_error (1 : Int32) E94 H94 (fun r102 F102 G102 => Q r102 F102 G102)))))))))))) ∧ (¬ (E46 46) = (E46 44) → qX6_error (5 : Int32) E46 H46 (fun r73 F73 G73 => Q r73 F73 G73)))) ∧ (¬ r46 = 0 → qX6_error (2 : Int32) E46 H46 (fun r54 F54 G54 => Q r54 F54 G54)))))))))))) ∧ (x3.toNatClampNeg = 2 → qX2_isMissing  (xsub F 46) (xsub G 68) (fun r38 F38 G38 => (∀ E38 : xF, E38 = (xspl F 46 2 F38) → (∀ H38 : xA, H38 = (xspl G 68 1 G38) → ((¬ r38 = 0 → qX6_error (2 : Int32) E38 H38 (fun r54 F54 G54 => Q r54 F54 G54)) ∧ (r38 = 0 → qX2_isMissing  (xsub E38 46) (xsub H38 68) (fun r46 F46 G46 => (∀ E46 : xF, E46 = (xspl E38 46 2 F46) → (∀ H46 : xA, H46 = (xspl H38 68 1 G46) → ((r46 = 0 → (((E46 46) = (E46 46) → qX2_holdsPart x2 x5 (xsub E46 46) (xsub H46 68) (fun r82 F82 G82 => (∀ E82 : xF, E82 = (xspl E46 46 2 F82) → (∀ H82 : xA, H82 = (xspl H46 68 1 G82) → ((r82 = 0 → qX6_error (1 : Int32) E82 H82 (fun r102 F102 G102 => Q r102 F102 G102)) ∧ (¬ r82 = 0 → qX2_holdsPart x4 x5 (xsub E82 46) (xsub H82 68) (fun r94 F94 G94 => (∀ E94 : xF, E94 = (xspl E82 46 2 F94) → (∀ H94 : xA, H94 = (xspl H82 68 1 G94) → ((¬ r94 = 0 → (¬ x2 < 0) ∧ (¬ x4 < 0) ∧ (¬ x5 < 0) ∧ (x2.toNatClampNeg + x5.toNatClampNeg ≤ 24) ∧ (x4.toNatClampNeg + x5.toNatClampNeg ≤ 24) ∧ (∀ G121 : xA, G121 = va_up H94 68 (va_cpy (H94 68) (H94 68) x2.toNatClampNeg x4.toNatClampNeg x5.toNatClampNeg) → Q x5 E94 G121)) ∧ (r94 = 0 → qX6_error (1 : Int32) E94 H94 (fun r102 F102 G102 => Q r102 F102 G102)))))))))))) ∧ (¬ (E46 46) = (E46 46) → qX6_error (5 : Int32) E46 H46 (fun r73 F73 G73 => Q r73 F73 G73)))) ∧ (¬ r46 = 0 → qX6_error (2 : Int32) E46 H46 (fun r54 F54 G54 => Q r54 F54 G54)))))))))))) ∧ (x3.toNatClampNeg = 3 → qX2_isMissing  (xsub F 46) (xsub G 68) (fun r38 F38 G38 => (∀ E38 : xF, E38 = (xspl F 46 2 F38) → (∀ H38 : xA, H38 = (xspl G 68 1 G38) → ((¬ r38 = 0 → qX6_error (2 : Int32) E38 H38 (fun r54 F54 G54 => Q r54 F54 G54)) ∧ (r38 = 0 → qX2_isMissing  (xsub E38 48) (xsub H38 69) (fun r46 F46 G46 => (∀ E46 : xF, E46 = (xspl E38 48 2 F46) → (∀ H46 : xA, H46 = (xspl H38 69 1 G46) → ((r46 = 0 → (((E46 46) = (E46 48) → qX2_holdsPart x2 x5 (xsub E46 46) (xsub H46 68) (fun r82 F82 G82 => (∀ E82 : xF, E82 = (xspl E46 46 2 F82) → (∀ H82 : xA, H82 = (xspl H46 68 1 G82) → ((r82 = 0 → qX6_error (1 : Int32) E82 H82 (fun r102 F102 G102 => Q r102 F102 G102)) ∧ (¬ r82 = 0 → qX2_holdsPart x4 x5 (xsub E82 48) (xsub H82 69) (fun r94 F94 G94 => (∀ E94 : xF, E94 = (xspl E82 48 2 F94) → (∀ H94 : xA, H94 = (xspl H82 69 1 G94) → ((¬ r94 = 0 → (¬ x2 < 0) ∧ (¬ x4 < 0) ∧ (¬ x5 < 0) ∧ (x2.toNatClampNeg + x5.toNatClampNeg ≤ 24) ∧ (x4.toNatClampNeg + x5.toNatClampNeg ≤ 24) ∧ (∀ G121 : xA, G121 = va_up H94 69 (va_cpy (H94 68) (H94 69) x2.toNatClampNeg x4.toNatClampNeg x5.toNatClampNeg) → Q x5 E94 G121)) ∧ (r94 = 0 → qX6_error (1 : Int32) E94 H94 (fun r102 F102 G102 => Q r102 F102 G102)))))))))))) ∧ (¬ (E46 46) = (E46 48) → qX6_error (5 : Int32) E46 H46 (fun r73 F73 G73 => Q r73 F73 G73)))) ∧ (¬ r46 = 0 → qX6_error (2 : Int32) E46 H46 (fun r54 F54 G54 => Q r54 F54 G54)))))))))))))) ∧ (x1.toNatClampNeg = 3 → (vp_in x3 4) ∧ ((x3.toNatClampNeg = 0 → qX2_isMissing  (xsub F 48) (xsub G 69) (fun r38 F38 G38 => (∀ E38 : xF, E38 = (xspl F 48 2 F38) → (∀ H38 : xA, H38 = (xspl G 69 1 G38) → ((¬ r38 = 0 → qX6_error (2 : Int32) E38 H38 (fun r54 F54 G54 => Q r54 F54 G54)) ∧ (r38 = 0 → qX2_isMissing  (xsub E38 42) (xsub H38 66) (fun r46 F46 G46 => (∀ E46 : xF, E46 = (xspl E38 42 2 F46) → (∀ H46 : xA, H46 = (xspl H38 66 1 G46) → ((r46 = 0 → (((E46 48) = (E46 42) → qX2_holdsPart x2 x5 (xsub E46 48) (xsub H46 69) (fun r82 F82 G82 => (∀ E82 : xF, E82 = (xspl E46 48 2 F82) → (∀ H82 : xA, H82 = (xspl H46 69 1 G82) → ((r82 = 0 → qX6_error (1 : Int32) E82 H82 (fun r102 F102 G102 => Q r102 F102 G102)) ∧ (¬ r82 = 0 → qX2_holdsPart x4 x5 (xsub E82 42) (xsub H82 66) (fun r94 F94 G94 => (∀ E94 : xF, E94 = (xspl E82 42 2 F94) → (∀ H94 : xA, H94 = (xspl H82 66 1 G94) → ((¬ r94 = 0 → (¬ x2 < 0) ∧ (¬ x4 < 0) ∧ (¬ x5 < 0) ∧ (x2.toNatClampNeg + x5.toNatClampNeg ≤ 24) ∧ (x4.toNatClampNeg + x5.toNatClampNeg ≤ 24) ∧ (∀ G121 : xA, G121 = va_up H94 66 (va_cpy (H94 69) (H94 66) x2.toNatClampNeg x4.toNatClampNeg x5.toNatClampNeg) → Q x5 E94 G121)) ∧ (r94 = 0 → qX6_error (1 : Int32) E94 H94 (fun r102 F102 G102 => Q r102 F102 G102)))))))))))) ∧ (¬ (E46 48) = (E46 42) → qX6_error (5 : Int32) E46 H46 (fun r73 F73 G73 => Q r73 F73 G73)))) ∧ (¬ r46 = 0 → qX6_error (2 : Int32) E46 H46 (fun r54 F54 G54 => Q r54 F54 G54)))))))))))) ∧ (x3.toNatClampNeg = 1 → qX2_isMissing  (xsub F 48) (xsub G 69) (fun r38 F38 G38 => (∀ E38 : xF, E38 = (xspl F 48 2 F38) → (∀ H38 : xA, H38 = (xspl G 69 1 G38) → ((¬ r38 = 0 → qX6_error (2 : Int32) E38 H38 (fun r54 F54 G54 => Q r54 F54 G54)) ∧ (r38 = 0 → qX2_isMissing  (xsub E38 44) (xsub H38 67) (fun r46 F46 G46 => (∀ E46 : xF, E46 = (xspl E38 44 2 F46) → (∀ H46 : xA, H46 = (xspl H38 67 1 G46) → ((r46 = 0 → (((E46 48) = (E46 44) → qX2_holdsPart x2 x5 (xsub E46 48) (xsub H46 69) (fun r82 F82 G82 => (∀ E82 : xF, E82 = (xspl E46 48 2 F82) → (∀ H82 : xA, H82 = (xspl H46 69 1 G82) → ((r82 = 0 → qX6_error (1 : Int32) E82 H82 (fun r102 F102 G102 => Q r102 F102 G102)) ∧ (¬ r82 = 0 → qX2_holdsPart x4 x5 (xsub E82 44) (xsub H82 67) (fun r94 F94 G94 => (∀ E94 : xF, E94 = (xspl E82 44 2 F94) → (∀ H94 : xA, H94 = (xspl H82 67 1 G94) → ((¬ r94 = 0 → (¬ x2 < 0) ∧ (¬ x4 < 0) ∧ (¬ x5 < 0) ∧ (x2.toNatClampNeg + x5.toNatClampNeg ≤ 24) ∧ (x4.toNatClampNeg + x5.toNatClampNeg ≤ 24) ∧ (∀ G121 : xA, G121 = va_up H94 67 (va_cpy (H94 69) (H94 67) x2.toNatClampNeg x4.toNatClampNeg x5.toNatClampNeg) → Q x5 E94 G121)) ∧ (r94 = 0 → qX6_error (1 : Int32) E94 H94 (fun r102 F102 G102 => Q r102 F102 G102)))))))))))) ∧ (¬ (E46 48) = (E46 44) → qX6_error (5 : Int32) E46 H46 (fun r73 F73 G73 => Q r73 F73 G73)))) ∧ (¬ r46 = 0 → qX6_error (2 : Int32) E46 H46 (fun r54 F54 G54 => Q r54 F54 G54)))))))))))) ∧ (x3.toNatClampNeg = 2 → qX2_isMissing  (xsub F 48) (xsub G 69) (fun r38 F38 G38 => (∀ E38 : xF, E38 = (xspl F 48 2 F38) → (∀ H38 : xA, H38 = (xspl G 69 1 G38) → ((¬ r38 = 0 → qX6_error (2 : Int32) E38 H38 (fun r54 F54 G54 => Q r54 F54 G54)) ∧ (r38 = 0 → qX2_isMissing  (xsub E38 46) (xsub H38 68) (fun r46 F46 G46 => (∀ E46 : xF, E46 = (xspl E38 46 2 F46) → (∀ H46 : xA, H46 = (xspl H38 68 1 G46) → ((r46 = 0 → (((E46 48) = (E46 46) → qX2_holdsPart x2 x5 (xsub E46 48) (xsub H46 69) (fun r82 F82 G82 => (∀ E82 : xF, E82 = (xspl E46 48 2 F82) → (∀ H82 : xA, H82 = (xspl H46 69 1 G82) → ((r82 = 0 → qX6_error (1 : Int32) E82 H82 (fun r102 F102 G102 => Q r102 F102 G102)) ∧ (¬ r82 = 0 → qX2_holdsPart x4 x5 (xsub E82 46) (xsub H82 68) (fun r94 F94 G94 => (∀ E94 : xF, E94 = (xspl E82 46 2 F94) → (∀ H94 : xA, H94 = (xspl H82 68 1 G94) → ((¬ r94 = 0 → (¬ x2 < 0) ∧ (¬ x4 < 0) ∧ (¬ x5 < 0) ∧ (x2.toNatClampNeg + x5.toNatClampNeg ≤ 24) ∧ (x4.toNatClampNeg + x5.toNatClampNeg ≤ 24) ∧ (∀ G121 : xA, G121 = va_up H94 68 (va_cpy (H94 69) (H94 68) x2.toNatClampNeg x4.toNatClampNeg x5.toNatClampNeg) → Q x5 E94 G121)) ∧ (r94 = 0 → qX6_error (1 : Int32) E94 H94 (fun r102 F102 G102 => Q r102 F102 G102)))))))))))) ∧ (¬ (E46 48) = (E46 46) → qX6_error (5 : Int32) E46 H46 (fun r73 F73 G73 => Q r73 F73 G73)))) ∧ (¬ r46 = 0 → qX6_error (2 : Int32) E46 H46 (fun r54 F54 G54 => Q r54 F54 G54)))))))))))) ∧ (x3.toNatClampNeg = 3 → qX2_isMissing  (xsub F 48) (xsub G 69) (fun r38 F38 G38 => (∀ E38 : xF, E38 = (xspl F 48 2 F38) → (∀ H38 : xA, H38 = (xspl G 69 1 G38) → ((¬ r38 = 0 → qX6_error (2 : Int32) E38 H38 (fun r54 F54 G54 => Q r54 F54 G54)) ∧ (r38 = 0 → qX2_isMissing  (xsub E38 48) (xsub H38 69) (fun r46 F46 G46 => (∀ E46 : xF, E46 = (xspl E38 48 2 F46) → (∀ H46 : xA, H46 = (xspl H38 69 1 G46) → ((r46 = 0 → (((E46 48) = (E46 48) → qX2_holdsPart x2 x5 (xsub E46 48) (xsub H46 69) (fun r82 F82 G82 => (∀ E82 : xF, E82 = (xspl E46 48 2 F82) → (∀ H82 : xA, H82 = (xspl H46 69 1 G82) → ((r82 = 0 → qX6_error (1 : Int32) E82 H82 (fun r102 F102 G102 => Q r102 F102 G102)) ∧ (¬ r82 = 0 → qX2_holdsPart x4 x5 (xsub E82 48) (xsub H82 69) (fun r94 F94 G94 => (∀ E94 : xF, E94 = (xspl E82 48 2 F94) → (∀ H94 : xA, H94 = (xspl H82 69 1 G94) → ((¬ r94 = 0 → (¬ x2 < 0) ∧ (¬ x4 < 0) ∧ (¬ x5 < 0) ∧ (x2.toNatClampNeg + x5.toNatClampNeg ≤ 24) ∧ (x4.toNatClampNeg + x5.toNatClampNeg ≤ 24) ∧ (∀ G121 : xA, G121 = va_up H94 69 (va_cpy (H94 69) (H94 69) x2.toNatClampNeg x4.toNatClampNeg x5.toNatClampNeg) → Q x5 E94 G121)) ∧ (r94 = 0 → qX6_error (1 : Int32) E94 H94 (fun r102 F102 G102 => Q r102 F102 G102)))))))))))) ∧ (¬ (E46 48) = (E46 48) → qX6_error (5 : Int32) E46 H46 (fun r73 F73 G73 => Q r73 F73 G73)))) ∧ (¬ r46 = 0 → qX6_error (2 : Int32) E46 H46 (fun r54 F54 G54 => Q r54 F54 G54)))))))))))))))) ∧ (r8 = 0 → qX6_error (1 : Int32) F G (fun r16 F16 G16 => Q r16 F16 G16)))))))
set_option maxHeartbeats 4000000 in
set_option maxRecDepth 100000 in
theorem mX6_move (l : Launch) (D : va_G) (cI cO : ClassId) (a : Nat → Nat)  (x1 : Int32) (x2 : Int32) (x3 : Int32) (x4 : Int32) (x5 : Int32) : MI l yX6_move wsX6_move rmX6_move D (xtys cI cO) [.ref (a 0), .int x1, .int x2, .int x3, .int x4, .int x5] (w6 cI cO a) (qX6_move x1 x2 x3 x4 x5) := by
  refine MI_of (cc := cX6_move) (maxL := 8) (own := RX6) (by decide) rfl rfl (Nat.le_of_ble_eq_true rfl) ?_
  intro p e s m args below meth c A F G Q h K
  refine x_locals [0, 1, 2, 3, 4, 5] (L' := [(0, .ref (a 0)), (1, .int _), (2, .int _), (3, .int _), (4, .int _), (5, .int _)]) rfl ?_
  refine x_iload_n (pc' := 1) K dX6_move_0 1 rfl rfl ?_
  refine x_callS (pc' := 4) K (mX6_isSheet l D cI cO a _) rfl gX6_move_X6_isSheet dsX6_isSheet ⟨rfl, rfl, ⟨Nat.le_of_ble_eq_true rfl, Nat.le_of_ble_eq_true rfl⟩, Nat.le_of_ble_eq_true rfl, Nat.le_of_ble_eq_true rfl⟩ h (st := []) rfl rfl (Nat.le_of_ble_eq_true rfl) dX6_move_1 rfl (fun r1 h => ?_)
  refine x_if_eq (tgt := 14) (pc' := 7) K dX6_move_4 rfl rfl (fun c4 => ?_) (fun c4 => ?_)
  · replace h := h.1 c4
    refine x_aload_n (pc' := 15) K dX6_move_14 0 rfl rfl ?_
    refine x_iconst (pc' := 16) (v := 1) K dX6_move_15 (by decide) rfl ?_
    refine x_callI (pc' := 19) K (mX6_error l D cI cO a _) rfl gX6_move_X6_error rfl dsX6_error ⟨rfl, rfl, ⟨Nat.le_of_ble_eq_true rfl, Nat.le_of_ble_eq_true rfl⟩, Nat.le_of_ble_eq_true rfl, Nat.le_of_ble_eq_true rfl⟩ h 6 0 rfl rfl (st := []) rfl rfl (Nat.le_of_ble_eq_true rfl) dX6_move_16 rfl (fun r16 F16 G16 h => ?_)
    exact x_iret (wf := w6 cI cO a) K h dX6_move_19
  · replace h := h.2 c4
    refine x_iload_n (pc' := 8) K dX6_move_7 3 rfl rfl ?_
    refine x_callS (pc' := 11) K (mX6_isSheet l D cI cO a _) rfl gX6_move_X6_isSheet dsX6_isSheet ⟨rfl, rfl, ⟨Nat.le_of_ble_eq_true rfl, Nat.le_of_ble_eq_true rfl⟩, Nat.le_of_ble_eq_true rfl, Nat.le_of_ble_eq_true rfl⟩ h (st := []) rfl rfl (Nat.le_of_ble_eq_true rfl) dX6_move_8 rfl (fun r8 h => ?_)
    refine x_if_ne (tgt := 20) (pc' := 14) K dX6_move_11 rfl rfl (fun c11 => ?_) (fun c11 => ?_)
    · replace h := h.1 c11
      refine x_aload_n (pc' := 21) K dX6_move_20 0 rfl rfl ?_
      refine xw6_0g_sheets (pc' := 24) K hinX6_move_X6 uX6_move_f70 dX6_move_21 rfl ?_
      refine x_iload_n (pc' := 25) K dX6_move_24 1 rfl rfl ?_
      obtain ⟨i25, h⟩ := h
      rcases xin4 i25 with e25 | e25 | e25 | e25
      · replace h := h.1 e25
        refine xw6_96q0 (pc' := 26) K i25 e25 dX6_move_25 rfl ?_
        refine x_astore (pc' := 28) (i := 6) K dX6_move_26 (by decide) [1, 2, 3, 4, 5, 6, 0] (L' := [(0, .ref (a 0)), (1, .int _), (2, .int _), (3, .int _), (4, .int _), (5, .int _), (6, .ref (a 97))]) rfl rfl ?_
        refine x_aload_n (pc' := 29) K dX6_move_28 0 rfl rfl ?_
        refine xw6_0g_sheets (pc' := 32) K hinX6_move_X6 uX6_move_f70 dX6_move_29 rfl ?_
        refine x_iload_n (pc' := 33) K dX6_move_32 3 rfl rfl ?_
        obtain ⟨i33, h⟩ := h
        rcases xin4 i33 with e33 | e33 | e33 | e33
        · replace h := h.1 e33
          refine xw6_96q0 (pc' := 34) K i33 e33 dX6_move_33 rfl ?_
          refine x_astore (pc' := 36) (i := 7) K dX6_move_34 (by decide) [1, 2, 3, 4, 5, 6, 7, 0] (L' := [(0, .ref (a 0)), (1, .int _), (2, .int _), (3, .int _), (4, .int _), (5, .int _), (6, .ref (a 97)), (7, .ref (a 97))]) rfl rfl ?_
          refine x_aload (pc' := 38) K dX6_move_36 6 rfl rfl ?_
          refine x_subI (pc' := 41) (wn := fun F' G' => w6 cI cO a (xspl F 42 2 F') (xspl G 66 1 G')) K (mX2_isMissing l D cI cO (xsub a 97)) rfl gX6_move_X2_isMissing rfl dsX2_isMissing ⟨rfl, rfl, ⟨Nat.le_of_ble_eq_true rfl, Nat.le_of_ble_eq_true rfl⟩, Nat.le_of_ble_eq_true rfl, Nat.le_of_ble_eq_true rfl⟩ h 2 0 rfl rfl (xpl31 cI cO a _ _) (fun F' G' => xpr31 cI cO a _ _ F' G') (st := []) rfl rfl (Nat.le_of_ble_eq_true rfl) dX6_move_38 rfl (fun r38 F38 G38 h => ?_)
          obtain ⟨E38, eE38⟩ : ∃ x : xF, x = (xspl F 42 2 F38) := ⟨_, rfl⟩
          obtain ⟨H38, eH38⟩ : ∃ x : xA, x = (xspl G 66 1 G38) := ⟨_, rfl⟩
          refine x_weq (w' := w6 cI cO a E38 H38) (by subst eE38; subst eH38; rfl) ?_
          replace h := h E38 eE38
          replace h := h H38 eH38
          refine x_if_ne (tgt := 52) (pc' := 44) K dX6_move_41 rfl rfl (fun c41 => ?_) (fun c41 => ?_)
          · replace h := h.1 c41
            refine x_aload_n (pc' := 53) K dX6_move_52 0 rfl rfl ?_
            refine x_iconst (pc' := 54) (v := 2) K dX6_move_53 (by decide) rfl ?_
            refine x_callI (pc' := 57) K (mX6_error l D cI cO a _) rfl gX6_move_X6_error rfl dsX6_error ⟨rfl, rfl, ⟨Nat.le_of_ble_eq_true rfl, Nat.le_of_ble_eq_true rfl⟩, Nat.le_of_ble_eq_true rfl, Nat.le_of_ble_eq_true rfl⟩ h 6 0 rfl rfl (st := []) rfl rfl (Nat.le_of_ble_eq_true rfl) dX6_move_54 rfl (fun r54 F54 G54 h => ?_)
            exact x_iret (wf := w6 cI cO a) K h dX6_move_57
          · replace h := h.2 c41
            refine x_aload (pc' := 46) K dX6_move_44 7 rfl rfl ?_
            refine x_subI (pc' := 49) (wn := fun F' G' => w6 cI cO a (xspl E38 42 2 F') (xspl H38 66 1 G')) K (mX2_isMissing l D cI cO (xsub a 97)) rfl gX6_move_X2_isMissing rfl dsX2_isMissing ⟨rfl, rfl, ⟨Nat.le_of_ble_eq_true rfl, Nat.le_of_ble_eq_true rfl⟩, Nat.le_of_ble_eq_true rfl, Nat.le_of_ble_eq_true rfl⟩ h 2 0 rfl rfl (xpl31 cI cO a _ _) (fun F' G' => xpr31 cI cO a _ _ F' G') (st := []) rfl rfl (Nat.le_of_ble_eq_true rfl) dX6_move_46 rfl (fun r46 F46 G46 h => ?_)
            obtain ⟨E46, eE46⟩ : ∃ x : xF, x = (xspl E38 42 2 F46) := ⟨_, rfl⟩
            obtain ⟨H46, eH46⟩ : ∃ x : xA, x = (xspl H38 66 1 G46) := ⟨_, rfl⟩
            refine x_weq (w' := w6 cI cO a E46 H46) (by subst eE46; subst eH46; rfl) ?_
            replace h := h E46 eE46
            replace h := h H46 eH46
            refine x_if_eq (tgt := 58) (pc' := 52) K dX6_move_49 rfl rfl (fun c49 => ?_) (fun c49 => ?_)
            · replace h := h.1 c49
              refine x_aload (pc' := 60) K dX6_move_58 6 rfl rfl ?_
              refine xw6_97g_bits (pc' := 63) K hinX6_move_X2 uX6_move_f237 dX6_move_60 rfl ?_
              refine x_aload (pc' := 65) K dX6_move_63 7 rfl rfl ?_
              refine xw6_97g_bits (pc' := 68) K hinX6_move_X2 uX6_move_f237 dX6_move_65 rfl ?_
              refine x_icmp_eq (tgt := 77) (pc' := 71) K dX6_move_68 rfl rfl (fun c68 => ?_) (fun c68 => ?_)
              · replace h := h.1 c68
                refine x_aload (pc' := 79) K dX6_move_77 6 rfl rfl ?_
                refine x_iload_n (pc' := 80) K dX6_move_79 2 rfl rfl ?_
                refine x_iload (pc' := 82) K dX6_move_80 5 rfl rfl ?_
                refine x_subI (pc' := 85) (wn := fun F' G' => w6 cI cO a (xspl E46 42 2 F') (xspl H46 66 1 G')) K (mX2_holdsPart l D cI cO (xsub a 97) _ _) rfl gX6_move_X2_holdsPart rfl dsX2_holdsPart ⟨rfl, rfl, ⟨Nat.le_of_ble_eq_true rfl, Nat.le_of_ble_eq_true rfl⟩, Nat.le_of_ble_eq_true rfl, Nat.le_of_ble_eq_true rfl⟩ h 2 0 rfl rfl (xpl31 cI cO a _ _) (fun F' G' => xpr31 cI cO a _ _ F' G') (st := []) rfl rfl (Nat.le_of_ble_eq_true rfl) dX6_move_82 rfl (fun r82 F82 G82 h => ?_)
                obtain ⟨E82, eE82⟩ : ∃ x : xF, x = (xspl E46 42 2 F82) := ⟨_, rfl⟩
                obtain ⟨H82, eH82⟩ : ∃ x : xA, x = (xspl H46 66 1 G82) := ⟨_, rfl⟩
                refine x_weq (w' := w6 cI cO a E82 H82) (by subst eE82; subst eH82; rfl) ?_
                replace h := h E82 eE82
                replace h := h H82 eH82
                refine x_if_eq (tgt := 100) (pc' := 88) K dX6_move_85 rfl rfl (fun c85 => ?_) (fun c85 => ?_)
                · replace h := h.1 c85
                  refine x_aload_n (pc' := 101) K dX6_move_100 0 rfl rfl ?_
                  refine x_iconst (pc' := 102) (v := 1) K dX6_move_101 (by decide) rfl ?_
                  refine x_callI (pc' := 105) K (mX6_error l D cI cO a _) rfl gX6_move_X6_error rfl dsX6_error ⟨rfl, rfl, ⟨Nat.le_of_ble_eq_true rfl, Nat.le_of_ble_eq_true rfl⟩, Nat.le_of_ble_eq_true rfl, Nat.le_of_ble_eq_true rfl⟩ h 6 0 rfl rfl (st := []) rfl rfl (Nat.le_of_ble_eq_true rfl) dX6_move_102 rfl (fun r102 F102 G102 h => ?_)
                  exact x_iret (wf := w6 cI cO a) K h dX6_move_105
                · replace h := h.2 c85
                  refine x_aload (pc' := 90) K dX6_move_88 7 rfl rfl ?_
                  refine x_iload (pc' := 92) K dX6_move_90 4 rfl rfl ?_
                  refine x_iload (pc' := 94) K dX6_move_92 5 rfl rfl ?_
                  refine x_subI (pc' := 97) (wn := fun F' G' => w6 cI cO a (xspl E82 42 2 F') (xspl H82 66 1 G')) K (mX2_holdsPart l D cI cO (xsub a 97) _ _) rfl gX6_move_X2_holdsPart rfl dsX2_holdsPart ⟨rfl, rfl, ⟨Nat.le_of_ble_eq_true rfl, Nat.le_of_ble_eq_true rfl⟩, Nat.le_of_ble_eq_true rfl, Nat.le_of_ble_eq_true rfl⟩ h 2 0 rfl rfl (xpl31 cI cO a _ _) (fun F' G' => xpr31 cI cO a _ _ F' G') (st := []) rfl rfl (Nat.le_of_ble_eq_true rfl) dX6_move_94 rfl (fun r94 F94 G94 h => ?_)
                  obtain ⟨E94, eE94⟩ : ∃ x : xF, x = (xspl E82 42 2 F94) := ⟨_, rfl⟩
                  obtain ⟨H94, eH94⟩ : ∃ x : xA, x = (xspl H82 66 1 G94) := ⟨_, rfl⟩
                  refine x_weq (w' := w6 cI cO a E94 H94) (by subst eE94; subst eH94; rfl) ?_
                  replace h := h E94 eE94
                  replace h := h H94 eH94
                  refine x_if_ne (tgt := 106) (pc' := 100) K dX6_move_97 rfl rfl (fun c97 => ?_) (fun c97 => ?_)
                  · replace h := h.1 c97
                    refine x_aload (pc' := 108) K dX6_move_106 6 rfl rfl ?_
                    refine xw6_97g_numbers (pc' := 111) K hinX6_move_X2 uX6_move_f243 dX6_move_108 rfl ?_
                    refine x_iload_n (pc' := 112) K dX6_move_111 2 rfl rfl ?_
                    refine x_aload (pc' := 114) K dX6_move_112 7 rfl rfl ?_
                    refine xw6_97g_numbers (pc' := 117) K hinX6_move_X2 uX6_move_f243 dX6_move_114 rfl ?_
                    refine x_iload (pc' := 119) K dX6_move_117 4 rfl rfl ?_
                    refine x_iload (pc' := 121) K dX6_move_119 5 rfl rfl ?_
                    obtain ⟨z121s, h⟩ := h
                    obtain ⟨z121d, h⟩ := h
                    obtain ⟨z121n, h⟩ := h
                    obtain ⟨z121p, h⟩ := h
                    obtain ⟨z121q, h⟩ := h
                    refine x_copy (pc' := 124) (w' := w6 cI cO a E94 (va_up H94 66 (va_cpy (H94 66) (H94 66) x2.toNatClampNeg x4.toNatClampNeg x5.toNatClampNeg))) K uX6_move_m246 uX6_move_cn uX6_move_cs uX6_move_ci 98 98 (f := H94 66) (g := H94 66) (n0 := 24) (n1 := 24) (cA := cI) rfl rfl rfl z121s z121d z121n z121p z121q rfl (by decide +kernel) (by decide +kernel) dX6_move_121 rfl ?_
                    obtain ⟨G121, eG121⟩ : ∃ x : xA, x = va_up H94 66 (va_cpy (H94 66) (H94 66) x2.toNatClampNeg x4.toNatClampNeg x5.toNatClampNeg) := ⟨_, rfl⟩
                    refine x_weq (w' := w6 cI cO a E94 G121) (by subst eG121; rfl) ?_
                    replace h := h G121 eG121
                    refine x_iload (pc' := 126) K dX6_move_124 5 rfl rfl ?_
                    exact x_iret (wf := w6 cI cO a) K h dX6_move_126
                  · replace h := h.2 c97
                    refine x_aload_n (pc' := 101) K dX6_move_100 0 rfl rfl ?_
                    refine x_iconst (pc' := 102) (v := 1) K dX6_move_101 (by decide) rfl ?_
                    refine x_callI (pc' := 105) K (mX6_error l D cI cO a _) rfl gX6_move_X6_error rfl dsX6_error ⟨rfl, rfl, ⟨Nat.le_of_ble_eq_true rfl, Nat.le_of_ble_eq_true rfl⟩, Nat.le_of_ble_eq_true rfl, Nat.le_of_ble_eq_true rfl⟩ h 6 0 rfl rfl (st := []) rfl rfl (Nat.le_of_ble_eq_true rfl) dX6_move_102 rfl (fun r102 F102 G102 h => ?_)
                    exact x_iret (wf := w6 cI cO a) K h dX6_move_105
              · replace h := h.2 c68
                refine x_aload_n (pc' := 72) K dX6_move_71 0 rfl rfl ?_
                refine x_iconst (pc' := 73) (v := 5) K dX6_move_72 (by decide) rfl ?_
                refine x_callI (pc' := 76) K (mX6_error l D cI cO a _) rfl gX6_move_X6_error rfl dsX6_error ⟨rfl, rfl, ⟨Nat.le_of_ble_eq_true rfl, Nat.le_of_ble_eq_true rfl⟩, Nat.le_of_ble_eq_true rfl, Nat.le_of_ble_eq_true rfl⟩ h 6 0 rfl rfl (st := []) rfl rfl (Nat.le_of_ble_eq_true rfl) dX6_move_73 rfl (fun r73 F73 G73 h => ?_)
                exact x_iret (wf := w6 cI cO a) K h dX6_move_76
            · replace h := h.2 c49
              refine x_aload_n (pc' := 53) K dX6_move_52 0 rfl rfl ?_
              refine x_iconst (pc' := 54) (v := 2) K dX6_move_53 (by decide) rfl ?_
              refine x_callI (pc' := 57) K (mX6_error l D cI cO a _) rfl gX6_move_X6_error rfl dsX6_error ⟨rfl, rfl, ⟨Nat.le_of_ble_eq_true rfl, Nat.le_of_ble_eq_true rfl⟩, Nat.le_of_ble_eq_true rfl, Nat.le_of_ble_eq_true rfl⟩ h 6 0 rfl rfl (st := []) rfl rfl (Nat.le_of_ble_eq_true rfl) dX6_move_54 rfl (fun r54 F54 G54 h => ?_)
              exact x_iret (wf := w6 cI cO a) K h dX6_move_57
        · replace h := h.2.1 e33
          refine xw6_96q1 (pc' := 34) K i33 e33 dX6_move_33 rfl ?_
          refine x_astore (pc' := 36) (i := 7) K dX6_move_34 (by decide) [1, 2, 3, 4, 5, 6, 7, 0] (L' := [(0, .ref (a 0)), (1, .int _), (2, .int _), (3, .int _), (4, .int _), (5, .int _), (6, .ref (a 97)), (7, .ref (a 99))]) rfl rfl ?_
          refine x_aload (pc' := 38) K dX6_move_36 6 rfl rfl ?_
          refine x_subI (pc' := 41) (wn := fun F' G' => w6 cI cO a (xspl F 42 2 F') (xspl G 66 1 G')) K (mX2_isMissing l D cI cO (xsub a 97)) rfl gX6_move_X2_isMissing rfl dsX2_isMissing ⟨rfl, rfl, ⟨Nat.le_of_ble_eq_true rfl, Nat.le_of_ble_eq_true rfl⟩, Nat.le_of_ble_eq_true rfl, Nat.le_of_ble_eq_true rfl⟩ h 2 0 rfl rfl (xpl31 cI cO a _ _) (fun F' G' => xpr31 cI cO a _ _ F' G') (st := []) rfl rfl (Nat.le_of_ble_eq_true rfl) dX6_move_38 rfl (fun r38 F38 G38 h => ?_)
          obtain ⟨E38, eE38⟩ : ∃ x : xF, x = (xspl F 42 2 F38) := ⟨_, rfl⟩
          obtain ⟨H38, eH38⟩ : ∃ x : xA, x = (xspl G 66 1 G38) := ⟨_, rfl⟩
          refine x_weq (w' := w6 cI cO a E38 H38) (by subst eE38; subst eH38; rfl) ?_
          replace h := h E38 eE38
          replace h := h H38 eH38
          refine x_if_ne (tgt := 52) (pc' := 44) K dX6_move_41 rfl rfl (fun c41 => ?_) (fun c41 => ?_)
          · replace h := h.1 c41
            refine x_aload_n (pc' := 53) K dX6_move_52 0 rfl rfl ?_
            refine x_iconst (pc' := 54) (v := 2) K dX6_move_53 (by decide) rfl ?_
            refine x_callI (pc' := 57) K (mX6_error l D cI cO a _) rfl gX6_move_X6_error rfl dsX6_error ⟨rfl, rfl, ⟨Nat.le_of_ble_eq_true rfl, Nat.le_of_ble_eq_true rfl⟩, Nat.le_of_ble_eq_true rfl, Nat.le_of_ble_eq_true rfl⟩ h 6 0 rfl rfl (st := []) rfl rfl (Nat.le_of_ble_eq_true rfl) dX6_move_54 rfl (fun r54 F54 G54 h => ?_)
            exact x_iret (wf := w6 cI cO a) K h dX6_move_57
          · replace h := h.2 c41
            refine x_aload (pc' := 46) K dX6_move_44 7 rfl rfl ?_
            refine x_subI (pc' := 49) (wn := fun F' G' => w6 cI cO a (xspl E38 44 2 F') (xspl H38 67 1 G')) K (mX2_isMissing l D cI cO (xsub a 99)) rfl gX6_move_X2_isMissing rfl dsX2_isMissing ⟨rfl, rfl, ⟨Nat.le_of_ble_eq_true rfl, Nat.le_of_ble_eq_true rfl⟩, Nat.le_of_ble_eq_true rfl, Nat.le_of_ble_eq_true rfl⟩ h 2 0 rfl rfl (xpl32 cI cO a _ _) (fun F' G' => xpr32 cI cO a _ _ F' G') (st := []) rfl rfl (Nat.le_of_ble_eq_true rfl) dX6_move_46 rfl (fun r46 F46 G46 h => ?_)
            obtain ⟨E46, eE46⟩ : ∃ x : xF, x = (xspl E38 44 2 F46) := ⟨_, rfl⟩
            obtain ⟨H46, eH46⟩ : ∃ x : xA, x = (xspl H38 67 1 G46) := ⟨_, rfl⟩
            refine x_weq (w' := w6 cI cO a E46 H46) (by subst eE46; subst eH46; rfl) ?_
            replace h := h E46 eE46
            replace h := h H46 eH46
            refine x_if_eq (tgt := 58) (pc' := 52) K dX6_move_49 rfl rfl (fun c49 => ?_) (fun c49 => ?_)
            · replace h := h.1 c49
              refine x_aload (pc' := 60) K dX6_move_58 6 rfl rfl ?_
              refine xw6_97g_bits (pc' := 63) K hinX6_move_X2 uX6_move_f237 dX6_move_60 rfl ?_
              refine x_aload (pc' := 65) K dX6_move_63 7 rfl rfl ?_
              refine xw6_99g_bits (pc' := 68) K hinX6_move_X2 uX6_move_f237 dX6_move_65 rfl ?_
              refine x_icmp_eq (tgt := 77) (pc' := 71) K dX6_move_68 rfl rfl (fun c68 => ?_) (fun c68 => ?_)
              · replace h := h.1 c68
                refine x_aload (pc' := 79) K dX6_move_77 6 rfl rfl ?_
                refine x_iload_n (pc' := 80) K dX6_move_79 2 rfl rfl ?_
                refine x_iload (pc' := 82) K dX6_move_80 5 rfl rfl ?_
                refine x_subI (pc' := 85) (wn := fun F' G' => w6 cI cO a (xspl E46 42 2 F') (xspl H46 66 1 G')) K (mX2_holdsPart l D cI cO (xsub a 97) _ _) rfl gX6_move_X2_holdsPart rfl dsX2_holdsPart ⟨rfl, rfl, ⟨Nat.le_of_ble_eq_true rfl, Nat.le_of_ble_eq_true rfl⟩, Nat.le_of_ble_eq_true rfl, Nat.le_of_ble_eq_true rfl⟩ h 2 0 rfl rfl (xpl31 cI cO a _ _) (fun F' G' => xpr31 cI cO a _ _ F' G') (st := []) rfl rfl (Nat.le_of_ble_eq_true rfl) dX6_move_82 rfl (fun r82 F82 G82 h => ?_)
                obtain ⟨E82, eE82⟩ : ∃ x : xF, x = (xspl E46 42 2 F82) := ⟨_, rfl⟩
                obtain ⟨H82, eH82⟩ : ∃ x : xA, x = (xspl H46 66 1 G82) := ⟨_, rfl⟩
                refine x_weq (w' := w6 cI cO a E82 H82) (by subst eE82; subst eH82; rfl) ?_
                replace h := h E82 eE82
                replace h := h H82 eH82
                refine x_if_eq (tgt := 100) (pc' := 88) K dX6_move_85 rfl rfl (fun c85 => ?_) (fun c85 => ?_)
                · replace h := h.1 c85
                  refine x_aload_n (pc' := 101) K dX6_move_100 0 rfl rfl ?_
                  refine x_iconst (pc' := 102) (v := 1) K dX6_move_101 (by decide) rfl ?_
                  refine x_callI (pc' := 105) K (mX6_error l D cI cO a _) rfl gX6_move_X6_error rfl dsX6_error ⟨rfl, rfl, ⟨Nat.le_of_ble_eq_true rfl, Nat.le_of_ble_eq_true rfl⟩, Nat.le_of_ble_eq_true rfl, Nat.le_of_ble_eq_true rfl⟩ h 6 0 rfl rfl (st := []) rfl rfl (Nat.le_of_ble_eq_true rfl) dX6_move_102 rfl (fun r102 F102 G102 h => ?_)
                  exact x_iret (wf := w6 cI cO a) K h dX6_move_105
                · replace h := h.2 c85
                  refine x_aload (pc' := 90) K dX6_move_88 7 rfl rfl ?_
                  refine x_iload (pc' := 92) K dX6_move_90 4 rfl rfl ?_
                  refine x_iload (pc' := 94) K dX6_move_92 5 rfl rfl ?_
                  refine x_subI (pc' := 97) (wn := fun F' G' => w6 cI cO a (xspl E82 44 2 F') (xspl H82 67 1 G')) K (mX2_holdsPart l D cI cO (xsub a 99) _ _) rfl gX6_move_X2_holdsPart rfl dsX2_holdsPart ⟨rfl, rfl, ⟨Nat.le_of_ble_eq_true rfl, Nat.le_of_ble_eq_true rfl⟩, Nat.le_of_ble_eq_true rfl, Nat.le_of_ble_eq_true rfl⟩ h 2 0 rfl rfl (xpl32 cI cO a _ _) (fun F' G' => xpr32 cI cO a _ _ F' G') (st := []) rfl rfl (Nat.le_of_ble_eq_true rfl) dX6_move_94 rfl (fun r94 F94 G94 h => ?_)
                  obtain ⟨E94, eE94⟩ : ∃ x : xF, x = (xspl E82 44 2 F94) := ⟨_, rfl⟩
                  obtain ⟨H94, eH94⟩ : ∃ x : xA, x = (xspl H82 67 1 G94) := ⟨_, rfl⟩
                  refine x_weq (w' := w6 cI cO a E94 H94) (by subst eE94; subst eH94; rfl) ?_
                  replace h := h E94 eE94
                  replace h := h H94 eH94
                  refine x_if_ne (tgt := 106) (pc' := 100) K dX6_move_97 rfl rfl (fun c97 => ?_) (fun c97 => ?_)
                  · replace h := h.1 c97
                    refine x_aload (pc' := 108) K dX6_move_106 6 rfl rfl ?_
                    refine xw6_97g_numbers (pc' := 111) K hinX6_move_X2 uX6_move_f243 dX6_move_108 rfl ?_
                    refine x_iload_n (pc' := 112) K dX6_move_111 2 rfl rfl ?_
                    refine x_aload (pc' := 114) K dX6_move_112 7 rfl rfl ?_
                    refine xw6_99g_numbers (pc' := 117) K hinX6_move_X2 uX6_move_f243 dX6_move_114 rfl ?_
                    refine x_iload (pc' := 119) K dX6_move_117 4 rfl rfl ?_
                    refine x_iload (pc' := 121) K dX6_move_119 5 rfl rfl ?_
                    obtain ⟨z121s, h⟩ := h
                    obtain ⟨z121d, h⟩ := h
                    obtain ⟨z121n, h⟩ := h
                    obtain ⟨z121p, h⟩ := h
                    obtain ⟨z121q, h⟩ := h
                    refine x_copy (pc' := 124) (w' := w6 cI cO a E94 (va_up H94 67 (va_cpy (H94 66) (H94 67) x2.toNatClampNeg x4.toNatClampNeg x5.toNatClampNeg))) K uX6_move_m246 uX6_move_cn uX6_move_cs uX6_move_ci 98 100 (f := H94 66) (g := H94 67) (n0 := 24) (n1 := 24) (cA := cI) rfl rfl rfl z121s z121d z121n z121p z121q rfl (by decide +kernel) (by decide +kernel) dX6_move_121 rfl ?_
                    obtain ⟨G121, eG121⟩ : ∃ x : xA, x = va_up H94 67 (va_cpy (H94 66) (H94 67) x2.toNatClampNeg x4.toNatClampNeg x5.toNatClampNeg) := ⟨_, rfl⟩
                    refine x_weq (w' := w6 cI cO a E94 G121) (by subst eG121; rfl) ?_
                    replace h := h G121 eG121
                    refine x_iload (pc' := 126) K dX6_move_124 5 rfl rfl ?_
                    exact x_iret (wf := w6 cI cO a) K h dX6_move_126
                  · replace h := h.2 c97
                    refine x_aload_n (pc' := 101) K dX6_move_100 0 rfl rfl ?_
                    refine x_iconst (pc' := 102) (v := 1) K dX6_move_101 (by decide) rfl ?_
                    refine x_callI (pc' := 105) K (mX6_error l D cI cO a _) rfl gX6_move_X6_error rfl dsX6_error ⟨rfl, rfl, ⟨Nat.le_of_ble_eq_true rfl, Nat.le_of_ble_eq_true rfl⟩, Nat.le_of_ble_eq_true rfl, Nat.le_of_ble_eq_true rfl⟩ h 6 0 rfl rfl (st := []) rfl rfl (Nat.le_of_ble_eq_true rfl) dX6_move_102 rfl (fun r102 F102 G102 h => ?_)
                    exact x_iret (wf := w6 cI cO a) K h dX6_move_105
              · replace h := h.2 c68
                refine x_aload_n (pc' := 72) K dX6_move_71 0 rfl rfl ?_
                refine x_iconst (pc' := 73) (v := 5) K dX6_move_72 (by decide) rfl ?_
                refine x_callI (pc' := 76) K (mX6_error l D cI cO a _) rfl gX6_move_X6_error rfl dsX6_error ⟨rfl, rfl, ⟨Nat.le_of_ble_eq_true rfl, Nat.le_of_ble_eq_true rfl⟩, Nat.le_of_ble_eq_true rfl, Nat.le_of_ble_eq_true rfl⟩ h 6 0 rfl rfl (st := []) rfl rfl (Nat.le_of_ble_eq_true rfl) dX6_move_73 rfl (fun r73 F73 G73 h => ?_)
                exact x_iret (wf := w6 cI cO a) K h dX6_move_76
            · replace h := h.2 c49
              refine x_aload_n (pc' := 53) K dX6_move_52 0 rfl rfl ?_
              refine x_iconst (pc' := 54) (v := 2) K dX6_move_53 (by decide) rfl ?_
              refine x_callI (pc' := 57) K (mX6_error l D cI cO a _) rfl gX6_move_X6_error rfl dsX6_error ⟨rfl, rfl, ⟨Nat.le_of_ble_eq_true rfl, Nat.le_of_ble_eq_true rfl⟩, Nat.le_of_ble_eq_true rfl, Nat.le_of_ble_eq_true rfl⟩ h 6 0 rfl rfl (st := []) rfl rfl (Nat.le_of_ble_eq_true rfl) dX6_move_54 rfl (fun r54 F54 G54 h => ?_)
              exact x_iret (wf := w6 cI cO a) K h dX6_move_57
        · replace h := h.2.2.1 e33
          refine xw6_96q2 (pc' := 34) K i33 e33 dX6_move_33 rfl ?_
          refine x_astore (pc' := 36) (i := 7) K dX6_move_34 (by decide) [1, 2, 3, 4, 5, 6, 7, 0] (L' := [(0, .ref (a 0)), (1, .int _), (2, .int _), (3, .int _), (4, .int _), (5, .int _), (6, .ref (a 97)), (7, .ref (a 101))]) rfl rfl ?_
          refine x_aload (pc' := 38) K dX6_move_36 6 rfl rfl ?_
          refine x_subI (pc' := 41) (wn := fun F' G' => w6 cI cO a (xspl F 42 2 F') (xspl G 66 1 G')) K (mX2_isMissing l D cI cO (xsub a 97)) rfl gX6_move_X2_isMissing rfl dsX2_isMissing ⟨rfl, rfl, ⟨Nat.le_of_ble_eq_true rfl, Nat.le_of_ble_eq_true rfl⟩, Nat.le_of_ble_eq_true rfl, Nat.le_of_ble_eq_true rfl⟩ h 2 0 rfl rfl (xpl31 cI cO a _ _) (fun F' G' => xpr31 cI cO a _ _ F' G') (st := []) rfl rfl (Nat.le_of_ble_eq_true rfl) dX6_move_38 rfl (fun r38 F38 G38 h => ?_)
          obtain ⟨E38, eE38⟩ : ∃ x : xF, x = (xspl F 42 2 F38) := ⟨_, rfl⟩
          obtain ⟨H38, eH38⟩ : ∃ x : xA, x = (xspl G 66 1 G38) := ⟨_, rfl⟩
          refine x_weq (w' := w6 cI cO a E38 H38) (by subst eE38; subst eH38; rfl) ?_
          replace h := h E38 eE38
          replace h := h H38 eH38
          refine x_if_ne (tgt := 52) (pc' := 44) K dX6_move_41 rfl rfl (fun c41 => ?_) (fun c41 => ?_)
          · replace h := h.1 c41
            refine x_aload_n (pc' := 53) K dX6_move_52 0 rfl rfl ?_
            refine x_iconst (pc' := 54) (v := 2) K dX6_move_53 (by decide) rfl ?_
            refine x_callI (pc' := 57) K (mX6_error l D cI cO a _) rfl gX6_move_X6_error rfl dsX6_error ⟨rfl, rfl, ⟨Nat.le_of_ble_eq_true rfl, Nat.le_of_ble_eq_true rfl⟩, Nat.le_of_ble_eq_true rfl, Nat.le_of_ble_eq_true rfl⟩ h 6 0 rfl rfl (st := []) rfl rfl (Nat.le_of_ble_eq_true rfl) dX6_move_54 rfl (fun r54 F54 G54 h => ?_)
            exact x_iret (wf := w6 cI cO a) K h dX6_move_57
          · replace h := h.2 c41
            refine x_aload (pc' := 46) K dX6_move_44 7 rfl rfl ?_
            refine x_subI (pc' := 49) (wn := fun F' G' => w6 cI cO a (xspl E38 46 2 F') (xspl H38 68 1 G')) K (mX2_isMissing l D cI cO (xsub a 101)) rfl gX6_move_X2_isMissing rfl dsX2_isMissing ⟨rfl, rfl, ⟨Nat.le_of_ble_eq_true rfl, Nat.le_of_ble_eq_true rfl⟩, Nat.le_of_ble_eq_true rfl, Nat.le_of_ble_eq_true rfl⟩ h 2 0 rfl rfl (xpl33 cI cO a _ _) (fun F' G' => xpr33 cI cO a _ _ F' G') (st := []) rfl rfl (Nat.le_of_ble_eq_true rfl) dX6_move_46 rfl (fun r46 F46 G46 h => ?_)
            obtain ⟨E46, eE46⟩ : ∃ x : xF, x = (xspl E38 46 2 F46) := ⟨_, rfl⟩
            obtain ⟨H46, eH46⟩ : ∃ x : xA, x = (xspl H38 68 1 G46) := ⟨_, rfl⟩
            refine x_weq (w' := w6 cI cO a E46 H46) (by subst eE46; subst eH46; rfl) ?_
            replace h := h E46 eE46
            replace h := h H46 eH46
            refine x_if_eq (tgt := 58) (pc' := 52) K dX6_move_49 rfl rfl (fun c49 => ?_) (fun c49 => ?_)
            · replace h := h.1 c49
              refine x_aload (pc' := 60) K dX6_move_58 6 rfl rfl ?_
              refine xw6_97g_bits (pc' := 63) K hinX6_move_X2 uX6_move_f237 dX6_move_60 rfl ?_
              refine x_aload (pc' := 65) K dX6_move_63 7 rfl rfl ?_
              refine xw6_101g_bits (pc' := 68) K hinX6_move_X2 uX6_move_f237 dX6_move_65 rfl ?_
              refine x_icmp_eq (tgt := 77) (pc' := 71) K dX6_move_68 rfl rfl (fun c68 => ?_) (fun c68 => ?_)
              · replace h := h.1 c68
                refine x_aload (pc' := 79) K dX6_move_77 6 rfl rfl ?_
                refine x_iload_n (pc' := 80) K dX6_move_79 2 rfl rfl ?_
                refine x_iload (pc' := 82) K dX6_move_80 5 rfl rfl ?_
                refine x_subI (pc' := 85) (wn := fun F' G' => w6 cI cO a (xspl E46 42 2 F') (xspl H46 66 1 G')) K (mX2_holdsPart l D cI cO (xsub a 97) _ _) rfl gX6_move_X2_holdsPart rfl dsX2_holdsPart ⟨rfl, rfl, ⟨Nat.le_of_ble_eq_true rfl, Nat.le_of_ble_eq_true rfl⟩, Nat.le_of_ble_eq_true rfl, Nat.le_of_ble_eq_true rfl⟩ h 2 0 rfl rfl (xpl31 cI cO a _ _) (fun F' G' => xpr31 cI cO a _ _ F' G') (st := []) rfl rfl (Nat.le_of_ble_eq_true rfl) dX6_move_82 rfl (fun r82 F82 G82 h => ?_)
                obtain ⟨E82, eE82⟩ : ∃ x : xF, x = (xspl E46 42 2 F82) := ⟨_, rfl⟩
                obtain ⟨H82, eH82⟩ : ∃ x : xA, x = (xspl H46 66 1 G82) := ⟨_, rfl⟩
                refine x_weq (w' := w6 cI cO a E82 H82) (by subst eE82; subst eH82; rfl) ?_
                replace h := h E82 eE82
                replace h := h H82 eH82
                refine x_if_eq (tgt := 100) (pc' := 88) K dX6_move_85 rfl rfl (fun c85 => ?_) (fun c85 => ?_)
                · replace h := h.1 c85
                  refine x_aload_n (pc' := 101) K dX6_move_100 0 rfl rfl ?_
                  refine x_iconst (pc' := 102) (v := 1) K dX6_move_101 (by decide) rfl ?_
                  refine x_callI (pc' := 105) K (mX6_error l D cI cO a _) rfl gX6_move_X6_error rfl dsX6_error ⟨rfl, rfl, ⟨Nat.le_of_ble_eq_true rfl, Nat.le_of_ble_eq_true rfl⟩, Nat.le_of_ble_eq_true rfl, Nat.le_of_ble_eq_true rfl⟩ h 6 0 rfl rfl (st := []) rfl rfl (Nat.le_of_ble_eq_true rfl) dX6_move_102 rfl (fun r102 F102 G102 h => ?_)
                  exact x_iret (wf := w6 cI cO a) K h dX6_move_105
                · replace h := h.2 c85
                  refine x_aload (pc' := 90) K dX6_move_88 7 rfl rfl ?_
                  refine x_iload (pc' := 92) K dX6_move_90 4 rfl rfl ?_
                  refine x_iload (pc' := 94) K dX6_move_92 5 rfl rfl ?_
                  refine x_subI (pc' := 97) (wn := fun F' G' => w6 cI cO a (xspl E82 46 2 F') (xspl H82 68 1 G')) K (mX2_holdsPart l D cI cO (xsub a 101) _ _) rfl gX6_move_X2_holdsPart rfl dsX2_holdsPart ⟨rfl, rfl, ⟨Nat.le_of_ble_eq_true rfl, Nat.le_of_ble_eq_true rfl⟩, Nat.le_of_ble_eq_true rfl, Nat.le_of_ble_eq_true rfl⟩ h 2 0 rfl rfl (xpl33 cI cO a _ _) (fun F' G' => xpr33 cI cO a _ _ F' G') (st := []) rfl rfl (Nat.le_of_ble_eq_true rfl) dX6_move_94 rfl (fun r94 F94 G94 h => ?_)
                  obtain ⟨E94, eE94⟩ : ∃ x : xF, x = (xspl E82 46 2 F94) := ⟨_, rfl⟩
                  obtain ⟨H94, eH94⟩ : ∃ x : xA, x = (xspl H82 68 1 G94) := ⟨_, rfl⟩
                  refine x_weq (w' := w6 cI cO a E94 H94) (by subst eE94; subst eH94; rfl) ?_
                  replace h := h E94 eE94
                  replace h := h H94 eH94
                  refine x_if_ne (tgt := 106) (pc' := 100) K dX6_move_97 rfl rfl (fun c97 => ?_) (fun c97 => ?_)
                  · replace h := h.1 c97
                    refine x_aload (pc' := 108) K dX6_move_106 6 rfl rfl ?_
                    refine xw6_97g_numbers (pc' := 111) K hinX6_move_X2 uX6_move_f243 dX6_move_108 rfl ?_
                    refine x_iload_n (pc' := 112) K dX6_move_111 2 rfl rfl ?_
                    refine x_aload (pc' := 114) K dX6_move_112 7 rfl rfl ?_
                    refine xw6_101g_numbers (pc' := 117) K hinX6_move_X2 uX6_move_f243 dX6_move_114 rfl ?_
                    refine x_iload (pc' := 119) K dX6_move_117 4 rfl rfl ?_
                    refine x_iload (pc' := 121) K dX6_move_119 5 rfl rfl ?_
                    obtain ⟨z121s, h⟩ := h
                    obtain ⟨z121d, h⟩ := h
                    obtain ⟨z121n, h⟩ := h
                    obtain ⟨z121p, h⟩ := h
                    obtain ⟨z121q, h⟩ := h
                    refine x_copy (pc' := 124) (w' := w6 cI cO a E94 (va_up H94 68 (va_cpy (H94 66) (H94 68) x2.toNatClampNeg x4.toNatClampNeg x5.toNatClampNeg))) K uX6_move_m246 uX6_move_cn uX6_move_cs uX6_move_ci 98 102 (f := H94 66) (g := H94 68) (n0 := 24) (n1 := 24) (cA := cI) rfl rfl rfl z121s z121d z121n z121p z121q rfl (by decide +kernel) (by decide +kernel) dX6_move_121 rfl ?_
                    obtain ⟨G121, eG121⟩ : ∃ x : xA, x = va_up H94 68 (va_cpy (H94 66) (H94 68) x2.toNatClampNeg x4.toNatClampNeg x5.toNatClampNeg) := ⟨_, rfl⟩
                    refine x_weq (w' := w6 cI cO a E94 G121) (by subst eG121; rfl) ?_
                    replace h := h G121 eG121
                    refine x_iload (pc' := 126) K dX6_move_124 5 rfl rfl ?_
                    exact x_iret (wf := w6 cI cO a) K h dX6_move_126
                  · replace h := h.2 c97
                    refine x_aload_n (pc' := 101) K dX6_move_100 0 rfl rfl ?_
                    refine x_iconst (pc' := 102) (v := 1) K dX6_move_101 (by decide) rfl ?_
                    refine x_callI (pc' := 105) K (mX6_error l D cI cO a _) rfl gX6_move_X6_error rfl dsX6_error ⟨rfl, rfl, ⟨Nat.le_of_ble_eq_true rfl, Nat.le_of_ble_eq_true rfl⟩, Nat.le_of_ble_eq_true rfl, Nat.le_of_ble_eq_true rfl⟩ h 6 0 rfl rfl (st := []) rfl rfl (Nat.le_of_ble_eq_true rfl) dX6_move_102 rfl (fun r102 F102 G102 h => ?_)
                    exact x_iret (wf := w6 cI cO a) K h dX6_move_105
              · replace h := h.2 c68
                refine x_aload_n (pc' := 72) K dX6_move_71 0 rfl rfl ?_
                refine x_iconst (pc' := 73) (v := 5) K dX6_move_72 (by decide) rfl ?_
                refine x_callI (pc' := 76) K (mX6_error l D cI cO a _) rfl gX6_move_X6_error rfl dsX6_error ⟨rfl, rfl, ⟨Nat.le_of_ble_eq_true rfl, Nat.le_of_ble_eq_true rfl⟩, Nat.le_of_ble_eq_true rfl, Nat.le_of_ble_eq_true rfl⟩ h 6 0 rfl rfl (st := []) rfl rfl (Nat.le_of_ble_eq_true rfl) dX6_move_73 rfl (fun r73 F73 G73 h => ?_)
                exact x_iret (wf := w6 cI cO a) K h dX6_move_76
            · replace h := h.2 c49
              refine x_aload_n (pc' := 53) K dX6_move_52 0 rfl rfl ?_
              refine x_iconst (pc' := 54) (v := 2) K dX6_move_53 (by decide) rfl ?_
              refine x_callI (pc' := 57) K (mX6_error l D cI cO a _) rfl gX6_move_X6_error rfl dsX6_error ⟨rfl, rfl, ⟨Nat.le_of_ble_eq_true rfl, Nat.le_of_ble_eq_true rfl⟩, Nat.le_of_ble_eq_true rfl, Nat.le_of_ble_eq_true rfl⟩ h 6 0 rfl rfl (st := []) rfl rfl (Nat.le_of_ble_eq_true rfl) dX6_move_54 rfl (fun r54 F54 G54 h => ?_)
              exact x_iret (wf := w6 cI cO a) K h dX6_move_57
        · replace h := h.2.2.2 e33
          refine xw6_96q3 (pc' := 34) K i33 e33 dX6_move_33 rfl ?_
          refine x_astore (pc' := 36) (i := 7) K dX6_move_34 (by decide) [1, 2, 3, 4, 5, 6, 7, 0] (L' := [(0, .ref (a 0)), (1, .int _), (2, .int _), (3, .int _), (4, .int _), (5, .int _), (6, .ref (a 97)), (7, .ref (a 103))]) rfl rfl ?_
          refine x_aload (pc' := 38) K dX6_move_36 6 rfl rfl ?_
          refine x_subI (pc' := 41) (wn := fun F' G' => w6 cI cO a (xspl F 42 2 F') (xspl G 66 1 G')) K (mX2_isMissing l D cI cO (xsub a 97)) rfl gX6_move_X2_isMissing rfl dsX2_isMissing ⟨rfl, rfl, ⟨Nat.le_of_ble_eq_true rfl, Nat.le_of_ble_eq_true rfl⟩, Nat.le_of_ble_eq_true rfl, Nat.le_of_ble_eq_true rfl⟩ h 2 0 rfl rfl (xpl31 cI cO a _ _) (fun F' G' => xpr31 cI cO a _ _ F' G') (st := []) rfl rfl (Nat.le_of_ble_eq_true rfl) dX6_move_38 rfl (fun r38 F38 G38 h => ?_)
          obtain ⟨E38, eE38⟩ : ∃ x : xF, x = (xspl F 42 2 F38) := ⟨_, rfl⟩
          obtain ⟨H38, eH38⟩ : ∃ x : xA, x = (xspl G 66 1 G38) := ⟨_, rfl⟩
          refine x_weq (w' := w6 cI cO a E38 H38) (by subst eE38; subst eH38; rfl) ?_
          replace h := h E38 eE38
          replace h := h H38 eH38
          refine x_if_ne (tgt := 52) (pc' := 44) K dX6_move_41 rfl rfl (fun c41 => ?_) (fun c41 => ?_)
          · replace h := h.1 c41
            refine x_aload_n (pc' := 53) K dX6_move_52 0 rfl rfl ?_
            refine x_iconst (pc' := 54) (v := 2) K dX6_move_53 (by decide) rfl ?_
            refine x_callI (pc' := 57) K (mX6_error l D cI cO a _) rfl gX6_move_X6_error rfl dsX6_error ⟨rfl, rfl, ⟨Nat.le_of_ble_eq_true rfl, Nat.le_of_ble_eq_true rfl⟩, Nat.le_of_ble_eq_true rfl, Nat.le_of_ble_eq_true rfl⟩ h 6 0 rfl rfl (st := []) rfl rfl (Nat.le_of_ble_eq_true rfl) dX6_move_54 rfl (fun r54 F54 G54 h => ?_)
            exact x_iret (wf := w6 cI cO a) K h dX6_move_57
          · replace h := h.2 c41
            refine x_aload (pc' := 46) K dX6_move_44 7 rfl rfl ?_
            refine x_subI (pc' := 49) (wn := fun F' G' => w6 cI cO a (xspl E38 48 2 F') (xspl H38 69 1 G')) K (mX2_isMissing l D cI cO (xsub a 103)) rfl gX6_move_X2_isMissing rfl dsX2_isMissing ⟨rfl, rfl, ⟨Nat.le_of_ble_eq_true rfl, Nat.le_of_ble_eq_true rfl⟩, Nat.le_of_ble_eq_true rfl, Nat.le_of_ble_eq_true rfl⟩ h 2 0 rfl rfl (xpl34 cI cO a _ _) (fun F' G' => xpr34 cI cO a _ _ F' G') (st := []) rfl rfl (Nat.le_of_ble_eq_true rfl) dX6_move_46 rfl (fun r46 F46 G46 h => ?_)
            obtain ⟨E46, eE46⟩ : ∃ x : xF, x = (xspl E38 48 2 F46) := ⟨_, rfl⟩
            obtain ⟨H46, eH46⟩ : ∃ x : xA, x = (xspl H38 69 1 G46) := ⟨_, rfl⟩
            refine x_weq (w' := w6 cI cO a E46 H46) (by subst eE46; subst eH46; rfl) ?_
            replace h := h E46 eE46
            replace h := h H46 eH46
            refine x_if_eq (tgt := 58) (pc' := 52) K dX6_move_49 rfl rfl (fun c49 => ?_) (fun c49 => ?_)
            · replace h := h.1 c49
              refine x_aload (pc' := 60) K dX6_move_58 6 rfl rfl ?_
              refine xw6_97g_bits (pc' := 63) K hinX6_move_X2 uX6_move_f237 dX6_move_60 rfl ?_
              refine x_aload (pc' := 65) K dX6_move_63 7 rfl rfl ?_
              refine xw6_103g_bits (pc' := 68) K hinX6_move_X2 uX6_move_f237 dX6_move_65 rfl ?_
              refine x_icmp_eq (tgt := 77) (pc' := 71) K dX6_move_68 rfl rfl (fun c68 => ?_) (fun c68 => ?_)
              · replace h := h.1 c68
                refine x_aload (pc' := 79) K dX6_move_77 6 rfl rfl ?_
                refine x_iload_n (pc' := 80) K dX6_move_79 2 rfl rfl ?_
                refine x_iload (pc' := 82) K dX6_move_80 5 rfl rfl ?_
                refine x_subI (pc' := 85) (wn := fun F' G' => w6 cI cO a (xspl E46 42 2 F') (xspl H46 66 1 G')) K (mX2_holdsPart l D cI cO (xsub a 97) _ _) rfl gX6_move_X2_holdsPart rfl dsX2_holdsPart ⟨rfl, rfl, ⟨Nat.le_of_ble_eq_true rfl, Nat.le_of_ble_eq_true rfl⟩, Nat.le_of_ble_eq_true rfl, Nat.le_of_ble_eq_true rfl⟩ h 2 0 rfl rfl (xpl31 cI cO a _ _) (fun F' G' => xpr31 cI cO a _ _ F' G') (st := []) rfl rfl (Nat.le_of_ble_eq_true rfl) dX6_move_82 rfl (fun r82 F82 G82 h => ?_)
                obtain ⟨E82, eE82⟩ : ∃ x : xF, x = (xspl E46 42 2 F82) := ⟨_, rfl⟩
                obtain ⟨H82, eH82⟩ : ∃ x : xA, x = (xspl H46 66 1 G82) := ⟨_, rfl⟩
                refine x_weq (w' := w6 cI cO a E82 H82) (by subst eE82; subst eH82; rfl) ?_
                replace h := h E82 eE82
                replace h := h H82 eH82
                refine x_if_eq (tgt := 100) (pc' := 88) K dX6_move_85 rfl rfl (fun c85 => ?_) (fun c85 => ?_)
                · replace h := h.1 c85
                  refine x_aload_n (pc' := 101) K dX6_move_100 0 rfl rfl ?_
                  refine x_iconst (pc' := 102) (v := 1) K dX6_move_101 (by decide) rfl ?_
                  refine x_callI (pc' := 105) K (mX6_error l D cI cO a _) rfl gX6_move_X6_error rfl dsX6_error ⟨rfl, rfl, ⟨Nat.le_of_ble_eq_true rfl, Nat.le_of_ble_eq_true rfl⟩, Nat.le_of_ble_eq_true rfl, Nat.le_of_ble_eq_true rfl⟩ h 6 0 rfl rfl (st := []) rfl rfl (Nat.le_of_ble_eq_true rfl) dX6_move_102 rfl (fun r102 F102 G102 h => ?_)
                  exact x_iret (wf := w6 cI cO a) K h dX6_move_105
                · replace h := h.2 c85
                  refine x_aload (pc' := 90) K dX6_move_88 7 rfl rfl ?_
                  refine x_iload (pc' := 92) K dX6_move_90 4 rfl rfl ?_
                  refine x_iload (pc' := 94) K dX6_move_92 5 rfl rfl ?_
                  refine x_subI (pc' := 97) (wn := fun F' G' => w6 cI cO a (xspl E82 48 2 F') (xspl H82 69 1 G')) K (mX2_holdsPart l D cI cO (xsub a 103) _ _) rfl gX6_move_X2_holdsPart rfl dsX2_holdsPart ⟨rfl, rfl, ⟨Nat.le_of_ble_eq_true rfl, Nat.le_of_ble_eq_true rfl⟩, Nat.le_of_ble_eq_true rfl, Nat.le_of_ble_eq_true rfl⟩ h 2 0 rfl rfl (xpl34 cI cO a _ _) (fun F' G' => xpr34 cI cO a _ _ F' G') (st := []) rfl rfl (Nat.le_of_ble_eq_true rfl) dX6_move_94 rfl (fun r94 F94 G94 h => ?_)
                  obtain ⟨E94, eE94⟩ : ∃ x : xF, x = (xspl E82 48 2 F94) := ⟨_, rfl⟩
                  obtain ⟨H94, eH94⟩ : ∃ x : xA, x = (xspl H82 69 1 G94) := ⟨_, rfl⟩
                  refine x_weq (w' := w6 cI cO a E94 H94) (by subst eE94; subst eH94; rfl) ?_
                  replace h := h E94 eE94
                  replace h := h H94 eH94
                  refine x_if_ne (tgt := 106) (pc' := 100) K dX6_move_97 rfl rfl (fun c97 => ?_) (fun c97 => ?_)
                  · replace h := h.1 c97
                    refine x_aload (pc' := 108) K dX6_move_106 6 rfl rfl ?_
                    refine xw6_97g_numbers (pc' := 111) K hinX6_move_X2 uX6_move_f243 dX6_move_108 rfl ?_
                    refine x_iload_n (pc' := 112) K dX6_move_111 2 rfl rfl ?_
                    refine x_aload (pc' := 114) K dX6_move_112 7 rfl rfl ?_
                    refine xw6_103g_numbers (pc' := 117) K hinX6_move_X2 uX6_move_f243 dX6_move_114 rfl ?_
                    refine x_iload (pc' := 119) K dX6_move_117 4 rfl rfl ?_
                    refine x_iload (pc' := 121) K dX6_move_119 5 rfl rfl ?_
                    obtain ⟨z121s, h⟩ := h
                    obtain ⟨z121d, h⟩ := h
                    obtain ⟨z121n, h⟩ := h
                    obtain ⟨z121p, h⟩ := h
                    obtain ⟨z121q, h⟩ := h
                    refine x_copy (pc' := 124) (w' := w6 cI cO a E94 (va_up H94 69 (va_cpy (H94 66) (H94 69) x2.toNatClampNeg x4.toNatClampNeg x5.toNatClampNeg))) K uX6_move_m246 uX6_move_cn uX6_move_cs uX6_move_ci 98 104 (f := H94 66) (g := H94 69) (n0 := 24) (n1 := 24) (cA := cI) rfl rfl rfl z121s z121d z121n z121p z121q rfl (by decide +kernel) (by decide +kernel) dX6_move_121 rfl ?_
                    obtain ⟨G121, eG121⟩ : ∃ x : xA, x = va_up H94 69 (va_cpy (H94 66) (H94 69) x2.toNatClampNeg x4.toNatClampNeg x5.toNatClampNeg) := ⟨_, rfl⟩
                    refine x_weq (w' := w6 cI cO a E94 G121) (by subst eG121; rfl) ?_
                    replace h := h G121 eG121
                    refine x_iload (pc' := 126) K dX6_move_124 5 rfl rfl ?_
                    exact x_iret (wf := w6 cI cO a) K h dX6_move_126
                  · replace h := h.2 c97
                    refine x_aload_n (pc' := 101) K dX6_move_100 0 rfl rfl ?_
                    refine x_iconst (pc' := 102) (v := 1) K dX6_move_101 (by decide) rfl ?_
                    refine x_callI (pc' := 105) K (mX6_error l D cI cO a _) rfl gX6_move_X6_error rfl dsX6_error ⟨rfl, rfl, ⟨Nat.le_of_ble_eq_true rfl, Nat.le_of_ble_eq_true rfl⟩, Nat.le_of_ble_eq_true rfl, Nat.le_of_ble_eq_true rfl⟩ h 6 0 rfl rfl (st := []) rfl rfl (Nat.le_of_ble_eq_true rfl) dX6_move_102 rfl (fun r102 F102 G102 h => ?_)
                    exact x_iret (wf := w6 cI cO a) K h dX6_move_105
              · replace h := h.2 c68
                refine x_aload_n (pc' := 72) K dX6_move_71 0 rfl rfl ?_
                refine x_iconst (pc' := 73) (v := 5) K dX6_move_72 (by decide) rfl ?_
                refine x_callI (pc' := 76) K (mX6_error l D cI cO a _) rfl gX6_move_X6_error rfl dsX6_error ⟨rfl, rfl, ⟨Nat.le_of_ble_eq_true rfl, Nat.le_of_ble_eq_true rfl⟩, Nat.le_of_ble_eq_true rfl, Nat.le_of_ble_eq_true rfl⟩ h 6 0 rfl rfl (st := []) rfl rfl (Nat.le_of_ble_eq_true rfl) dX6_move_73 rfl (fun r73 F73 G73 h => ?_)
                exact x_iret (wf := w6 cI cO a) K h dX6_move_76
            · replace h := h.2 c49
              refine x_aload_n (pc' := 53) K dX6_move_52 0 rfl rfl ?_
              refine x_iconst (pc' := 54) (v := 2) K dX6_move_53 (by decide) rfl ?_
              refine x_callI (pc' := 57) K (mX6_error l D cI cO a _) rfl gX6_move_X6_error rfl dsX6_error ⟨rfl, rfl, ⟨Nat.le_of_ble_eq_true rfl, Nat.le_of_ble_eq_true rfl⟩, Nat.le_of_ble_eq_true rfl, Nat.le_of_ble_eq_true rfl⟩ h 6 0 rfl rfl (st := []) rfl rfl (Nat.le_of_ble_eq_true rfl) dX6_move_54 rfl (fun r54 F54 G54 h => ?_)
              exact x_iret (wf := w6 cI cO a) K h dX6_move_57
      · replace h := h.2.1 e25
        refine xw6_96q1 (pc' := 26) K i25 e25 dX6_move_25 rfl ?_
        refine x_astore (pc' := 28) (i := 6) K dX6_move_26 (by decide) [1, 2, 3, 4, 5, 6, 0] (L' := [(0, .ref (a 0)), (1, .int _), (2, .int _), (3, .int _), (4, .int _), (5, .int _), (6, .ref (a 99))]) rfl rfl ?_
        refine x_aload_n (pc' := 29) K dX6_move_28 0 rfl rfl ?_
        refine xw6_0g_sheets (pc' := 32) K hinX6_move_X6 uX6_move_f70 dX6_move_29 rfl ?_
        refine x_iload_n (pc' := 33) K dX6_move_32 3 rfl rfl ?_
        obtain ⟨i33, h⟩ := h
        rcases xin4 i33 with e33 | e33 | e33 | e33
        · replace h := h.1 e33
          refine xw6_96q0 (pc' := 34) K i33 e33 dX6_move_33 rfl ?_
          refine x_astore (pc' := 36) (i := 7) K dX6_move_34 (by decide) [1, 2, 3, 4, 5, 6, 7, 0] (L' := [(0, .ref (a 0)), (1, .int _), (2, .int _), (3, .int _), (4, .int _), (5, .int _), (6, .ref (a 99)), (7, .ref (a 97))]) rfl rfl ?_
          refine x_aload (pc' := 38) K dX6_move_36 6 rfl rfl ?_
          refine x_subI (pc' := 41) (wn := fun F' G' => w6 cI cO a (xspl F 44 2 F') (xspl G 67 1 G')) K (mX2_isMissing l D cI cO (xsub a 99)) rfl gX6_move_X2_isMissing rfl dsX2_isMissing ⟨rfl, rfl, ⟨Nat.le_of_ble_eq_true rfl, Nat.le_of_ble_eq_true rfl⟩, Nat.le_of_ble_eq_true rfl, Nat.le_of_ble_eq_true rfl⟩ h 2 0 rfl rfl (xpl32 cI cO a _ _) (fun F' G' => xpr32 cI cO a _ _ F' G') (st := []) rfl rfl (Nat.le_of_ble_eq_true rfl) dX6_move_38 rfl (fun r38 F38 G38 h => ?_)
          obtain ⟨E38, eE38⟩ : ∃ x : xF, x = (xspl F 44 2 F38) := ⟨_, rfl⟩
          obtain ⟨H38, eH38⟩ : ∃ x : xA, x = (xspl G 67 1 G38) := ⟨_, rfl⟩
          refine x_weq (w' := w6 cI cO a E38 H38) (by subst eE38; subst eH38; rfl) ?_
          replace h := h E38 eE38
          replace h := h H38 eH38
          refine x_if_ne (tgt := 52) (pc' := 44) K dX6_move_41 rfl rfl (fun c41 => ?_) (fun c41 => ?_)
          · replace h := h.1 c41
            refine x_aload_n (pc' := 53) K dX6_move_52 0 rfl rfl ?_
            refine x_iconst (pc' := 54) (v := 2) K dX6_move_53 (by decide) rfl ?_
            refine x_callI (pc' := 57) K (mX6_error l D cI cO a _) rfl gX6_move_X6_error rfl dsX6_error ⟨rfl, rfl, ⟨Nat.le_of_ble_eq_true rfl, Nat.le_of_ble_eq_true rfl⟩, Nat.le_of_ble_eq_true rfl, Nat.le_of_ble_eq_true rfl⟩ h 6 0 rfl rfl (st := []) rfl rfl (Nat.le_of_ble_eq_true rfl) dX6_move_54 rfl (fun r54 F54 G54 h => ?_)
            exact x_iret (wf := w6 cI cO a) K h dX6_move_57
          · replace h := h.2 c41
            refine x_aload (pc' := 46) K dX6_move_44 7 rfl rfl ?_
            refine x_subI (pc' := 49) (wn := fun F' G' => w6 cI cO a (xspl E38 42 2 F') (xspl H38 66 1 G')) K (mX2_isMissing l D cI cO (xsub a 97)) rfl gX6_move_X2_isMissing rfl dsX2_isMissing ⟨rfl, rfl, ⟨Nat.le_of_ble_eq_true rfl, Nat.le_of_ble_eq_true rfl⟩, Nat.le_of_ble_eq_true rfl, Nat.le_of_ble_eq_true rfl⟩ h 2 0 rfl rfl (xpl31 cI cO a _ _) (fun F' G' => xpr31 cI cO a _ _ F' G') (st := []) rfl rfl (Nat.le_of_ble_eq_true rfl) dX6_move_46 rfl (fun r46 F46 G46 h => ?_)
            obtain ⟨E46, eE46⟩ : ∃ x : xF, x = (xspl E38 42 2 F46) := ⟨_, rfl⟩
            obtain ⟨H46, eH46⟩ : ∃ x : xA, x = (xspl H38 66 1 G46) := ⟨_, rfl⟩
            refine x_weq (w' := w6 cI cO a E46 H46) (by subst eE46; subst eH46; rfl) ?_
            replace h := h E46 eE46
            replace h := h H46 eH46
            refine x_if_eq (tgt := 58) (pc' := 52) K dX6_move_49 rfl rfl (fun c49 => ?_) (fun c49 => ?_)
            · replace h := h.1 c49
              refine x_aload (pc' := 60) K dX6_move_58 6 rfl rfl ?_
              refine xw6_99g_bits (pc' := 63) K hinX6_move_X2 uX6_move_f237 dX6_move_60 rfl ?_
              refine x_aload (pc' := 65) K dX6_move_63 7 rfl rfl ?_
              refine xw6_97g_bits (pc' := 68) K hinX6_move_X2 uX6_move_f237 dX6_move_65 rfl ?_
              refine x_icmp_eq (tgt := 77) (pc' := 71) K dX6_move_68 rfl rfl (fun c68 => ?_) (fun c68 => ?_)
              · replace h := h.1 c68
                refine x_aload (pc' := 79) K dX6_move_77 6 rfl rfl ?_
                refine x_iload_n (pc' := 80) K dX6_move_79 2 rfl rfl ?_
                refine x_iload (pc' := 82) K dX6_move_80 5 rfl rfl ?_
                refine x_subI (pc' := 85) (wn := fun F' G' => w6 cI cO a (xspl E46 44 2 F') (xspl H46 67 1 G')) K (mX2_holdsPart l D cI cO (xsub a 99) _ _) rfl gX6_move_X2_holdsPart rfl dsX2_holdsPart ⟨rfl, rfl, ⟨Nat.le_of_ble_eq_true rfl, Nat.le_of_ble_eq_true rfl⟩, Nat.le_of_ble_eq_true rfl, Nat.le_of_ble_eq_true rfl⟩ h 2 0 rfl rfl (xpl32 cI cO a _ _) (fun F' G' => xpr32 cI cO a _ _ F' G') (st := []) rfl rfl (Nat.le_of_ble_eq_true rfl) dX6_move_82 rfl (fun r82 F82 G82 h => ?_)
                obtain ⟨E82, eE82⟩ : ∃ x : xF, x = (xspl E46 44 2 F82) := ⟨_, rfl⟩
                obtain ⟨H82, eH82⟩ : ∃ x : xA, x = (xspl H46 67 1 G82) := ⟨_, rfl⟩
                refine x_weq (w' := w6 cI cO a E82 H82) (by subst eE82; subst eH82; rfl) ?_
                replace h := h E82 eE82
                replace h := h H82 eH82
                refine x_if_eq (tgt := 100) (pc' := 88) K dX6_move_85 rfl rfl (fun c85 => ?_) (fun c85 => ?_)
                · replace h := h.1 c85
                  refine x_aload_n (pc' := 101) K dX6_move_100 0 rfl rfl ?_
                  refine x_iconst (pc' := 102) (v := 1) K dX6_move_101 (by decide) rfl ?_
                  refine x_callI (pc' := 105) K (mX6_error l D cI cO a _) rfl gX6_move_X6_error rfl dsX6_error ⟨rfl, rfl, ⟨Nat.le_of_ble_eq_true rfl, Nat.le_of_ble_eq_true rfl⟩, Nat.le_of_ble_eq_true rfl, Nat.le_of_ble_eq_true rfl⟩ h 6 0 rfl rfl (st := []) rfl rfl (Nat.le_of_ble_eq_true rfl) dX6_move_102 rfl (fun r102 F102 G102 h => ?_)
                  exact x_iret (wf := w6 cI cO a) K h dX6_move_105
                · replace h := h.2 c85
                  refine x_aload (pc' := 90) K dX6_move_88 7 rfl rfl ?_
                  refine x_iload (pc' := 92) K dX6_move_90 4 rfl rfl ?_
                  refine x_iload (pc' := 94) K dX6_move_92 5 rfl rfl ?_
                  refine x_subI (pc' := 97) (wn := fun F' G' => w6 cI cO a (xspl E82 42 2 F') (xspl H82 66 1 G')) K (mX2_holdsPart l D cI cO (xsub a 97) _ _) rfl gX6_move_X2_holdsPart rfl dsX2_holdsPart ⟨rfl, rfl, ⟨Nat.le_of_ble_eq_true rfl, Nat.le_of_ble_eq_true rfl⟩, Nat.le_of_ble_eq_true rfl, Nat.le_of_ble_eq_true rfl⟩ h 2 0 rfl rfl (xpl31 cI cO a _ _) (fun F' G' => xpr31 cI cO a _ _ F' G') (st := []) rfl rfl (Nat.le_of_ble_eq_true rfl) dX6_move_94 rfl (fun r94 F94 G94 h => ?_)
                  obtain ⟨E94, eE94⟩ : ∃ x : xF, x = (xspl E82 42 2 F94) := ⟨_, rfl⟩
                  obtain ⟨H94, eH94⟩ : ∃ x : xA, x = (xspl H82 66 1 G94) := ⟨_, rfl⟩
                  refine x_weq (w' := w6 cI cO a E94 H94) (by subst eE94; subst eH94; rfl) ?_
                  replace h := h E94 eE94
                  replace h := h H94 eH94
                  refine x_if_ne (tgt := 106) (pc' := 100) K dX6_move_97 rfl rfl (fun c97 => ?_) (fun c97 => ?_)
                  · replace h := h.1 c97
                    refine x_aload (pc' := 108) K dX6_move_106 6 rfl rfl ?_
                    refine xw6_99g_numbers (pc' := 111) K hinX6_move_X2 uX6_move_f243 dX6_move_108 rfl ?_
                    refine x_iload_n (pc' := 112) K dX6_move_111 2 rfl rfl ?_
                    refine x_aload (pc' := 114) K dX6_move_112 7 rfl rfl ?_
                    refine xw6_97g_numbers (pc' := 117) K hinX6_move_X2 uX6_move_f243 dX6_move_114 rfl ?_
                    refine x_iload (pc' := 119) K dX6_move_117 4 rfl rfl ?_
                    refine x_iload (pc' := 121) K dX6_move_119 5 rfl rfl ?_
                    obtain ⟨z121s, h⟩ := h
                    obtain ⟨z121d, h⟩ := h
                    obtain ⟨z121n, h⟩ := h
                    obtain ⟨z121p, h⟩ := h
                    obtain ⟨z121q, h⟩ := h
                    refine x_copy (pc' := 124) (w' := w6 cI cO a E94 (va_up H94 66 (va_cpy (H94 67) (H94 66) x2.toNatClampNeg x4.toNatClampNeg x5.toNatClampNeg))) K uX6_move_m246 uX6_move_cn uX6_move_cs uX6_move_ci 100 98 (f := H94 67) (g := H94 66) (n0 := 24) (n1 := 24) (cA := cI) rfl rfl rfl z121s z121d z121n z121p z121q rfl (by decide +kernel) (by decide +kernel) dX6_move_121 rfl ?_
                    obtain ⟨G121, eG121⟩ : ∃ x : xA, x = va_up H94 66 (va_cpy (H94 67) (H94 66) x2.toNatClampNeg x4.toNatClampNeg x5.toNatClampNeg) := ⟨_, rfl⟩
                    refine x_weq (w' := w6 cI cO a E94 G121) (by subst eG121; rfl) ?_
                    replace h := h G121 eG121
                    refine x_iload (pc' := 126) K dX6_move_124 5 rfl rfl ?_
                    exact x_iret (wf := w6 cI cO a) K h dX6_move_126
                  · replace h := h.2 c97
                    refine x_aload_n (pc' := 101) K dX6_move_100 0 rfl rfl ?_
                    refine x_iconst (pc' := 102) (v := 1) K dX6_move_101 (by decide) rfl ?_
                    refine x_callI (pc' := 105) K (mX6_error l D cI cO a _) rfl gX6_move_X6_error rfl dsX6_error ⟨rfl, rfl, ⟨Nat.le_of_ble_eq_true rfl, Nat.le_of_ble_eq_true rfl⟩, Nat.le_of_ble_eq_true rfl, Nat.le_of_ble_eq_true rfl⟩ h 6 0 rfl rfl (st := []) rfl rfl (Nat.le_of_ble_eq_true rfl) dX6_move_102 rfl (fun r102 F102 G102 h => ?_)
                    exact x_iret (wf := w6 cI cO a) K h dX6_move_105
              · replace h := h.2 c68
                refine x_aload_n (pc' := 72) K dX6_move_71 0 rfl rfl ?_
                refine x_iconst (pc' := 73) (v := 5) K dX6_move_72 (by decide) rfl ?_
                refine x_callI (pc' := 76) K (mX6_error l D cI cO a _) rfl gX6_move_X6_error rfl dsX6_error ⟨rfl, rfl, ⟨Nat.le_of_ble_eq_true rfl, Nat.le_of_ble_eq_true rfl⟩, Nat.le_of_ble_eq_true rfl, Nat.le_of_ble_eq_true rfl⟩ h 6 0 rfl rfl (st := []) rfl rfl (Nat.le_of_ble_eq_true rfl) dX6_move_73 rfl (fun r73 F73 G73 h => ?_)
                exact x_iret (wf := w6 cI cO a) K h dX6_move_76
            · replace h := h.2 c49
              refine x_aload_n (pc' := 53) K dX6_move_52 0 rfl rfl ?_
              refine x_iconst (pc' := 54) (v := 2) K dX6_move_53 (by decide) rfl ?_
              refine x_callI (pc' := 57) K (mX6_error l D cI cO a _) rfl gX6_move_X6_error rfl dsX6_error ⟨rfl, rfl, ⟨Nat.le_of_ble_eq_true rfl, Nat.le_of_ble_eq_true rfl⟩, Nat.le_of_ble_eq_true rfl, Nat.le_of_ble_eq_true rfl⟩ h 6 0 rfl rfl (st := []) rfl rfl (Nat.le_of_ble_eq_true rfl) dX6_move_54 rfl (fun r54 F54 G54 h => ?_)
              exact x_iret (wf := w6 cI cO a) K h dX6_move_57
        · replace h := h.2.1 e33
          refine xw6_96q1 (pc' := 34) K i33 e33 dX6_move_33 rfl ?_
          refine x_astore (pc' := 36) (i := 7) K dX6_move_34 (by decide) [1, 2, 3, 4, 5, 6, 7, 0] (L' := [(0, .ref (a 0)), (1, .int _), (2, .int _), (3, .int _), (4, .int _), (5, .int _), (6, .ref (a 99)), (7, .ref (a 99))]) rfl rfl ?_
          refine x_aload (pc' := 38) K dX6_move_36 6 rfl rfl ?_
          refine x_subI (pc' := 41) (wn := fun F' G' => w6 cI cO a (xspl F 44 2 F') (xspl G 67 1 G')) K (mX2_isMissing l D cI cO (xsub a 99)) rfl gX6_move_X2_isMissing rfl dsX2_isMissing ⟨rfl, rfl, ⟨Nat.le_of_ble_eq_true rfl, Nat.le_of_ble_eq_true rfl⟩, Nat.le_of_ble_eq_true rfl, Nat.le_of_ble_eq_true rfl⟩ h 2 0 rfl rfl (xpl32 cI cO a _ _) (fun F' G' => xpr32 cI cO a _ _ F' G') (st := []) rfl rfl (Nat.le_of_ble_eq_true rfl) dX6_move_38 rfl (fun r38 F38 G38 h => ?_)
          obtain ⟨E38, eE38⟩ : ∃ x : xF, x = (xspl F 44 2 F38) := ⟨_, rfl⟩
          obtain ⟨H38, eH38⟩ : ∃ x : xA, x = (xspl G 67 1 G38) := ⟨_, rfl⟩
          refine x_weq (w' := w6 cI cO a E38 H38) (by subst eE38; subst eH38; rfl) ?_
          replace h := h E38 eE38
          replace h := h H38 eH38
          refine x_if_ne (tgt := 52) (pc' := 44) K dX6_move_41 rfl rfl (fun c41 => ?_) (fun c41 => ?_)
          · replace h := h.1 c41
            refine x_aload_n (pc' := 53) K dX6_move_52 0 rfl rfl ?_
            refine x_iconst (pc' := 54) (v := 2) K dX6_move_53 (by decide) rfl ?_
            refine x_callI (pc' := 57) K (mX6_error l D cI cO a _) rfl gX6_move_X6_error rfl dsX6_error ⟨rfl, rfl, ⟨Nat.le_of_ble_eq_true rfl, Nat.le_of_ble_eq_true rfl⟩, Nat.le_of_ble_eq_true rfl, Nat.le_of_ble_eq_true rfl⟩ h 6 0 rfl rfl (st := []) rfl rfl (Nat.le_of_ble_eq_true rfl) dX6_move_54 rfl (fun r54 F54 G54 h => ?_)
            exact x_iret (wf := w6 cI cO a) K h dX6_move_57
          · replace h := h.2 c41
            refine x_aload (pc' := 46) K dX6_move_44 7 rfl rfl ?_
            refine x_subI (pc' := 49) (wn := fun F' G' => w6 cI cO a (xspl E38 44 2 F') (xspl H38 67 1 G')) K (mX2_isMissing l D cI cO (xsub a 99)) rfl gX6_move_X2_isMissing rfl dsX2_isMissing ⟨rfl, rfl, ⟨Nat.le_of_ble_eq_true rfl, Nat.le_of_ble_eq_true rfl⟩, Nat.le_of_ble_eq_true rfl, Nat.le_of_ble_eq_true rfl⟩ h 2 0 rfl rfl (xpl32 cI cO a _ _) (fun F' G' => xpr32 cI cO a _ _ F' G') (st := []) rfl rfl (Nat.le_of_ble_eq_true rfl) dX6_move_46 rfl (fun r46 F46 G46 h => ?_)
            obtain ⟨E46, eE46⟩ : ∃ x : xF, x = (xspl E38 44 2 F46) := ⟨_, rfl⟩
            obtain ⟨H46, eH46⟩ : ∃ x : xA, x = (xspl H38 67 1 G46) := ⟨_, rfl⟩
            refine x_weq (w' := w6 cI cO a E46 H46) (by subst eE46; subst eH46; rfl) ?_
            replace h := h E46 eE46
            replace h := h H46 eH46
            refine x_if_eq (tgt := 58) (pc' := 52) K dX6_move_49 rfl rfl (fun c49 => ?_) (fun c49 => ?_)
            · replace h := h.1 c49
              refine x_aload (pc' := 60) K dX6_move_58 6 rfl rfl ?_
              refine xw6_99g_bits (pc' := 63) K hinX6_move_X2 uX6_move_f237 dX6_move_60 rfl ?_
              refine x_aload (pc' := 65) K dX6_move_63 7 rfl rfl ?_
              refine xw6_99g_bits (pc' := 68) K hinX6_move_X2 uX6_move_f237 dX6_move_65 rfl ?_
              refine x_icmp_eq (tgt := 77) (pc' := 71) K dX6_move_68 rfl rfl (fun c68 => ?_) (fun c68 => ?_)
              · replace h := h.1 c68
                refine x_aload (pc' := 79) K dX6_move_77 6 rfl rfl ?_
                refine x_iload_n (pc' := 80) K dX6_move_79 2 rfl rfl ?_
                refine x_iload (pc' := 82) K dX6_move_80 5 rfl rfl ?_
                refine x_subI (pc' := 85) (wn := fun F' G' => w6 cI cO a (xspl E46 44 2 F') (xspl H46 67 1 G')) K (mX2_holdsPart l D cI cO (xsub a 99) _ _) rfl gX6_move_X2_holdsPart rfl dsX2_holdsPart ⟨rfl, rfl, ⟨Nat.le_of_ble_eq_true rfl, Nat.le_of_ble_eq_true rfl⟩, Nat.le_of_ble_eq_true rfl, Nat.le_of_ble_eq_true rfl⟩ h 2 0 rfl rfl (xpl32 cI cO a _ _) (fun F' G' => xpr32 cI cO a _ _ F' G') (st := []) rfl rfl (Nat.le_of_ble_eq_true rfl) dX6_move_82 rfl (fun r82 F82 G82 h => ?_)
                obtain ⟨E82, eE82⟩ : ∃ x : xF, x = (xspl E46 44 2 F82) := ⟨_, rfl⟩
                obtain ⟨H82, eH82⟩ : ∃ x : xA, x = (xspl H46 67 1 G82) := ⟨_, rfl⟩
                refine x_weq (w' := w6 cI cO a E82 H82) (by subst eE82; subst eH82; rfl) ?_
                replace h := h E82 eE82
                replace h := h H82 eH82
                refine x_if_eq (tgt := 100) (pc' := 88) K dX6_move_85 rfl rfl (fun c85 => ?_) (fun c85 => ?_)
                · replace h := h.1 c85
                  refine x_aload_n (pc' := 101) K dX6_move_100 0 rfl rfl ?_
                  refine x_iconst (pc' := 102) (v := 1) K dX6_move_101 (by decide) rfl ?_
                  refine x_callI (pc' := 105) K (mX6_error l D cI cO a _) rfl gX6_move_X6_error rfl dsX6_error ⟨rfl, rfl, ⟨Nat.le_of_ble_eq_true rfl, Nat.le_of_ble_eq_true rfl⟩, Nat.le_of_ble_eq_true rfl, Nat.le_of_ble_eq_true rfl⟩ h 6 0 rfl rfl (st := []) rfl rfl (Nat.le_of_ble_eq_true rfl) dX6_move_102 rfl (fun r102 F102 G102 h => ?_)
                  exact x_iret (wf := w6 cI cO a) K h dX6_move_105
                · replace h := h.2 c85
                  refine x_aload (pc' := 90) K dX6_move_88 7 rfl rfl ?_
                  refine x_iload (pc' := 92) K dX6_move_90 4 rfl rfl ?_
                  refine x_iload (pc' := 94) K dX6_move_92 5 rfl rfl ?_
                  refine x_subI (pc' := 97) (wn := fun F' G' => w6 cI cO a (xspl E82 44 2 F') (xspl H82 67 1 G')) K (mX2_holdsPart l D cI cO (xsub a 99) _ _) rfl gX6_move_X2_holdsPart rfl dsX2_holdsPart ⟨rfl, rfl, ⟨Nat.le_of_ble_eq_true rfl, Nat.le_of_ble_eq_true rfl⟩, Nat.le_of_ble_eq_true rfl, Nat.le_of_ble_eq_true rfl⟩ h 2 0 rfl rfl (xpl32 cI cO a _ _) (fun F' G' => xpr32 cI cO a _ _ F' G') (st := []) rfl rfl (Nat.le_of_ble_eq_true rfl) dX6_move_94 rfl (fun r94 F94 G94 h => ?_)
                  obtain ⟨E94, eE94⟩ : ∃ x : xF, x = (xspl E82 44 2 F94) := ⟨_, rfl⟩
                  obtain ⟨H94, eH94⟩ : ∃ x : xA, x = (xspl H82 67 1 G94) := ⟨_, rfl⟩
                  refine x_weq (w' := w6 cI cO a E94 H94) (by subst eE94; subst eH94; rfl) ?_
                  replace h := h E94 eE94
                  replace h := h H94 eH94
                  refine x_if_ne (tgt := 106) (pc' := 100) K dX6_move_97 rfl rfl (fun c97 => ?_) (fun c97 => ?_)
                  · replace h := h.1 c97
                    refine x_aload (pc' := 108) K dX6_move_106 6 rfl rfl ?_
                    refine xw6_99g_numbers (pc' := 111) K hinX6_move_X2 uX6_move_f243 dX6_move_108 rfl ?_
                    refine x_iload_n (pc' := 112) K dX6_move_111 2 rfl rfl ?_
                    refine x_aload (pc' := 114) K dX6_move_112 7 rfl rfl ?_
                    refine xw6_99g_numbers (pc' := 117) K hinX6_move_X2 uX6_move_f243 dX6_move_114 rfl ?_
                    refine x_iload (pc' := 119) K dX6_move_117 4 rfl rfl ?_
                    refine x_iload (pc' := 121) K dX6_move_119 5 rfl rfl ?_
                    obtain ⟨z121s, h⟩ := h
                    obtain ⟨z121d, h⟩ := h
                    obtain ⟨z121n, h⟩ := h
                    obtain ⟨z121p, h⟩ := h
                    obtain ⟨z121q, h⟩ := h
                    refine x_copy (pc' := 124) (w' := w6 cI cO a E94 (va_up H94 67 (va_cpy (H94 67) (H94 67) x2.toNatClampNeg x4.toNatClampNeg x5.toNatClampNeg))) K uX6_move_m246 uX6_move_cn uX6_move_cs uX6_move_ci 100 100 (f := H94 67) (g := H94 67) (n0 := 24) (n1 := 24) (cA := cI) rfl rfl rfl z121s z121d z121n z121p z121q rfl (by decide +kernel) (by decide +kernel) dX6_move_121 rfl ?_
                    obtain ⟨G121, eG121⟩ : ∃ x : xA, x = va_up H94 67 (va_cpy (H94 67) (H94 67) x2.toNatClampNeg x4.toNatClampNeg x5.toNatClampNeg) := ⟨_, rfl⟩
                    refine x_weq (w' := w6 cI cO a E94 G121) (by subst eG121; rfl) ?_
                    replace h := h G121 eG121
                    refine x_iload (pc' := 126) K dX6_move_124 5 rfl rfl ?_
                    exact x_iret (wf := w6 cI cO a) K h dX6_move_126
                  · replace h := h.2 c97
                    refine x_aload_n (pc' := 101) K dX6_move_100 0 rfl rfl ?_
                    refine x_iconst (pc' := 102) (v := 1) K dX6_move_101 (by decide) rfl ?_
                    refine x_callI (pc' := 105) K (mX6_error l D cI cO a _) rfl gX6_move_X6_error rfl dsX6_error ⟨rfl, rfl, ⟨Nat.le_of_ble_eq_true rfl, Nat.le_of_ble_eq_true rfl⟩, Nat.le_of_ble_eq_true rfl, Nat.le_of_ble_eq_true rfl⟩ h 6 0 rfl rfl (st := []) rfl rfl (Nat.le_of_ble_eq_true rfl) dX6_move_102 rfl (fun r102 F102 G102 h => ?_)
                    exact x_iret (wf := w6 cI cO a) K h dX6_move_105
              · replace h := h.2 c68
                refine x_aload_n (pc' := 72) K dX6_move_71 0 rfl rfl ?_
                refine x_iconst (pc' := 73) (v := 5) K dX6_move_72 (by decide) rfl ?_
                refine x_callI (pc' := 76) K (mX6_error l D cI cO a _) rfl gX6_move_X6_error rfl dsX6_error ⟨rfl, rfl, ⟨Nat.le_of_ble_eq_true rfl, Nat.le_of_ble_eq_true rfl⟩, Nat.le_of_ble_eq_true rfl, Nat.le_of_ble_eq_true rfl⟩ h 6 0 rfl rfl (st := []) rfl rfl (Nat.le_of_ble_eq_true rfl) dX6_move_73 rfl (fun r73 F73 G73 h => ?_)
                exact x_iret (wf := w6 cI cO a) K h dX6_move_76
            · replace h := h.2 c49
              refine x_aload_n (pc' := 53) K dX6_move_52 0 rfl rfl ?_
              refine x_iconst (pc' := 54) (v := 2) K dX6_move_53 (by decide) rfl ?_
              refine x_callI (pc' := 57) K (mX6_error l D cI cO a _) rfl gX6_move_X6_error rfl dsX6_error ⟨rfl, rfl, ⟨Nat.le_of_ble_eq_true rfl, Nat.le_of_ble_eq_true rfl⟩, Nat.le_of_ble_eq_true rfl, Nat.le_of_ble_eq_true rfl⟩ h 6 0 rfl rfl (st := []) rfl rfl (Nat.le_of_ble_eq_true rfl) dX6_move_54 rfl (fun r54 F54 G54 h => ?_)
              exact x_iret (wf := w6 cI cO a) K h dX6_move_57
        · replace h := h.2.2.1 e33
          refine xw6_96q2 (pc' := 34) K i33 e33 dX6_move_33 rfl ?_
          refine x_astore (pc' := 36) (i := 7) K dX6_move_34 (by decide) [1, 2, 3, 4, 5, 6, 7, 0] (L' := [(0, .ref (a 0)), (1, .int _), (2, .int _), (3, .int _), (4, .int _), (5, .int _), (6, .ref (a 99)), (7, .ref (a 101))]) rfl rfl ?_
          refine x_aload (pc' := 38) K dX6_move_36 6 rfl rfl ?_
          refine x_subI (pc' := 41) (wn := fun F' G' => w6 cI cO a (xspl F 44 2 F') (xspl G 67 1 G')) K (mX2_isMissing l D cI cO (xsub a 99)) rfl gX6_move_X2_isMissing rfl dsX2_isMissing ⟨rfl, rfl, ⟨Nat.le_of_ble_eq_true rfl, Nat.le_of_ble_eq_true rfl⟩, Nat.le_of_ble_eq_true rfl, Nat.le_of_ble_eq_true rfl⟩ h 2 0 rfl rfl (xpl32 cI cO a _ _) (fun F' G' => xpr32 cI cO a _ _ F' G') (st := []) rfl rfl (Nat.le_of_ble_eq_true rfl) dX6_move_38 rfl (fun r38 F38 G38 h => ?_)
          obtain ⟨E38, eE38⟩ : ∃ x : xF, x = (xspl F 44 2 F38) := ⟨_, rfl⟩
          obtain ⟨H38, eH38⟩ : ∃ x : xA, x = (xspl G 67 1 G38) := ⟨_, rfl⟩
          refine x_weq (w' := w6 cI cO a E38 H38) (by subst eE38; subst eH38; rfl) ?_
          replace h := h E38 eE38
          replace h := h H38 eH38
          refine x_if_ne (tgt := 52) (pc' := 44) K dX6_move_41 rfl rfl (fun c41 => ?_) (fun c41 => ?_)
          · replace h := h.1 c41
            refine x_aload_n (pc' := 53) K dX6_move_52 0 rfl rfl ?_
            refine x_iconst (pc' := 54) (v := 2) K dX6_move_53 (by decide) rfl ?_
            refine x_callI (pc' := 57) K (mX6_error l D cI cO a _) rfl gX6_move_X6_error rfl dsX6_error ⟨rfl, rfl, ⟨Nat.le_of_ble_eq_true rfl, Nat.le_of_ble_eq_true rfl⟩, Nat.le_of_ble_eq_true rfl, Nat.le_of_ble_eq_true rfl⟩ h 6 0 rfl rfl (st := []) rfl rfl (Nat.le_of_ble_eq_true rfl) dX6_move_54 rfl (fun r54 F54 G54 h => ?_)
            exact x_iret (wf := w6 cI cO a) K h dX6_move_57
          · replace h := h.2 c41
            refine x_aload (pc' := 46) K dX6_move_44 7 rfl rfl ?_
            refine x_subI (pc' := 49) (wn := fun F' G' => w6 cI cO a (xspl E38 46 2 F') (xspl H38 68 1 G')) K (mX2_isMissing l D cI cO (xsub a 101)) rfl gX6_move_X2_isMissing rfl dsX2_isMissing ⟨rfl, rfl, ⟨Nat.le_of_ble_eq_true rfl, Nat.le_of_ble_eq_true rfl⟩, Nat.le_of_ble_eq_true rfl, Nat.le_of_ble_eq_true rfl⟩ h 2 0 rfl rfl (xpl33 cI cO a _ _) (fun F' G' => xpr33 cI cO a _ _ F' G') (st := []) rfl rfl (Nat.le_of_ble_eq_true rfl) dX6_move_46 rfl (fun r46 F46 G46 h => ?_)
            obtain ⟨E46, eE46⟩ : ∃ x : xF, x = (xspl E38 46 2 F46) := ⟨_, rfl⟩
            obtain ⟨H46, eH46⟩ : ∃ x : xA, x = (xspl H38 68 1 G46) := ⟨_, rfl⟩
            refine x_weq (w' := w6 cI cO a E46 H46) (by subst eE46; subst eH46; rfl) ?_
            replace h := h E46 eE46
            replace h := h H46 eH46
            refine x_if_eq (tgt := 58) (pc' := 52) K dX6_move_49 rfl rfl (fun c49 => ?_) (fun c49 => ?_)
            · replace h := h.1 c49
              refine x_aload (pc' := 60) K dX6_move_58 6 rfl rfl ?_
              refine xw6_99g_bits (pc' := 63) K hinX6_move_X2 uX6_move_f237 dX6_move_60 rfl ?_
              refine x_aload (pc' := 65) K dX6_move_63 7 rfl rfl ?_
              refine xw6_101g_bits (pc' := 68) K hinX6_move_X2 uX6_move_f237 dX6_move_65 rfl ?_
              refine x_icmp_eq (tgt := 77) (pc' := 71) K dX6_move_68 rfl rfl (fun c68 => ?_) (fun c68 => ?_)
              · replace h := h.1 c68
                refine x_aload (pc' := 79) K dX6_move_77 6 rfl rfl ?_
                refine x_iload_n (pc' := 80) K dX6_move_79 2 rfl rfl ?_
                refine x_iload (pc' := 82) K dX6_move_80 5 rfl rfl ?_
                refine x_subI (pc' := 85) (wn := fun F' G' => w6 cI cO a (xspl E46 44 2 F') (xspl H46 67 1 G')) K (mX2_holdsPart l D cI cO (xsub a 99) _ _) rfl gX6_move_X2_holdsPart rfl dsX2_holdsPart ⟨rfl, rfl, ⟨Nat.le_of_ble_eq_true rfl, Nat.le_of_ble_eq_true rfl⟩, Nat.le_of_ble_eq_true rfl, Nat.le_of_ble_eq_true rfl⟩ h 2 0 rfl rfl (xpl32 cI cO a _ _) (fun F' G' => xpr32 cI cO a _ _ F' G') (st := []) rfl rfl (Nat.le_of_ble_eq_true rfl) dX6_move_82 rfl (fun r82 F82 G82 h => ?_)
                obtain ⟨E82, eE82⟩ : ∃ x : xF, x = (xspl E46 44 2 F82) := ⟨_, rfl⟩
                obtain ⟨H82, eH82⟩ : ∃ x : xA, x = (xspl H46 67 1 G82) := ⟨_, rfl⟩
                refine x_weq (w' := w6 cI cO a E82 H82) (by subst eE82; subst eH82; rfl) ?_
                replace h := h E82 eE82
                replace h := h H82 eH82
                refine x_if_eq (tgt := 100) (pc' := 88) K dX6_move_85 rfl rfl (fun c85 => ?_) (fun c85 => ?_)
                · replace h := h.1 c85
                  refine x_aload_n (pc' := 101) K dX6_move_100 0 rfl rfl ?_
                  refine x_iconst (pc' := 102) (v := 1) K dX6_move_101 (by decide) rfl ?_
                  refine x_callI (pc' := 105) K (mX6_error l D cI cO a _) rfl gX6_move_X6_error rfl dsX6_error ⟨rfl, rfl, ⟨Nat.le_of_ble_eq_true rfl, Nat.le_of_ble_eq_true rfl⟩, Nat.le_of_ble_eq_true rfl, Nat.le_of_ble_eq_true rfl⟩ h 6 0 rfl rfl (st := []) rfl rfl (Nat.le_of_ble_eq_true rfl) dX6_move_102 rfl (fun r102 F102 G102 h => ?_)
                  exact x_iret (wf := w6 cI cO a) K h dX6_move_105
                · replace h := h.2 c85
                  refine x_aload (pc' := 90) K dX6_move_88 7 rfl rfl ?_
                  refine x_iload (pc' := 92) K dX6_move_90 4 rfl rfl ?_
                  refine x_iload (pc' := 94) K dX6_move_92 5 rfl rfl ?_
                  refine x_subI (pc' := 97) (wn := fun F' G' => w6 cI cO a (xspl E82 46 2 F') (xspl H82 68 1 G')) K (mX2_holdsPart l D cI cO (xsub a 101) _ _) rfl gX6_move_X2_holdsPart rfl dsX2_holdsPart ⟨rfl, rfl, ⟨Nat.le_of_ble_eq_true rfl, Nat.le_of_ble_eq_true rfl⟩, Nat.le_of_ble_eq_true rfl, Nat.le_of_ble_eq_true rfl⟩ h 2 0 rfl rfl (xpl33 cI cO a _ _) (fun F' G' => xpr33 cI cO a _ _ F' G') (st := []) rfl rfl (Nat.le_of_ble_eq_true rfl) dX6_move_94 rfl (fun r94 F94 G94 h => ?_)
                  obtain ⟨E94, eE94⟩ : ∃ x : xF, x = (xspl E82 46 2 F94) := ⟨_, rfl⟩
                  obtain ⟨H94, eH94⟩ : ∃ x : xA, x = (xspl H82 68 1 G94) := ⟨_, rfl⟩
                  refine x_weq (w' := w6 cI cO a E94 H94) (by subst eE94; subst eH94; rfl) ?_
                  replace h := h E94 eE94
                  replace h := h H94 eH94
                  refine x_if_ne (tgt := 106) (pc' := 100) K dX6_move_97 rfl rfl (fun c97 => ?_) (fun c97 => ?_)
                  · replace h := h.1 c97
                    refine x_aload (pc' := 108) K dX6_move_106 6 rfl rfl ?_
                    refine xw6_99g_numbers (pc' := 111) K hinX6_move_X2 uX6_move_f243 dX6_move_108 rfl ?_
                    refine x_iload_n (pc' := 112) K dX6_move_111 2 rfl rfl ?_
                    refine x_aload (pc' := 114) K dX6_move_112 7 rfl rfl ?_
                    refine xw6_101g_numbers (pc' := 117) K hinX6_move_X2 uX6_move_f243 dX6_move_114 rfl ?_
                    refine x_iload (pc' := 119) K dX6_move_117 4 rfl rfl ?_
                    refine x_iload (pc' := 121) K dX6_move_119 5 rfl rfl ?_
                    obtain ⟨z121s, h⟩ := h
                    obtain ⟨z121d, h⟩ := h
                    obtain ⟨z121n, h⟩ := h
                    obtain ⟨z121p, h⟩ := h
                    obtain ⟨z121q, h⟩ := h
                    refine x_copy (pc' := 124) (w' := w6 cI cO a E94 (va_up H94 68 (va_cpy (H94 67) (H94 68) x2.toNatClampNeg x4.toNatClampNeg x5.toNatClampNeg))) K uX6_move_m246 uX6_move_cn uX6_move_cs uX6_move_ci 100 102 (f := H94 67) (g := H94 68) (n0 := 24) (n1 := 24) (cA := cI) rfl rfl rfl z121s z121d z121n z121p z121q rfl (by decide +kernel) (by decide +kernel) dX6_move_121 rfl ?_
                    obtain ⟨G121, eG121⟩ : ∃ x : xA, x = va_up H94 68 (va_cpy (H94 67) (H94 68) x2.toNatClampNeg x4.toNatClampNeg x5.toNatClampNeg) := ⟨_, rfl⟩
                    refine x_weq (w' := w6 cI cO a E94 G121) (by subst eG121; rfl) ?_
                    replace h := h G121 eG121
                    refine x_iload (pc' := 126) K dX6_move_124 5 rfl rfl ?_
                    exact x_iret (wf := w6 cI cO a) K h dX6_move_126
                  · replace h := h.2 c97
                    refine x_aload_n (pc' := 101) K dX6_move_100 0 rfl rfl ?_
                    refine x_iconst (pc' := 102) (v := 1) K dX6_move_101 (by decide) rfl ?_
                    refine x_callI (pc' := 105) K (mX6_error l D cI cO a _) rfl gX6_move_X6_error rfl dsX6_error ⟨rfl, rfl, ⟨Nat.le_of_ble_eq_true rfl, Nat.le_of_ble_eq_true rfl⟩, Nat.le_of_ble_eq_true rfl, Nat.le_of_ble_eq_true rfl⟩ h 6 0 rfl rfl (st := []) rfl rfl (Nat.le_of_ble_eq_true rfl) dX6_move_102 rfl (fun r102 F102 G102 h => ?_)
                    exact x_iret (wf := w6 cI cO a) K h dX6_move_105
              · replace h := h.2 c68
                refine x_aload_n (pc' := 72) K dX6_move_71 0 rfl rfl ?_
                refine x_iconst (pc' := 73) (v := 5) K dX6_move_72 (by decide) rfl ?_
                refine x_callI (pc' := 76) K (mX6_error l D cI cO a _) rfl gX6_move_X6_error rfl dsX6_error ⟨rfl, rfl, ⟨Nat.le_of_ble_eq_true rfl, Nat.le_of_ble_eq_true rfl⟩, Nat.le_of_ble_eq_true rfl, Nat.le_of_ble_eq_true rfl⟩ h 6 0 rfl rfl (st := []) rfl rfl (Nat.le_of_ble_eq_true rfl) dX6_move_73 rfl (fun r73 F73 G73 h => ?_)
                exact x_iret (wf := w6 cI cO a) K h dX6_move_76
            · replace h := h.2 c49
              refine x_aload_n (pc' := 53) K dX6_move_52 0 rfl rfl ?_
              refine x_iconst (pc' := 54) (v := 2) K dX6_move_53 (by decide) rfl ?_
              refine x_callI (pc' := 57) K (mX6_error l D cI cO a _) rfl gX6_move_X6_error rfl dsX6_error ⟨rfl, rfl, ⟨Nat.le_of_ble_eq_true rfl, Nat.le_of_ble_eq_true rfl⟩, Nat.le_of_ble_eq_true rfl, Nat.le_of_ble_eq_true rfl⟩ h 6 0 rfl rfl (st := []) rfl rfl (Nat.le_of_ble_eq_true rfl) dX6_move_54 rfl (fun r54 F54 G54 h => ?_)
              exact x_iret (wf := w6 cI cO a) K h dX6_move_57
        · replace h := h.2.2.2 e33
          refine xw6_96q3 (pc' := 34) K i33 e33 dX6_move_33 rfl ?_
          refine x_astore (pc' := 36) (i := 7) K dX6_move_34 (by decide) [1, 2, 3, 4, 5, 6, 7, 0] (L' := [(0, .ref (a 0)), (1, .int _), (2, .int _), (3, .int _), (4, .int _), (5, .int _), (6, .ref (a 99)), (7, .ref (a 103))]) rfl rfl ?_
          refine x_aload (pc' := 38) K dX6_move_36 6 rfl rfl ?_
          refine x_subI (pc' := 41) (wn := fun F' G' => w6 cI cO a (xspl F 44 2 F') (xspl G 67 1 G')) K (mX2_isMissing l D cI cO (xsub a 99)) rfl gX6_move_X2_isMissing rfl dsX2_isMissing ⟨rfl, rfl, ⟨Nat.le_of_ble_eq_true rfl, Nat.le_of_ble_eq_true rfl⟩, Nat.le_of_ble_eq_true rfl, Nat.le_of_ble_eq_true rfl⟩ h 2 0 rfl rfl (xpl32 cI cO a _ _) (fun F' G' => xpr32 cI cO a _ _ F' G') (st := []) rfl rfl (Nat.le_of_ble_eq_true rfl) dX6_move_38 rfl (fun r38 F38 G38 h => ?_)
          obtain ⟨E38, eE38⟩ : ∃ x : xF, x = (xspl F 44 2 F38) := ⟨_, rfl⟩
          obtain ⟨H38, eH38⟩ : ∃ x : xA, x = (xspl G 67 1 G38) := ⟨_, rfl⟩
          refine x_weq (w' := w6 cI cO a E38 H38) (by subst eE38; subst eH38; rfl) ?_
          replace h := h E38 eE38
          replace h := h H38 eH38
          refine x_if_ne (tgt := 52) (pc' := 44) K dX6_move_41 rfl rfl (fun c41 => ?_) (fun c41 => ?_)
          · replace h := h.1 c41
            refine x_aload_n (pc' := 53) K dX6_move_52 0 rfl rfl ?_
            refine x_iconst (pc' := 54) (v := 2) K dX6_move_53 (by decide) rfl ?_
            refine x_callI (pc' := 57) K (mX6_error l D cI cO a _) rfl gX6_move_X6_error rfl dsX6_error ⟨rfl, rfl, ⟨Nat.le_of_ble_eq_true rfl, Nat.le_of_ble_eq_true rfl⟩, Nat.le_of_ble_eq_true rfl, Nat.le_of_ble_eq_true rfl⟩ h 6 0 rfl rfl (st := []) rfl rfl (Nat.le_of_ble_eq_true rfl) dX6_move_54 rfl (fun r54 F54 G54 h => ?_)
            exact x_iret (wf := w6 cI cO a) K h dX6_move_57
          · replace h := h.2 c41
            refine x_aload (pc' := 46) K dX6_move_44 7 rfl rfl ?_
            refine x_subI (pc' := 49) (wn := fun F' G' => w6 cI cO a (xspl E38 48 2 F') (xspl H38 69 1 G')) K (mX2_isMissing l D cI cO (xsub a 103)) rfl gX6_move_X2_isMissing rfl dsX2_isMissing ⟨rfl, rfl, ⟨Nat.le_of_ble_eq_true rfl, Nat.le_of_ble_eq_true rfl⟩, Nat.le_of_ble_eq_true rfl, Nat.le_of_ble_eq_true rfl⟩ h 2 0 rfl rfl (xpl34 cI cO a _ _) (fun F' G' => xpr34 cI cO a _ _ F' G') (st := []) rfl rfl (Nat.le_of_ble_eq_true rfl) dX6_move_46 rfl (fun r46 F46 G46 h => ?_)
            obtain ⟨E46, eE46⟩ : ∃ x : xF, x = (xspl E38 48 2 F46) := ⟨_, rfl⟩
            obtain ⟨H46, eH46⟩ : ∃ x : xA, x = (xspl H38 69 1 G46) := ⟨_, rfl⟩
            refine x_weq (w' := w6 cI cO a E46 H46) (by subst eE46; subst eH46; rfl) ?_
            replace h := h E46 eE46
            replace h := h H46 eH46
            refine x_if_eq (tgt := 58) (pc' := 52) K dX6_move_49 rfl rfl (fun c49 => ?_) (fun c49 => ?_)
            · replace h := h.1 c49
              refine x_aload (pc' := 60) K dX6_move_58 6 rfl rfl ?_
              refine xw6_99g_bits (pc' := 63) K hinX6_move_X2 uX6_move_f237 dX6_move_60 rfl ?_
              refine x_aload (pc' := 65) K dX6_move_63 7 rfl rfl ?_
              refine xw6_103g_bits (pc' := 68) K hinX6_move_X2 uX6_move_f237 dX6_move_65 rfl ?_
              refine x_icmp_eq (tgt := 77) (pc' := 71) K dX6_move_68 rfl rfl (fun c68 => ?_) (fun c68 => ?_)
              · replace h := h.1 c68
                refine x_aload (pc' := 79) K dX6_move_77 6 rfl rfl ?_
                refine x_iload_n (pc' := 80) K dX6_move_79 2 rfl rfl ?_
                refine x_iload (pc' := 82) K dX6_move_80 5 rfl rfl ?_
                refine x_subI (pc' := 85) (wn := fun F' G' => w6 cI cO a (xspl E46 44 2 F') (xspl H46 67 1 G')) K (mX2_holdsPart l D cI cO (xsub a 99) _ _) rfl gX6_move_X2_holdsPart rfl dsX2_holdsPart ⟨rfl, rfl, ⟨Nat.le_of_ble_eq_true rfl, Nat.le_of_ble_eq_true rfl⟩, Nat.le_of_ble_eq_true rfl, Nat.le_of_ble_eq_true rfl⟩ h 2 0 rfl rfl (xpl32 cI cO a _ _) (fun F' G' => xpr32 cI cO a _ _ F' G') (st := []) rfl rfl (Nat.le_of_ble_eq_true rfl) dX6_move_82 rfl (fun r82 F82 G82 h => ?_)
                obtain ⟨E82, eE82⟩ : ∃ x : xF, x = (xspl E46 44 2 F82) := ⟨_, rfl⟩
                obtain ⟨H82, eH82⟩ : ∃ x : xA, x = (xspl H46 67 1 G82) := ⟨_, rfl⟩
                refine x_weq (w' := w6 cI cO a E82 H82) (by subst eE82; subst eH82; rfl) ?_
                replace h := h E82 eE82
                replace h := h H82 eH82
                refine x_if_eq (tgt := 100) (pc' := 88) K dX6_move_85 rfl rfl (fun c85 => ?_) (fun c85 => ?_)
                · replace h := h.1 c85
                  refine x_aload_n (pc' := 101) K dX6_move_100 0 rfl rfl ?_
                  refine x_iconst (pc' := 102) (v := 1) K dX6_move_101 (by decide) rfl ?_
                  refine x_callI (pc' := 105) K (mX6_error l D cI cO a _) rfl gX6_move_X6_error rfl dsX6_error ⟨rfl, rfl, ⟨Nat.le_of_ble_eq_true rfl, Nat.le_of_ble_eq_true rfl⟩, Nat.le_of_ble_eq_true rfl, Nat.le_of_ble_eq_true rfl⟩ h 6 0 rfl rfl (st := []) rfl rfl (Nat.le_of_ble_eq_true rfl) dX6_move_102 rfl (fun r102 F102 G102 h => ?_)
                  exact x_iret (wf := w6 cI cO a) K h dX6_move_105
                · replace h := h.2 c85
                  refine x_aload (pc' := 90) K dX6_move_88 7 rfl rfl ?_
                  refine x_iload (pc' := 92) K dX6_move_90 4 rfl rfl ?_
                  refine x_iload (pc' := 94) K dX6_move_92 5 rfl rfl ?_
                  refine x_subI (pc' := 97) (wn := fun F' G' => w6 cI cO a (xspl E82 48 2 F') (xspl H82 69 1 G')) K (mX2_holdsPart l D cI cO (xsub a 103) _ _) rfl gX6_move_X2_holdsPart rfl dsX2_holdsPart ⟨rfl, rfl, ⟨Nat.le_of_ble_eq_true rfl, Nat.le_of_ble_eq_true rfl⟩, Nat.le_of_ble_eq_true rfl, Nat.le_of_ble_eq_true rfl⟩ h 2 0 rfl rfl (xpl34 cI cO a _ _) (fun F' G' => xpr34 cI cO a _ _ F' G') (st := []) rfl rfl (Nat.le_of_ble_eq_true rfl) dX6_move_94 rfl (fun r94 F94 G94 h => ?_)
                  obtain ⟨E94, eE94⟩ : ∃ x : xF, x = (xspl E82 48 2 F94) := ⟨_, rfl⟩
                  obtain ⟨H94, eH94⟩ : ∃ x : xA, x = (xspl H82 69 1 G94) := ⟨_, rfl⟩
                  refine x_weq (w' := w6 cI cO a E94 H94) (by subst eE94; subst eH94; rfl) ?_
                  replace h := h E94 eE94
                  replace h := h H94 eH94
                  refine x_if_ne (tgt := 106) (pc' := 100) K dX6_move_97 rfl rfl (fun c97 => ?_) (fun c97 => ?_)
                  · replace h := h.1 c97
                    refine x_aload (pc' := 108) K dX6_move_106 6 rfl rfl ?_
                    refine xw6_99g_numbers (pc' := 111) K hinX6_move_X2 uX6_move_f243 dX6_move_108 rfl ?_
                    refine x_iload_n (pc' := 112) K dX6_move_111 2 rfl rfl ?_
                    refine x_aload (pc' := 114) K dX6_move_112 7 rfl rfl ?_
                    refine xw6_103g_numbers (pc' := 117) K hinX6_move_X2 uX6_move_f243 dX6_move_114 rfl ?_
                    refine x_iload (pc' := 119) K dX6_move_117 4 rfl rfl ?_
                    refine x_iload (pc' := 121) K dX6_move_119 5 rfl rfl ?_
                    obtain ⟨z121s, h⟩ := h
                    obtain ⟨z121d, h⟩ := h
                    obtain ⟨z121n, h⟩ := h
                    obtain ⟨z121p, h⟩ := h
                    obtain ⟨z121q, h⟩ := h
                    refine x_copy (pc' := 124) (w' := w6 cI cO a E94 (va_up H94 69 (va_cpy (H94 67) (H94 69) x2.toNatClampNeg x4.toNatClampNeg x5.toNatClampNeg))) K uX6_move_m246 uX6_move_cn uX6_move_cs uX6_move_ci 100 104 (f := H94 67) (g := H94 69) (n0 := 24) (n1 := 24) (cA := cI) rfl rfl rfl z121s z121d z121n z121p z121q rfl (by decide +kernel) (by decide +kernel) dX6_move_121 rfl ?_
                    obtain ⟨G121, eG121⟩ : ∃ x : xA, x = va_up H94 69 (va_cpy (H94 67) (H94 69) x2.toNatClampNeg x4.toNatClampNeg x5.toNatClampNeg) := ⟨_, rfl⟩
                    refine x_weq (w' := w6 cI cO a E94 G121) (by subst eG121; rfl) ?_
                    replace h := h G121 eG121
                    refine x_iload (pc' := 126) K dX6_move_124 5 rfl rfl ?_
                    exact x_iret (wf := w6 cI cO a) K h dX6_move_126
                  · replace h := h.2 c97
                    refine x_aload_n (pc' := 101) K dX6_move_100 0 rfl rfl ?_
                    refine x_iconst (pc' := 102) (v := 1) K dX6_move_101 (by decide) rfl ?_
                    refine x_callI (pc' := 105) K (mX6_error l D cI cO a _) rfl gX6_move_X6_error rfl dsX6_error ⟨rfl, rfl, ⟨Nat.le_of_ble_eq_true rfl, Nat.le_of_ble_eq_true rfl⟩, Nat.le_of_ble_eq_true rfl, Nat.le_of_ble_eq_true rfl⟩ h 6 0 rfl rfl (st := []) rfl rfl (Nat.le_of_ble_eq_true rfl) dX6_move_102 rfl (fun r102 F102 G102 h => ?_)
                    exact x_iret (wf := w6 cI cO a) K h dX6_move_105
              · replace h := h.2 c68
                refine x_aload_n (pc' := 72) K dX6_move_71 0 rfl rfl ?_
                refine x_iconst (pc' := 73) (v := 5) K dX6_move_72 (by decide) rfl ?_
                refine x_callI (pc' := 76) K (mX6_error l D cI cO a _) rfl gX6_move_X6_error rfl dsX6_error ⟨rfl, rfl, ⟨Nat.le_of_ble_eq_true rfl, Nat.le_of_ble_eq_true rfl⟩, Nat.le_of_ble_eq_true rfl, Nat.le_of_ble_eq_true rfl⟩ h 6 0 rfl rfl (st := []) rfl rfl (Nat.le_of_ble_eq_true rfl) dX6_move_73 rfl (fun r73 F73 G73 h => ?_)
                exact x_iret (wf := w6 cI cO a) K h dX6_move_76
            · replace h := h.2 c49
              refine x_aload_n (pc' := 53) K dX6_move_52 0 rfl rfl ?_
              refine x_iconst (pc' := 54) (v := 2) K dX6_move_53 (by decide) rfl ?_
              refine x_callI (pc' := 57) K (mX6_error l D cI cO a _) rfl gX6_move_X6_error rfl dsX6_error ⟨rfl, rfl, ⟨Nat.le_of_ble_eq_true rfl, Nat.le_of_ble_eq_true rfl⟩, Nat.le_of_ble_eq_true rfl, Nat.le_of_ble_eq_true rfl⟩ h 6 0 rfl rfl (st := []) rfl rfl (Nat.le_of_ble_eq_true rfl) dX6_move_54 rfl (fun r54 F54 G54 h => ?_)
              exact x_iret (wf := w6 cI cO a) K h dX6_move_57
      · replace h := h.2.2.1 e25
        refine xw6_96q2 (pc' := 26) K i25 e25 dX6_move_25 rfl ?_
        refine x_astore (pc' := 28) (i := 6) K dX6_move_26 (by decide) [1, 2, 3, 4, 5, 6, 0] (L' := [(0, .ref (a 0)), (1, .int _), (2, .int _), (3, .int _), (4, .int _), (5, .int _), (6, .ref (a 101))]) rfl rfl ?_
        refine x_aload_n (pc' := 29) K dX6_move_28 0 rfl rfl ?_
        refine xw6_0g_sheets (pc' := 32) K hinX6_move_X6 uX6_move_f70 dX6_move_29 rfl ?_
        refine x_iload_n (pc' := 33) K dX6_move_32 3 rfl rfl ?_
        obtain ⟨i33, h⟩ := h
        rcases xin4 i33 with e33 | e33 | e33 | e33
        · replace h := h.1 e33
          refine xw6_96q0 (pc' := 34) K i33 e33 dX6_move_33 rfl ?_
          refine x_astore (pc' := 36) (i := 7) K dX6_move_34 (by decide) [1, 2, 3, 4, 5, 6, 7, 0] (L' := [(0, .ref (a 0)), (1, .int _), (2, .int _), (3, .int _), (4, .int _), (5, .int _), (6, .ref (a 101)), (7, .ref (a 97))]) rfl rfl ?_
          refine x_aload (pc' := 38) K dX6_move_36 6 rfl rfl ?_
          refine x_subI (pc' := 41) (wn := fun F' G' => w6 cI cO a (xspl F 46 2 F') (xspl G 68 1 G')) K (mX2_isMissing l D cI cO (xsub a 101)) rfl gX6_move_X2_isMissing rfl dsX2_isMissing ⟨rfl, rfl, ⟨Nat.le_of_ble_eq_true rfl, Nat.le_of_ble_eq_true rfl⟩, Nat.le_of_ble_eq_true rfl, Nat.le_of_ble_eq_true rfl⟩ h 2 0 rfl rfl (xpl33 cI cO a _ _) (fun F' G' => xpr33 cI cO a _ _ F' G') (st := []) rfl rfl (Nat.le_of_ble_eq_true rfl) dX6_move_38 rfl (fun r38 F38 G38 h => ?_)
          obtain ⟨E38, eE38⟩ : ∃ x : xF, x = (xspl F 46 2 F38) := ⟨_, rfl⟩
          obtain ⟨H38, eH38⟩ : ∃ x : xA, x = (xspl G 68 1 G38) := ⟨_, rfl⟩
          refine x_weq (w' := w6 cI cO a E38 H38) (by subst eE38; subst eH38; rfl) ?_
          replace h := h E38 eE38
          replace h := h H38 eH38
          refine x_if_ne (tgt := 52) (pc' := 44) K dX6_move_41 rfl rfl (fun c41 => ?_) (fun c41 => ?_)
          · replace h := h.1 c41
            refine x_aload_n (pc' := 53) K dX6_move_52 0 rfl rfl ?_
            refine x_iconst (pc' := 54) (v := 2) K dX6_move_53 (by decide) rfl ?_
            refine x_callI (pc' := 57) K (mX6_error l D cI cO a _) rfl gX6_move_X6_error rfl dsX6_error ⟨rfl, rfl, ⟨Nat.le_of_ble_eq_true rfl, Nat.le_of_ble_eq_true rfl⟩, Nat.le_of_ble_eq_true rfl, Nat.le_of_ble_eq_true rfl⟩ h 6 0 rfl rfl (st := []) rfl rfl (Nat.le_of_ble_eq_true rfl) dX6_move_54 rfl (fun r54 F54 G54 h => ?_)
            exact x_iret (wf := w6 cI cO a) K h dX6_move_57
          · replace h := h.2 c41
            refine x_aload (pc' := 46) K dX6_move_44 7 rfl rfl ?_
            refine x_subI (pc' := 49) (wn := fun F' G' => w6 cI cO a (xspl E38 42 2 F') (xspl H38 66 1 G')) K (mX2_isMissing l D cI cO (xsub a 97)) rfl gX6_move_X2_isMissing rfl dsX2_isMissing ⟨rfl, rfl, ⟨Nat.le_of_ble_eq_true rfl, Nat.le_of_ble_eq_true rfl⟩, Nat.le_of_ble_eq_true rfl, Nat.le_of_ble_eq_true rfl⟩ h 2 0 rfl rfl (xpl31 cI cO a _ _) (fun F' G' => xpr31 cI cO a _ _ F' G') (st := []) rfl rfl (Nat.le_of_ble_eq_true rfl) dX6_move_46 rfl (fun r46 F46 G46 h => ?_)
            obtain ⟨E46, eE46⟩ : ∃ x : xF, x = (xspl E38 42 2 F46) := ⟨_, rfl⟩
            obtain ⟨H46, eH46⟩ : ∃ x : xA, x = (xspl H38 66 1 G46) := ⟨_, rfl⟩
            refine x_weq (w' := w6 cI cO a E46 H46) (by subst eE46; subst eH46; rfl) ?_
            replace h := h E46 eE46
            replace h := h H46 eH46
            refine x_if_eq (tgt := 58) (pc' := 52) K dX6_move_49 rfl rfl (fun c49 => ?_) (fun c49 => ?_)
            · replace h := h.1 c49
              refine x_aload (pc' := 60) K dX6_move_58 6 rfl rfl ?_
              refine xw6_101g_bits (pc' := 63) K hinX6_move_X2 uX6_move_f237 dX6_move_60 rfl ?_
              refine x_aload (pc' := 65) K dX6_move_63 7 rfl rfl ?_
              refine xw6_97g_bits (pc' := 68) K hinX6_move_X2 uX6_move_f237 dX6_move_65 rfl ?_
              refine x_icmp_eq (tgt := 77) (pc' := 71) K dX6_move_68 rfl rfl (fun c68 => ?_) (fun c68 => ?_)
              · replace h := h.1 c68
                refine x_aload (pc' := 79) K dX6_move_77 6 rfl rfl ?_
                refine x_iload_n (pc' := 80) K dX6_move_79 2 rfl rfl ?_
                refine x_iload (pc' := 82) K dX6_move_80 5 rfl rfl ?_
                refine x_subI (pc' := 85) (wn := fun F' G' => w6 cI cO a (xspl E46 46 2 F') (xspl H46 68 1 G')) K (mX2_holdsPart l D cI cO (xsub a 101) _ _) rfl gX6_move_X2_holdsPart rfl dsX2_holdsPart ⟨rfl, rfl, ⟨Nat.le_of_ble_eq_true rfl, Nat.le_of_ble_eq_true rfl⟩, Nat.le_of_ble_eq_true rfl, Nat.le_of_ble_eq_true rfl⟩ h 2 0 rfl rfl (xpl33 cI cO a _ _) (fun F' G' => xpr33 cI cO a _ _ F' G') (st := []) rfl rfl (Nat.le_of_ble_eq_true rfl) dX6_move_82 rfl (fun r82 F82 G82 h => ?_)
                obtain ⟨E82, eE82⟩ : ∃ x : xF, x = (xspl E46 46 2 F82) := ⟨_, rfl⟩
                obtain ⟨H82, eH82⟩ : ∃ x : xA, x = (xspl H46 68 1 G82) := ⟨_, rfl⟩
                refine x_weq (w' := w6 cI cO a E82 H82) (by subst eE82; subst eH82; rfl) ?_
                replace h := h E82 eE82
                replace h := h H82 eH82
                refine x_if_eq (tgt := 100) (pc' := 88) K dX6_move_85 rfl rfl (fun c85 => ?_) (fun c85 => ?_)
                · replace h := h.1 c85
                  refine x_aload_n (pc' := 101) K dX6_move_100 0 rfl rfl ?_
                  refine x_iconst (pc' := 102) (v := 1) K dX6_move_101 (by decide) rfl ?_
                  refine x_callI (pc' := 105) K (mX6_error l D cI cO a _) rfl gX6_move_X6_error rfl dsX6_error ⟨rfl, rfl, ⟨Nat.le_of_ble_eq_true rfl, Nat.le_of_ble_eq_true rfl⟩, Nat.le_of_ble_eq_true rfl, Nat.le_of_ble_eq_true rfl⟩ h 6 0 rfl rfl (st := []) rfl rfl (Nat.le_of_ble_eq_true rfl) dX6_move_102 rfl (fun r102 F102 G102 h => ?_)
                  exact x_iret (wf := w6 cI cO a) K h dX6_move_105
                · replace h := h.2 c85
                  refine x_aload (pc' := 90) K dX6_move_88 7 rfl rfl ?_
                  refine x_iload (pc' := 92) K dX6_move_90 4 rfl rfl ?_
                  refine x_iload (pc' := 94) K dX6_move_92 5 rfl rfl ?_
                  refine x_subI (pc' := 97) (wn := fun F' G' => w6 cI cO a (xspl E82 42 2 F') (xspl H82 66 1 G')) K (mX2_holdsPart l D cI cO (xsub a 97) _ _) rfl gX6_move_X2_holdsPart rfl dsX2_holdsPart ⟨rfl, rfl, ⟨Nat.le_of_ble_eq_true rfl, Nat.le_of_ble_eq_true rfl⟩, Nat.le_of_ble_eq_true rfl, Nat.le_of_ble_eq_true rfl⟩ h 2 0 rfl rfl (xpl31 cI cO a _ _) (fun F' G' => xpr31 cI cO a _ _ F' G') (st := []) rfl rfl (Nat.le_of_ble_eq_true rfl) dX6_move_94 rfl (fun r94 F94 G94 h => ?_)
                  obtain ⟨E94, eE94⟩ : ∃ x : xF, x = (xspl E82 42 2 F94) := ⟨_, rfl⟩
                  obtain ⟨H94, eH94⟩ : ∃ x : xA, x = (xspl H82 66 1 G94) := ⟨_, rfl⟩
                  refine x_weq (w' := w6 cI cO a E94 H94) (by subst eE94; subst eH94; rfl) ?_
                  replace h := h E94 eE94
                  replace h := h H94 eH94
                  refine x_if_ne (tgt := 106) (pc' := 100) K dX6_move_97 rfl rfl (fun c97 => ?_) (fun c97 => ?_)
                  · replace h := h.1 c97
                    refine x_aload (pc' := 108) K dX6_move_106 6 rfl rfl ?_
                    refine xw6_101g_numbers (pc' := 111) K hinX6_move_X2 uX6_move_f243 dX6_move_108 rfl ?_
                    refine x_iload_n (pc' := 112) K dX6_move_111 2 rfl rfl ?_
                    refine x_aload (pc' := 114) K dX6_move_112 7 rfl rfl ?_
                    refine xw6_97g_numbers (pc' := 117) K hinX6_move_X2 uX6_move_f243 dX6_move_114 rfl ?_
                    refine x_iload (pc' := 119) K dX6_move_117 4 rfl rfl ?_
                    refine x_iload (pc' := 121) K dX6_move_119 5 rfl rfl ?_
                    obtain ⟨z121s, h⟩ := h
                    obtain ⟨z121d, h⟩ := h
                    obtain ⟨z121n, h⟩ := h
                    obtain ⟨z121p, h⟩ := h
                    obtain ⟨z121q, h⟩ := h
                    refine x_copy (pc' := 124) (w' := w6 cI cO a E94 (va_up H94 66 (va_cpy (H94 68) (H94 66) x2.toNatClampNeg x4.toNatClampNeg x5.toNatClampNeg))) K uX6_move_m246 uX6_move_cn uX6_move_cs uX6_move_ci 102 98 (f := H94 68) (g := H94 66) (n0 := 24) (n1 := 24) (cA := cI) rfl rfl rfl z121s z121d z121n z121p z121q rfl (by decide +kernel) (by decide +kernel) dX6_move_121 rfl ?_
                    obtain ⟨G121, eG121⟩ : ∃ x : xA, x = va_up H94 66 (va_cpy (H94 68) (H94 66) x2.toNatClampNeg x4.toNatClampNeg x5.toNatClampNeg) := ⟨_, rfl⟩
                    refine x_weq (w' := w6 cI cO a E94 G121) (by subst eG121; rfl) ?_
                    replace h := h G121 eG121
                    refine x_iload (pc' := 126) K dX6_move_124 5 rfl rfl ?_
                    exact x_iret (wf := w6 cI cO a) K h dX6_move_126
                  · replace h := h.2 c97
                    refine x_aload_n (pc' := 101) K dX6_move_100 0 rfl rfl ?_
                    refine x_iconst (pc' := 102) (v := 1) K dX6_move_101 (by decide) rfl ?_
                    refine x_callI (pc' := 105) K (mX6_error l D cI cO a _) rfl gX6_move_X6_error rfl dsX6_error ⟨rfl, rfl, ⟨Nat.le_of_ble_eq_true rfl, Nat.le_of_ble_eq_true rfl⟩, Nat.le_of_ble_eq_true rfl, Nat.le_of_ble_eq_true rfl⟩ h 6 0 rfl rfl (st := []) rfl rfl (Nat.le_of_ble_eq_true rfl) dX6_move_102 rfl (fun r102 F102 G102 h => ?_)
                    exact x_iret (wf := w6 cI cO a) K h dX6_move_105
              · replace h := h.2 c68
                refine x_aload_n (pc' := 72) K dX6_move_71 0 rfl rfl ?_
                refine x_iconst (pc' := 73) (v := 5) K dX6_move_72 (by decide) rfl ?_
                refine x_callI (pc' := 76) K (mX6_error l D cI cO a _) rfl gX6_move_X6_error rfl dsX6_error ⟨rfl, rfl, ⟨Nat.le_of_ble_eq_true rfl, Nat.le_of_ble_eq_true rfl⟩, Nat.le_of_ble_eq_true rfl, Nat.le_of_ble_eq_true rfl⟩ h 6 0 rfl rfl (st := []) rfl rfl (Nat.le_of_ble_eq_true rfl) dX6_move_73 rfl (fun r73 F73 G73 h => ?_)
                exact x_iret (wf := w6 cI cO a) K h dX6_move_76
            · replace h := h.2 c49
              refine x_aload_n (pc' := 53) K dX6_move_52 0 rfl rfl ?_
              refine x_iconst (pc' := 54) (v := 2) K dX6_move_53 (by decide) rfl ?_
              refine x_callI (pc' := 57) K (mX6_error l D cI cO a _) rfl gX6_move_X6_error rfl dsX6_error ⟨rfl, rfl, ⟨Nat.le_of_ble_eq_true rfl, Nat.le_of_ble_eq_true rfl⟩, Nat.le_of_ble_eq_true rfl, Nat.le_of_ble_eq_true rfl⟩ h 6 0 rfl rfl (st := []) rfl rfl (Nat.le_of_ble_eq_true rfl) dX6_move_54 rfl (fun r54 F54 G54 h => ?_)
              exact x_iret (wf := w6 cI cO a) K h dX6_move_57
        · replace h := h.2.1 e33
          refine xw6_96q1 (pc' := 34) K i33 e33 dX6_move_33 rfl ?_
          refine x_astore (pc' := 36) (i := 7) K dX6_move_34 (by decide) [1, 2, 3, 4, 5, 6, 7, 0] (L' := [(0, .ref (a 0)), (1, .int _), (2, .int _), (3, .int _), (4, .int _), (5, .int _), (6, .ref (a 101)), (7, .ref (a 99))]) rfl rfl ?_
          refine x_aload (pc' := 38) K dX6_move_36 6 rfl rfl ?_
          refine x_subI (pc' := 41) (wn := fun F' G' => w6 cI cO a (xspl F 46 2 F') (xspl G 68 1 G')) K (mX2_isMissing l D cI cO (xsub a 101)) rfl gX6_move_X2_isMissing rfl dsX2_isMissing ⟨rfl, rfl, ⟨Nat.le_of_ble_eq_true rfl, Nat.le_of_ble_eq_true rfl⟩, Nat.le_of_ble_eq_true rfl, Nat.le_of_ble_eq_true rfl⟩ h 2 0 rfl rfl (xpl33 cI cO a _ _) (fun F' G' => xpr33 cI cO a _ _ F' G') (st := []) rfl rfl (Nat.le_of_ble_eq_true rfl) dX6_move_38 rfl (fun r38 F38 G38 h => ?_)
          obtain ⟨E38, eE38⟩ : ∃ x : xF, x = (xspl F 46 2 F38) := ⟨_, rfl⟩
          obtain ⟨H38, eH38⟩ : ∃ x : xA, x = (xspl G 68 1 G38) := ⟨_, rfl⟩
          refine x_weq (w' := w6 cI cO a E38 H38) (by subst eE38; subst eH38; rfl) ?_
          replace h := h E38 eE38
          replace h := h H38 eH38
          refine x_if_ne (tgt := 52) (pc' := 44) K dX6_move_41 rfl rfl (fun c41 => ?_) (fun c41 => ?_)
          · replace h := h.1 c41
            refine x_aload_n (pc' := 53) K dX6_move_52 0 rfl rfl ?_
            refine x_iconst (pc' := 54) (v := 2) K dX6_move_53 (by decide) rfl ?_
            refine x_callI (pc' := 57) K (mX6_error l D cI cO a _) rfl gX6_move_X6_error rfl dsX6_error ⟨rfl, rfl, ⟨Nat.le_of_ble_eq_true rfl, Nat.le_of_ble_eq_true rfl⟩, Nat.le_of_ble_eq_true rfl, Nat.le_of_ble_eq_true rfl⟩ h 6 0 rfl rfl (st := []) rfl rfl (Nat.le_of_ble_eq_true rfl) dX6_move_54 rfl (fun r54 F54 G54 h => ?_)
            exact x_iret (wf := w6 cI cO a) K h dX6_move_57
          · replace h := h.2 c41
            refine x_aload (pc' := 46) K dX6_move_44 7 rfl rfl ?_
            refine x_subI (pc' := 49) (wn := fun F' G' => w6 cI cO a (xspl E38 44 2 F') (xspl H38 67 1 G')) K (mX2_isMissing l D cI cO (xsub a 99)) rfl gX6_move_X2_isMissing rfl dsX2_isMissing ⟨rfl, rfl, ⟨Nat.le_of_ble_eq_true rfl, Nat.le_of_ble_eq_true rfl⟩, Nat.le_of_ble_eq_true rfl, Nat.le_of_ble_eq_true rfl⟩ h 2 0 rfl rfl (xpl32 cI cO a _ _) (fun F' G' => xpr32 cI cO a _ _ F' G') (st := []) rfl rfl (Nat.le_of_ble_eq_true rfl) dX6_move_46 rfl (fun r46 F46 G46 h => ?_)
            obtain ⟨E46, eE46⟩ : ∃ x : xF, x = (xspl E38 44 2 F46) := ⟨_, rfl⟩
            obtain ⟨H46, eH46⟩ : ∃ x : xA, x = (xspl H38 67 1 G46) := ⟨_, rfl⟩
            refine x_weq (w' := w6 cI cO a E46 H46) (by subst eE46; subst eH46; rfl) ?_
            replace h := h E46 eE46
            replace h := h H46 eH46
            refine x_if_eq (tgt := 58) (pc' := 52) K dX6_move_49 rfl rfl (fun c49 => ?_) (fun c49 => ?_)
            · replace h := h.1 c49
              refine x_aload (pc' := 60) K dX6_move_58 6 rfl rfl ?_
              refine xw6_101g_bits (pc' := 63) K hinX6_move_X2 uX6_move_f237 dX6_move_60 rfl ?_
              refine x_aload (pc' := 65) K dX6_move_63 7 rfl rfl ?_
              refine xw6_99g_bits (pc' := 68) K hinX6_move_X2 uX6_move_f237 dX6_move_65 rfl ?_
              refine x_icmp_eq (tgt := 77) (pc' := 71) K dX6_move_68 rfl rfl (fun c68 => ?_) (fun c68 => ?_)
              · replace h := h.1 c68
                refine x_aload (pc' := 79) K dX6_move_77 6 rfl rfl ?_
                refine x_iload_n (pc' := 80) K dX6_move_79 2 rfl rfl ?_
                refine x_iload (pc' := 82) K dX6_move_80 5 rfl rfl ?_
                refine x_subI (pc' := 85) (wn := fun F' G' => w6 cI cO a (xspl E46 46 2 F') (xspl H46 68 1 G')) K (mX2_holdsPart l D cI cO (xsub a 101) _ _) rfl gX6_move_X2_holdsPart rfl dsX2_holdsPart ⟨rfl, rfl, ⟨Nat.le_of_ble_eq_true rfl, Nat.le_of_ble_eq_true rfl⟩, Nat.le_of_ble_eq_true rfl, Nat.le_of_ble_eq_true rfl⟩ h 2 0 rfl rfl (xpl33 cI cO a _ _) (fun F' G' => xpr33 cI cO a _ _ F' G') (st := []) rfl rfl (Nat.le_of_ble_eq_true rfl) dX6_move_82 rfl (fun r82 F82 G82 h => ?_)
                obtain ⟨E82, eE82⟩ : ∃ x : xF, x = (xspl E46 46 2 F82) := ⟨_, rfl⟩
                obtain ⟨H82, eH82⟩ : ∃ x : xA, x = (xspl H46 68 1 G82) := ⟨_, rfl⟩
                refine x_weq (w' := w6 cI cO a E82 H82) (by subst eE82; subst eH82; rfl) ?_
                replace h := h E82 eE82
                replace h := h H82 eH82
                refine x_if_eq (tgt := 100) (pc' := 88) K dX6_move_85 rfl rfl (fun c85 => ?_) (fun c85 => ?_)
                · replace h := h.1 c85
                  refine x_aload_n (pc' := 101) K dX6_move_100 0 rfl rfl ?_
                  refine x_iconst (pc' := 102) (v := 1) K dX6_move_101 (by decide) rfl ?_
                  refine x_callI (pc' := 105) K (mX6_error l D cI cO a _) rfl gX6_move_X6_error rfl dsX6_error ⟨rfl, rfl, ⟨Nat.le_of_ble_eq_true rfl, Nat.le_of_ble_eq_true rfl⟩, Nat.le_of_ble_eq_true rfl, Nat.le_of_ble_eq_true rfl⟩ h 6 0 rfl rfl (st := []) rfl rfl (Nat.le_of_ble_eq_true rfl) dX6_move_102 rfl (fun r102 F102 G102 h => ?_)
                  exact x_iret (wf := w6 cI cO a) K h dX6_move_105
                · replace h := h.2 c85
                  refine x_aload (pc' := 90) K dX6_move_88 7 rfl rfl ?_
                  refine x_iload (pc' := 92) K dX6_move_90 4 rfl rfl ?_
                  refine x_iload (pc' := 94) K dX6_move_92 5 rfl rfl ?_
                  refine x_subI (pc' := 97) (wn := fun F' G' => w6 cI cO a (xspl E82 44 2 F') (xspl H82 67 1 G')) K (mX2_holdsPart l D cI cO (xsub a 99) _ _) rfl gX6_move_X2_holdsPart rfl dsX2_holdsPart ⟨rfl, rfl, ⟨Nat.le_of_ble_eq_true rfl, Nat.le_of_ble_eq_true rfl⟩, Nat.le_of_ble_eq_true rfl, Nat.le_of_ble_eq_true rfl⟩ h 2 0 rfl rfl (xpl32 cI cO a _ _) (fun F' G' => xpr32 cI cO a _ _ F' G') (st := []) rfl rfl (Nat.le_of_ble_eq_true rfl) dX6_move_94 rfl (fun r94 F94 G94 h => ?_)
                  obtain ⟨E94, eE94⟩ : ∃ x : xF, x = (xspl E82 44 2 F94) := ⟨_, rfl⟩
                  obtain ⟨H94, eH94⟩ : ∃ x : xA, x = (xspl H82 67 1 G94) := ⟨_, rfl⟩
                  refine x_weq (w' := w6 cI cO a E94 H94) (by subst eE94; subst eH94; rfl) ?_
                  replace h := h E94 eE94
                  replace h := h H94 eH94
                  refine x_if_ne (tgt := 106) (pc' := 100) K dX6_move_97 rfl rfl (fun c97 => ?_) (fun c97 => ?_)
                  · replace h := h.1 c97
                    refine x_aload (pc' := 108) K dX6_move_106 6 rfl rfl ?_
                    refine xw6_101g_numbers (pc' := 111) K hinX6_move_X2 uX6_move_f243 dX6_move_108 rfl ?_
                    refine x_iload_n (pc' := 112) K dX6_move_111 2 rfl rfl ?_
                    refine x_aload (pc' := 114) K dX6_move_112 7 rfl rfl ?_
                    refine xw6_99g_numbers (pc' := 117) K hinX6_move_X2 uX6_move_f243 dX6_move_114 rfl ?_
                    refine x_iload (pc' := 119) K dX6_move_117 4 rfl rfl ?_
                    refine x_iload (pc' := 121) K dX6_move_119 5 rfl rfl ?_
                    obtain ⟨z121s, h⟩ := h
                    obtain ⟨z121d, h⟩ := h
                    obtain ⟨z121n, h⟩ := h
                    obtain ⟨z121p, h⟩ := h
                    obtain ⟨z121q, h⟩ := h
                    refine x_copy (pc' := 124) (w' := w6 cI cO a E94 (va_up H94 67 (va_cpy (H94 68) (H94 67) x2.toNatClampNeg x4.toNatClampNeg x5.toNatClampNeg))) K uX6_move_m246 uX6_move_cn uX6_move_cs uX6_move_ci 102 100 (f := H94 68) (g := H94 67) (n0 := 24) (n1 := 24) (cA := cI) rfl rfl rfl z121s z121d z121n z121p z121q rfl (by decide +kernel) (by decide +kernel) dX6_move_121 rfl ?_
                    obtain ⟨G121, eG121⟩ : ∃ x : xA, x = va_up H94 67 (va_cpy (H94 68) (H94 67) x2.toNatClampNeg x4.toNatClampNeg x5.toNatClampNeg) := ⟨_, rfl⟩
                    refine x_weq (w' := w6 cI cO a E94 G121) (by subst eG121; rfl) ?_
                    replace h := h G121 eG121
                    refine x_iload (pc' := 126) K dX6_move_124 5 rfl rfl ?_
                    exact x_iret (wf := w6 cI cO a) K h dX6_move_126
                  · replace h := h.2 c97
                    refine x_aload_n (pc' := 101) K dX6_move_100 0 rfl rfl ?_
                    refine x_iconst (pc' := 102) (v := 1) K dX6_move_101 (by decide) rfl ?_
                    refine x_callI (pc' := 105) K (mX6_error l D cI cO a _) rfl gX6_move_X6_error rfl dsX6_error ⟨rfl, rfl, ⟨Nat.le_of_ble_eq_true rfl, Nat.le_of_ble_eq_true rfl⟩, Nat.le_of_ble_eq_true rfl, Nat.le_of_ble_eq_true rfl⟩ h 6 0 rfl rfl (st := []) rfl rfl (Nat.le_of_ble_eq_true rfl) dX6_move_102 rfl (fun r102 F102 G102 h => ?_)
                    exact x_iret (wf := w6 cI cO a) K h dX6_move_105
              · replace h := h.2 c68
                refine x_aload_n (pc' := 72) K dX6_move_71 0 rfl rfl ?_
                refine x_iconst (pc' := 73) (v := 5) K dX6_move_72 (by decide) rfl ?_
                refine x_callI (pc' := 76) K (mX6_error l D cI cO a _) rfl gX6_move_X6_error rfl dsX6_error ⟨rfl, rfl, ⟨Nat.le_of_ble_eq_true rfl, Nat.le_of_ble_eq_true rfl⟩, Nat.le_of_ble_eq_true rfl, Nat.le_of_ble_eq_true rfl⟩ h 6 0 rfl rfl (st := []) rfl rfl (Nat.le_of_ble_eq_true rfl) dX6_move_73 rfl (fun r73 F73 G73 h => ?_)
                exact x_iret (wf := w6 cI cO a) K h dX6_move_76
            · replace h := h.2 c49
              refine x_aload_n (pc' := 53) K dX6_move_52 0 rfl rfl ?_
              refine x_iconst (pc' := 54) (v := 2) K dX6_move_53 (by decide) rfl ?_
              refine x_callI (pc' := 57) K (mX6_error l D cI cO a _) rfl gX6_move_X6_error rfl dsX6_error ⟨rfl, rfl, ⟨Nat.le_of_ble_eq_true rfl, Nat.le_of_ble_eq_true rfl⟩, Nat.le_of_ble_eq_true rfl, Nat.le_of_ble_eq_true rfl⟩ h 6 0 rfl rfl (st := []) rfl rfl (Nat.le_of_ble_eq_true rfl) dX6_move_54 rfl (fun r54 F54 G54 h => ?_)
              exact x_iret (wf := w6 cI cO a) K h dX6_move_57
        · replace h := h.2.2.1 e33
          refine xw6_96q2 (pc' := 34) K i33 e33 dX6_move_33 rfl ?_
          refine x_astore (pc' := 36) (i := 7) K dX6_move_34 (by decide) [1, 2, 3, 4, 5, 6, 7, 0] (L' := [(0, .ref (a 0)), (1, .int _), (2, .int _), (3, .int _), (4, .int _), (5, .int _), (6, .ref (a 101)), (7, .ref (a 101))]) rfl rfl ?_
          refine x_aload (pc' := 38) K dX6_move_36 6 rfl rfl ?_
          refine x_subI (pc' := 41) (wn := fun F' G' => w6 cI cO a (xspl F 46 2 F') (xspl G 68 1 G')) K (mX2_isMissing l D cI cO (xsub a 101)) rfl gX6_move_X2_isMissing rfl dsX2_isMissing ⟨rfl, rfl, ⟨Nat.le_of_ble_eq_true rfl, Nat.le_of_ble_eq_true rfl⟩, Nat.le_of_ble_eq_true rfl, Nat.le_of_ble_eq_true rfl⟩ h 2 0 rfl rfl (xpl33 cI cO a _ _) (fun F' G' => xpr33 cI cO a _ _ F' G') (st := []) rfl rfl (Nat.le_of_ble_eq_true rfl) dX6_move_38 rfl (fun r38 F38 G38 h => ?_)
          obtain ⟨E38, eE38⟩ : ∃ x : xF, x = (xspl F 46 2 F38) := ⟨_, rfl⟩
          obtain ⟨H38, eH38⟩ : ∃ x : xA, x = (xspl G 68 1 G38) := ⟨_, rfl⟩
          refine x_weq (w' := w6 cI cO a E38 H38) (by subst eE38; subst eH38; rfl) ?_
          replace h := h E38 eE38
          replace h := h H38 eH38
          refine x_if_ne (tgt := 52) (pc' := 44) K dX6_move_41 rfl rfl (fun c41 => ?_) (fun c41 => ?_)
          · replace h := h.1 c41
            refine x_aload_n (pc' := 53) K dX6_move_52 0 rfl rfl ?_
            refine x_iconst (pc' := 54) (v := 2) K dX6_move_53 (by decide) rfl ?_
            refine x_callI (pc' := 57) K (mX6_error l D cI cO a _) rfl gX6_move_X6_error rfl dsX6_error ⟨rfl, rfl, ⟨Nat.le_of_ble_eq_true rfl, Nat.le_of_ble_eq_true rfl⟩, Nat.le_of_ble_eq_true rfl, Nat.le_of_ble_eq_true rfl⟩ h 6 0 rfl rfl (st := []) rfl rfl (Nat.le_of_ble_eq_true rfl) dX6_move_54 rfl (fun r54 F54 G54 h => ?_)
            exact x_iret (wf := w6 cI cO a) K h dX6_move_57
          · replace h := h.2 c41
            refine x_aload (pc' := 46) K dX6_move_44 7 rfl rfl ?_
            refine x_subI (pc' := 49) (wn := fun F' G' => w6 cI cO a (xspl E38 46 2 F') (xspl H38 68 1 G')) K (mX2_isMissing l D cI cO (xsub a 101)) rfl gX6_move_X2_isMissing rfl dsX2_isMissing ⟨rfl, rfl, ⟨Nat.le_of_ble_eq_true rfl, Nat.le_of_ble_eq_true rfl⟩, Nat.le_of_ble_eq_true rfl, Nat.le_of_ble_eq_true rfl⟩ h 2 0 rfl rfl (xpl33 cI cO a _ _) (fun F' G' => xpr33 cI cO a _ _ F' G') (st := []) rfl rfl (Nat.le_of_ble_eq_true rfl) dX6_move_46 rfl (fun r46 F46 G46 h => ?_)
            obtain ⟨E46, eE46⟩ : ∃ x : xF, x = (xspl E38 46 2 F46) := ⟨_, rfl⟩
            obtain ⟨H46, eH46⟩ : ∃ x : xA, x = (xspl H38 68 1 G46) := ⟨_, rfl⟩
            refine x_weq (w' := w6 cI cO a E46 H46) (by subst eE46; subst eH46; rfl) ?_
            replace h := h E46 eE46
            replace h := h H46 eH46
            refine x_if_eq (tgt := 58) (pc' := 52) K dX6_move_49 rfl rfl (fun c49 => ?_) (fun c49 => ?_)
            · replace h := h.1 c49
              refine x_aload (pc' := 60) K dX6_move_58 6 rfl rfl ?_
              refine xw6_101g_bits (pc' := 63) K hinX6_move_X2 uX6_move_f237 dX6_move_60 rfl ?_
              refine x_aload (pc' := 65) K dX6_move_63 7 rfl rfl ?_
              refine xw6_101g_bits (pc' := 68) K hinX6_move_X2 uX6_move_f237 dX6_move_65 rfl ?_
              refine x_icmp_eq (tgt := 77) (pc' := 71) K dX6_move_68 rfl rfl (fun c68 => ?_) (fun c68 => ?_)
              · replace h := h.1 c68
                refine x_aload (pc' := 79) K dX6_move_77 6 rfl rfl ?_
                refine x_iload_n (pc' := 80) K dX6_move_79 2 rfl rfl ?_
                refine x_iload (pc' := 82) K dX6_move_80 5 rfl rfl ?_
                refine x_subI (pc' := 85) (wn := fun F' G' => w6 cI cO a (xspl E46 46 2 F') (xspl H46 68 1 G')) K (mX2_holdsPart l D cI cO (xsub a 101) _ _) rfl gX6_move_X2_holdsPart rfl dsX2_holdsPart ⟨rfl, rfl, ⟨Nat.le_of_ble_eq_true rfl, Nat.le_of_ble_eq_true rfl⟩, Nat.le_of_ble_eq_true rfl, Nat.le_of_ble_eq_true rfl⟩ h 2 0 rfl rfl (xpl33 cI cO a _ _) (fun F' G' => xpr33 cI cO a _ _ F' G') (st := []) rfl rfl (Nat.le_of_ble_eq_true rfl) dX6_move_82 rfl (fun r82 F82 G82 h => ?_)
                obtain ⟨E82, eE82⟩ : ∃ x : xF, x = (xspl E46 46 2 F82) := ⟨_, rfl⟩
                obtain ⟨H82, eH82⟩ : ∃ x : xA, x = (xspl H46 68 1 G82) := ⟨_, rfl⟩
                refine x_weq (w' := w6 cI cO a E82 H82) (by subst eE82; subst eH82; rfl) ?_
                replace h := h E82 eE82
                replace h := h H82 eH82
                refine x_if_eq (tgt := 100) (pc' := 88) K dX6_move_85 rfl rfl (fun c85 => ?_) (fun c85 => ?_)
                · replace h := h.1 c85
                  refine x_aload_n (pc' := 101) K dX6_move_100 0 rfl rfl ?_
                  refine x_iconst (pc' := 102) (v := 1) K dX6_move_101 (by decide) rfl ?_
                  refine x_callI (pc' := 105) K (mX6_error l D cI cO a _) rfl gX6_move_X6_error rfl dsX6_error ⟨rfl, rfl, ⟨Nat.le_of_ble_eq_true rfl, Nat.le_of_ble_eq_true rfl⟩, Nat.le_of_ble_eq_true rfl, Nat.le_of_ble_eq_true rfl⟩ h 6 0 rfl rfl (st := []) rfl rfl (Nat.le_of_ble_eq_true rfl) dX6_move_102 rfl (fun r102 F102 G102 h => ?_)
                  exact x_iret (wf := w6 cI cO a) K h dX6_move_105
                · replace h := h.2 c85
                  refine x_aload (pc' := 90) K dX6_move_88 7 rfl rfl ?_
                  refine x_iload (pc' := 92) K dX6_move_90 4 rfl rfl ?_
                  refine x_iload (pc' := 94) K dX6_move_92 5 rfl rfl ?_
                  refine x_subI (pc' := 97) (wn := fun F' G' => w6 cI cO a (xspl E82 46 2 F') (xspl H82 68 1 G')) K (mX2_holdsPart l D cI cO (xsub a 101) _ _) rfl gX6_move_X2_holdsPart rfl dsX2_holdsPart ⟨rfl, rfl, ⟨Nat.le_of_ble_eq_true rfl, Nat.le_of_ble_eq_true rfl⟩, Nat.le_of_ble_eq_true rfl, Nat.le_of_ble_eq_true rfl⟩ h 2 0 rfl rfl (xpl33 cI cO a _ _) (fun F' G' => xpr33 cI cO a _ _ F' G') (st := []) rfl rfl (Nat.le_of_ble_eq_true rfl) dX6_move_94 rfl (fun r94 F94 G94 h => ?_)
                  obtain ⟨E94, eE94⟩ : ∃ x : xF, x = (xspl E82 46 2 F94) := ⟨_, rfl⟩
                  obtain ⟨H94, eH94⟩ : ∃ x : xA, x = (xspl H82 68 1 G94) := ⟨_, rfl⟩
                  refine x_weq (w' := w6 cI cO a E94 H94) (by subst eE94; subst eH94; rfl) ?_
                  replace h := h E94 eE94
                  replace h := h H94 eH94
                  refine x_if_ne (tgt := 106) (pc' := 100) K dX6_move_97 rfl rfl (fun c97 => ?_) (fun c97 => ?_)
                  · replace h := h.1 c97
                    refine x_aload (pc' := 108) K dX6_move_106 6 rfl rfl ?_
                    refine xw6_101g_numbers (pc' := 111) K hinX6_move_X2 uX6_move_f243 dX6_move_108 rfl ?_
                    refine x_iload_n (pc' := 112) K dX6_move_111 2 rfl rfl ?_
                    refine x_aload (pc' := 114) K dX6_move_112 7 rfl rfl ?_
                    refine xw6_101g_numbers (pc' := 117) K hinX6_move_X2 uX6_move_f243 dX6_move_114 rfl ?_
                    refine x_iload (pc' := 119) K dX6_move_117 4 rfl rfl ?_
                    refine x_iload (pc' := 121) K dX6_move_119 5 rfl rfl ?_
                    obtain ⟨z121s, h⟩ := h
                    obtain ⟨z121d, h⟩ := h
                    obtain ⟨z121n, h⟩ := h
                    obtain ⟨z121p, h⟩ := h
                    obtain ⟨z121q, h⟩ := h
                    refine x_copy (pc' := 124) (w' := w6 cI cO a E94 (va_up H94 68 (va_cpy (H94 68) (H94 68) x2.toNatClampNeg x4.toNatClampNeg x5.toNatClampNeg))) K uX6_move_m246 uX6_move_cn uX6_move_cs uX6_move_ci 102 102 (f := H94 68) (g := H94 68) (n0 := 24) (n1 := 24) (cA := cI) rfl rfl rfl z121s z121d z121n z121p z121q rfl (by decide +kernel) (by decide +kernel) dX6_move_121 rfl ?_
                    obtain ⟨G121, eG121⟩ : ∃ x : xA, x = va_up H94 68 (va_cpy (H94 68) (H94 68) x2.toNatClampNeg x4.toNatClampNeg x5.toNatClampNeg) := ⟨_, rfl⟩
                    refine x_weq (w' := w6 cI cO a E94 G121) (by subst eG121; rfl) ?_
                    replace h := h G121 eG121
                    refine x_iload (pc' := 126) K dX6_move_124 5 rfl rfl ?_
                    exact x_iret (wf := w6 cI cO a) K h dX6_move_126
                  · replace h := h.2 c97
                    refine x_aload_n (pc' := 101) K dX6_move_100 0 rfl rfl ?_
                    refine x_iconst (pc' := 102) (v := 1) K dX6_move_101 (by decide) rfl ?_
                    refine x_callI (pc' := 105) K (mX6_error l D cI cO a _) rfl gX6_move_X6_error rfl dsX6_error ⟨rfl, rfl, ⟨Nat.le_of_ble_eq_true rfl, Nat.le_of_ble_eq_true rfl⟩, Nat.le_of_ble_eq_true rfl, Nat.le_of_ble_eq_true rfl⟩ h 6 0 rfl rfl (st := []) rfl rfl (Nat.le_of_ble_eq_true rfl) dX6_move_102 rfl (fun r102 F102 G102 h => ?_)
                    exact x_iret (wf := w6 cI cO a) K h dX6_move_105
              · replace h := h.2 c68
                refine x_aload_n (pc' := 72) K dX6_move_71 0 rfl rfl ?_
                refine x_iconst (pc' := 73) (v := 5) K dX6_move_72 (by decide) rfl ?_
                refine x_callI (pc' := 76) K (mX6_error l D cI cO a _) rfl gX6_move_X6_error rfl dsX6_error ⟨rfl, rfl, ⟨Nat.le_of_ble_eq_true rfl, Nat.le_of_ble_eq_true rfl⟩, Nat.le_of_ble_eq_true rfl, Nat.le_of_ble_eq_true rfl⟩ h 6 0 rfl rfl (st := []) rfl rfl (Nat.le_of_ble_eq_true rfl) dX6_move_73 rfl (fun r73 F73 G73 h => ?_)
                exact x_iret (wf := w6 cI cO a) K h dX6_move_76
            · replace h := h.2 c49
              refine x_aload_n (pc' := 53) K dX6_move_52 0 rfl rfl ?_
              refine x_iconst (pc' := 54) (v := 2) K dX6_move_53 (by decide) rfl ?_
              refine x_callI (pc' := 57) K (mX6_error l D cI cO a _) rfl gX6_move_X6_error rfl dsX6_error ⟨rfl, rfl, ⟨Nat.le_of_ble_eq_true rfl, Nat.le_of_ble_eq_true rfl⟩, Nat.le_of_ble_eq_true rfl, Nat.le_of_ble_eq_true rfl⟩ h 6 0 rfl rfl (st := []) rfl rfl (Nat.le_of_ble_eq_true rfl) dX6_move_54 rfl (fun r54 F54 G54 h => ?_)
              exact x_iret (wf := w6 cI cO a) K h dX6_move_57
        · replace h := h.2.2.2 e33
          refine xw6_96q3 (pc' := 34) K i33 e33 dX6_move_33 rfl ?_
          refine x_astore (pc' := 36) (i := 7) K dX6_move_34 (by decide) [1, 2, 3, 4, 5, 6, 7, 0] (L' := [(0, .ref (a 0)), (1, .int _), (2, .int _), (3, .int _), (4, .int _), (5, .int _), (6, .ref (a 101)), (7, .ref (a 103))]) rfl rfl ?_
          refine x_aload (pc' := 38) K dX6_move_36 6 rfl rfl ?_
          refine x_subI (pc' := 41) (wn := fun F' G' => w6 cI cO a (xspl F 46 2 F') (xspl G 68 1 G')) K (mX2_isMissing l D cI cO (xsub a 101)) rfl gX6_move_X2_isMissing rfl dsX2_isMissing ⟨rfl, rfl, ⟨Nat.le_of_ble_eq_true rfl, Nat.le_of_ble_eq_true rfl⟩, Nat.le_of_ble_eq_true rfl, Nat.le_of_ble_eq_true rfl⟩ h 2 0 rfl rfl (xpl33 cI cO a _ _) (fun F' G' => xpr33 cI cO a _ _ F' G') (st := []) rfl rfl (Nat.le_of_ble_eq_true rfl) dX6_move_38 rfl (fun r38 F38 G38 h => ?_)
          obtain ⟨E38, eE38⟩ : ∃ x : xF, x = (xspl F 46 2 F38) := ⟨_, rfl⟩
          obtain ⟨H38, eH38⟩ : ∃ x : xA, x = (xspl G 68 1 G38) := ⟨_, rfl⟩
          refine x_weq (w' := w6 cI cO a E38 H38) (by subst eE38; subst eH38; rfl) ?_
          replace h := h E38 eE38
          replace h := h H38 eH38
          refine x_if_ne (tgt := 52) (pc' := 44) K dX6_move_41 rfl rfl (fun c41 => ?_) (fun c41 => ?_)
          · replace h := h.1 c41
            refine x_aload_n (pc' := 53) K dX6_move_52 0 rfl rfl ?_
            refine x_iconst (pc' := 54) (v := 2) K dX6_move_53 (by decide) rfl ?_
            refine x_callI (pc' := 57) K (mX6_error l D cI cO a _) rfl gX6_move_X6_error rfl dsX6_error ⟨rfl, rfl, ⟨Nat.le_of_ble_eq_true rfl, Nat.le_of_ble_eq_true rfl⟩, Nat.le_of_ble_eq_true rfl, Nat.le_of_ble_eq_true rfl⟩ h 6 0 rfl rfl (st := []) rfl rfl (Nat.le_of_ble_eq_true rfl) dX6_move_54 rfl (fun r54 F54 G54 h => ?_)
            exact x_iret (wf := w6 cI cO a) K h dX6_move_57
          · replace h := h.2 c41
            refine x_aload (pc' := 46) K dX6_move_44 7 rfl rfl ?_
            refine x_subI (pc' := 49) (wn := fun F' G' => w6 cI cO a (xspl E38 48 2 F') (xspl H38 69 1 G')) K (mX2_isMissing l D cI cO (xsub a 103)) rfl gX6_move_X2_isMissing rfl dsX2_isMissing ⟨rfl, rfl, ⟨Nat.le_of_ble_eq_true rfl, Nat.le_of_ble_eq_true rfl⟩, Nat.le_of_ble_eq_true rfl, Nat.le_of_ble_eq_true rfl⟩ h 2 0 rfl rfl (xpl34 cI cO a _ _) (fun F' G' => xpr34 cI cO a _ _ F' G') (st := []) rfl rfl (Nat.le_of_ble_eq_true rfl) dX6_move_46 rfl (fun r46 F46 G46 h => ?_)
            obtain ⟨E46, eE46⟩ : ∃ x : xF, x = (xspl E38 48 2 F46) := ⟨_, rfl⟩
            obtain ⟨H46, eH46⟩ : ∃ x : xA, x = (xspl H38 69 1 G46) := ⟨_, rfl⟩
            refine x_weq (w' := w6 cI cO a E46 H46) (by subst eE46; subst eH46; rfl) ?_
            replace h := h E46 eE46
            replace h := h H46 eH46
            refine x_if_eq (tgt := 58) (pc' := 52) K dX6_move_49 rfl rfl (fun c49 => ?_) (fun c49 => ?_)
            · replace h := h.1 c49
              refine x_aload (pc' := 60) K dX6_move_58 6 rfl rfl ?_
              refine xw6_101g_bits (pc' := 63) K hinX6_move_X2 uX6_move_f237 dX6_move_60 rfl ?_
              refine x_aload (pc' := 65) K dX6_move_63 7 rfl rfl ?_
              refine xw6_103g_bits (pc' := 68) K hinX6_move_X2 uX6_move_f237 dX6_move_65 rfl ?_
              refine x_icmp_eq (tgt := 77) (pc' := 71) K dX6_move_68 rfl rfl (fun c68 => ?_) (fun c68 => ?_)
              · replace h := h.1 c68
                refine x_aload (pc' := 79) K dX6_move_77 6 rfl rfl ?_
                refine x_iload_n (pc' := 80) K dX6_move_79 2 rfl rfl ?_
                refine x_iload (pc' := 82) K dX6_move_80 5 rfl rfl ?_
                refine x_subI (pc' := 85) (wn := fun F' G' => w6 cI cO a (xspl E46 46 2 F') (xspl H46 68 1 G')) K (mX2_holdsPart l D cI cO (xsub a 101) _ _) rfl gX6_move_X2_holdsPart rfl dsX2_holdsPart ⟨rfl, rfl, ⟨Nat.le_of_ble_eq_true rfl, Nat.le_of_ble_eq_true rfl⟩, Nat.le_of_ble_eq_true rfl, Nat.le_of_ble_eq_true rfl⟩ h 2 0 rfl rfl (xpl33 cI cO a _ _) (fun F' G' => xpr33 cI cO a _ _ F' G') (st := []) rfl rfl (Nat.le_of_ble_eq_true rfl) dX6_move_82 rfl (fun r82 F82 G82 h => ?_)
                obtain ⟨E82, eE82⟩ : ∃ x : xF, x = (xspl E46 46 2 F82) := ⟨_, rfl⟩
                obtain ⟨H82, eH82⟩ : ∃ x : xA, x = (xspl H46 68 1 G82) := ⟨_, rfl⟩
                refine x_weq (w' := w6 cI cO a E82 H82) (by subst eE82; subst eH82; rfl) ?_
                replace h := h E82 eE82
                replace h := h H82 eH82
                refine x_if_eq (tgt := 100) (pc' := 88) K dX6_move_85 rfl rfl (fun c85 => ?_) (fun c85 => ?_)
                · replace h := h.1 c85
                  refine x_aload_n (pc' := 101) K dX6_move_100 0 rfl rfl ?_
                  refine x_iconst (pc' := 102) (v := 1) K dX6_move_101 (by decide) rfl ?_
                  refine x_callI (pc' := 105) K (mX6_error l D cI cO a _) rfl gX6_move_X6_error rfl dsX6_error ⟨rfl, rfl, ⟨Nat.le_of_ble_eq_true rfl, Nat.le_of_ble_eq_true rfl⟩, Nat.le_of_ble_eq_true rfl, Nat.le_of_ble_eq_true rfl⟩ h 6 0 rfl rfl (st := []) rfl rfl (Nat.le_of_ble_eq_true rfl) dX6_move_102 rfl (fun r102 F102 G102 h => ?_)
                  exact x_iret (wf := w6 cI cO a) K h dX6_move_105
                · replace h := h.2 c85
                  refine x_aload (pc' := 90) K dX6_move_88 7 rfl rfl ?_
                  refine x_iload (pc' := 92) K dX6_move_90 4 rfl rfl ?_
                  refine x_iload (pc' := 94) K dX6_move_92 5 rfl rfl ?_
                  refine x_subI (pc' := 97) (wn := fun F' G' => w6 cI cO a (xspl E82 48 2 F') (xspl H82 69 1 G')) K (mX2_holdsPart l D cI cO (xsub a 103) _ _) rfl gX6_move_X2_holdsPart rfl dsX2_holdsPart ⟨rfl, rfl, ⟨Nat.le_of_ble_eq_true rfl, Nat.le_of_ble_eq_true rfl⟩, Nat.le_of_ble_eq_true rfl, Nat.le_of_ble_eq_true rfl⟩ h 2 0 rfl rfl (xpl34 cI cO a _ _) (fun F' G' => xpr34 cI cO a _ _ F' G') (st := []) rfl rfl (Nat.le_of_ble_eq_true rfl) dX6_move_94 rfl (fun r94 F94 G94 h => ?_)
                  obtain ⟨E94, eE94⟩ : ∃ x : xF, x = (xspl E82 48 2 F94) := ⟨_, rfl⟩
                  obtain ⟨H94, eH94⟩ : ∃ x : xA, x = (xspl H82 69 1 G94) := ⟨_, rfl⟩
                  refine x_weq (w' := w6 cI cO a E94 H94) (by subst eE94; subst eH94; rfl) ?_
                  replace h := h E94 eE94
                  replace h := h H94 eH94
                  refine x_if_ne (tgt := 106) (pc' := 100) K dX6_move_97 rfl rfl (fun c97 => ?_) (fun c97 => ?_)
                  · replace h := h.1 c97
                    refine x_aload (pc' := 108) K dX6_move_106 6 rfl rfl ?_
                    refine xw6_101g_numbers (pc' := 111) K hinX6_move_X2 uX6_move_f243 dX6_move_108 rfl ?_
                    refine x_iload_n (pc' := 112) K dX6_move_111 2 rfl rfl ?_
                    refine x_aload (pc' := 114) K dX6_move_112 7 rfl rfl ?_
                    refine xw6_103g_numbers (pc' := 117) K hinX6_move_X2 uX6_move_f243 dX6_move_114 rfl ?_
                    refine x_iload (pc' := 119) K dX6_move_117 4 rfl rfl ?_
                    refine x_iload (pc' := 121) K dX6_move_119 5 rfl rfl ?_
                    obtain ⟨z121s, h⟩ := h
                    obtain ⟨z121d, h⟩ := h
                    obtain ⟨z121n, h⟩ := h
                    obtain ⟨z121p, h⟩ := h
                    obtain ⟨z121q, h⟩ := h
                    refine x_copy (pc' := 124) (w' := w6 cI cO a E94 (va_up H94 69 (va_cpy (H94 68) (H94 69) x2.toNatClampNeg x4.toNatClampNeg x5.toNatClampNeg))) K uX6_move_m246 uX6_move_cn uX6_move_cs uX6_move_ci 102 104 (f := H94 68) (g := H94 69) (n0 := 24) (n1 := 24) (cA := cI) rfl rfl rfl z121s z121d z121n z121p z121q rfl (by decide +kernel) (by decide +kernel) dX6_move_121 rfl ?_
                    obtain ⟨G121, eG121⟩ : ∃ x : xA, x = va_up H94 69 (va_cpy (H94 68) (H94 69) x2.toNatClampNeg x4.toNatClampNeg x5.toNatClampNeg) := ⟨_, rfl⟩
                    refine x_weq (w' := w6 cI cO a E94 G121) (by subst eG121; rfl) ?_
                    replace h := h G121 eG121
                    refine x_iload (pc' := 126) K dX6_move_124 5 rfl rfl ?_
                    exact x_iret (wf := w6 cI cO a) K h dX6_move_126
                  · replace h := h.2 c97
                    refine x_aload_n (pc' := 101) K dX6_move_100 0 rfl rfl ?_
                    refine x_iconst (pc' := 102) (v := 1) K dX6_move_101 (by decide) rfl ?_
                    refine x_callI (pc' := 105) K (mX6_error l D cI cO a _) rfl gX6_move_X6_error rfl dsX6_error ⟨rfl, rfl, ⟨Nat.le_of_ble_eq_true rfl, Nat.le_of_ble_eq_true rfl⟩, Nat.le_of_ble_eq_true rfl, Nat.le_of_ble_eq_true rfl⟩ h 6 0 rfl rfl (st := []) rfl rfl (Nat.le_of_ble_eq_true rfl) dX6_move_102 rfl (fun r102 F102 G102 h => ?_)
                    exact x_iret (wf := w6 cI cO a) K h dX6_move_105
              · replace h := h.2 c68
                refine x_aload_n (pc' := 72) K dX6_move_71 0 rfl rfl ?_
                refine x_iconst (pc' := 73) (v := 5) K dX6_move_72 (by decide) rfl ?_
                refine x_callI (pc' := 76) K (mX6_error l D cI cO a _) rfl gX6_move_X6_error rfl dsX6_error ⟨rfl, rfl, ⟨Nat.le_of_ble_eq_true rfl, Nat.le_of_ble_eq_true rfl⟩, Nat.le_of_ble_eq_true rfl, Nat.le_of_ble_eq_true rfl⟩ h 6 0 rfl rfl (st := []) rfl rfl (Nat.le_of_ble_eq_true rfl) dX6_move_73 rfl (fun r73 F73 G73 h => ?_)
                exact x_iret (wf := w6 cI cO a) K h dX6_move_76
            · replace h := h.2 c49
              refine x_aload_n (pc' := 53) K dX6_move_52 0 rfl rfl ?_
              refine x_iconst (pc' := 54) (v := 2) K dX6_move_53 (by decide) rfl ?_
              refine x_callI (pc' := 57) K (mX6_error l D cI cO a _) rfl gX6_move_X6_error rfl dsX6_error ⟨rfl, rfl, ⟨Nat.le_of_ble_eq_true rfl, Nat.le_of_ble_eq_true rfl⟩, Nat.le_of_ble_eq_true rfl, Nat.le_of_ble_eq_true rfl⟩ h 6 0 rfl rfl (st := []) rfl rfl (Nat.le_of_ble_eq_true rfl) dX6_move_54 rfl (fun r54 F54 G54 h => ?_)
              exact x_iret (wf := w6 cI cO a) K h dX6_move_57
      · replace h := h.2.2.2 e25
        refine xw6_96q3 (pc' := 26) K i25 e25 dX6_move_25 rfl ?_
        refine x_astore (pc' := 28) (i := 6) K dX6_move_26 (by decide) [1, 2, 3, 4, 5, 6, 0] (L' := [(0, .ref (a 0)), (1, .int _), (2, .int _), (3, .int _), (4, .int _), (5, .int _), (6, .ref (a 103))]) rfl rfl ?_
        refine x_aload_n (pc' := 29) K dX6_move_28 0 rfl rfl ?_
        refine xw6_0g_sheets (pc' := 32) K hinX6_move_X6 uX6_move_f70 dX6_move_29 rfl ?_
        refine x_iload_n (pc' := 33) K dX6_move_32 3 rfl rfl ?_
        obtain ⟨i33, h⟩ := h
        rcases xin4 i33 with e33 | e33 | e33 | e33
        · replace h := h.1 e33
          refine xw6_96q0 (pc' := 34) K i33 e33 dX6_move_33 rfl ?_
          refine x_astore (pc' := 36) (i := 7) K dX6_move_34 (by decide) [1, 2, 3, 4, 5, 6, 7, 0] (L' := [(0, .ref (a 0)), (1, .int _), (2, .int _), (3, .int _), (4, .int _), (5, .int _), (6, .ref (a 103)), (7, .ref (a 97))]) rfl rfl ?_
          refine x_aload (pc' := 38) K dX6_move_36 6 rfl rfl ?_
          refine x_subI (pc' := 41) (wn := fun F' G' => w6 cI cO a (xspl F 48 2 F') (xspl G 69 1 G')) K (mX2_isMissing l D cI cO (xsub a 103)) rfl gX6_move_X2_isMissing rfl dsX2_isMissing ⟨rfl, rfl, ⟨Nat.le_of_ble_eq_true rfl, Nat.le_of_ble_eq_true rfl⟩, Nat.le_of_ble_eq_true rfl, Nat.le_of_ble_eq_true rfl⟩ h 2 0 rfl rfl (xpl34 cI cO a _ _) (fun F' G' => xpr34 cI cO a _ _ F' G') (st := []) rfl rfl (Nat.le_of_ble_eq_true rfl) dX6_move_38 rfl (fun r38 F38 G38 h => ?_)
          obtain ⟨E38, eE38⟩ : ∃ x : xF, x = (xspl F 48 2 F38) := ⟨_, rfl⟩
          obtain ⟨H38, eH38⟩ : ∃ x : xA, x = (xspl G 69 1 G38) := ⟨_, rfl⟩
          refine x_weq (w' := w6 cI cO a E38 H38) (by subst eE38; subst eH38; rfl) ?_
          replace h := h E38 eE38
          replace h := h H38 eH38
          refine x_if_ne (tgt := 52) (pc' := 44) K dX6_move_41 rfl rfl (fun c41 => ?_) (fun c41 => ?_)
          · replace h := h.1 c41
            refine x_aload_n (pc' := 53) K dX6_move_52 0 rfl rfl ?_
            refine x_iconst (pc' := 54) (v := 2) K dX6_move_53 (by decide) rfl ?_
            refine x_callI (pc' := 57) K (mX6_error l D cI cO a _) rfl gX6_move_X6_error rfl dsX6_error ⟨rfl, rfl, ⟨Nat.le_of_ble_eq_true rfl, Nat.le_of_ble_eq_true rfl⟩, Nat.le_of_ble_eq_true rfl, Nat.le_of_ble_eq_true rfl⟩ h 6 0 rfl rfl (st := []) rfl rfl (Nat.le_of_ble_eq_true rfl) dX6_move_54 rfl (fun r54 F54 G54 h => ?_)
            exact x_iret (wf := w6 cI cO a) K h dX6_move_57
          · replace h := h.2 c41
            refine x_aload (pc' := 46) K dX6_move_44 7 rfl rfl ?_
            refine x_subI (pc' := 49) (wn := fun F' G' => w6 cI cO a (xspl E38 42 2 F') (xspl H38 66 1 G')) K (mX2_isMissing l D cI cO (xsub a 97)) rfl gX6_move_X2_isMissing rfl dsX2_isMissing ⟨rfl, rfl, ⟨Nat.le_of_ble_eq_true rfl, Nat.le_of_ble_eq_true rfl⟩, Nat.le_of_ble_eq_true rfl, Nat.le_of_ble_eq_true rfl⟩ h 2 0 rfl rfl (xpl31 cI cO a _ _) (fun F' G' => xpr31 cI cO a _ _ F' G') (st := []) rfl rfl (Nat.le_of_ble_eq_true rfl) dX6_move_46 rfl (fun r46 F46 G46 h => ?_)
            obtain ⟨E46, eE46⟩ : ∃ x : xF, x = (xspl E38 42 2 F46) := ⟨_, rfl⟩
            obtain ⟨H46, eH46⟩ : ∃ x : xA, x = (xspl H38 66 1 G46) := ⟨_, rfl⟩
            refine x_weq (w' := w6 cI cO a E46 H46) (by subst eE46; subst eH46; rfl) ?_
            replace h := h E46 eE46
            replace h := h H46 eH46
            refine x_if_eq (tgt := 58) (pc' := 52) K dX6_move_49 rfl rfl (fun c49 => ?_) (fun c49 => ?_)
            · replace h := h.1 c49
              refine x_aload (pc' := 60) K dX6_move_58 6 rfl rfl ?_
              refine xw6_103g_bits (pc' := 63) K hinX6_move_X2 uX6_move_f237 dX6_move_60 rfl ?_
              refine x_aload (pc' := 65) K dX6_move_63 7 rfl rfl ?_
              refine xw6_97g_bits (pc' := 68) K hinX6_move_X2 uX6_move_f237 dX6_move_65 rfl ?_
              refine x_icmp_eq (tgt := 77) (pc' := 71) K dX6_move_68 rfl rfl (fun c68 => ?_) (fun c68 => ?_)
              · replace h := h.1 c68
                refine x_aload (pc' := 79) K dX6_move_77 6 rfl rfl ?_
                refine x_iload_n (pc' := 80) K dX6_move_79 2 rfl rfl ?_
                refine x_iload (pc' := 82) K dX6_move_80 5 rfl rfl ?_
                refine x_subI (pc' := 85) (wn := fun F' G' => w6 cI cO a (xspl E46 48 2 F') (xspl H46 69 1 G')) K (mX2_holdsPart l D cI cO (xsub a 103) _ _) rfl gX6_move_X2_holdsPart rfl dsX2_holdsPart ⟨rfl, rfl, ⟨Nat.le_of_ble_eq_true rfl, Nat.le_of_ble_eq_true rfl⟩, Nat.le_of_ble_eq_true rfl, Nat.le_of_ble_eq_true rfl⟩ h 2 0 rfl rfl (xpl34 cI cO a _ _) (fun F' G' => xpr34 cI cO a _ _ F' G') (st := []) rfl rfl (Nat.le_of_ble_eq_true rfl) dX6_move_82 rfl (fun r82 F82 G82 h => ?_)
                obtain ⟨E82, eE82⟩ : ∃ x : xF, x = (xspl E46 48 2 F82) := ⟨_, rfl⟩
                obtain ⟨H82, eH82⟩ : ∃ x : xA, x = (xspl H46 69 1 G82) := ⟨_, rfl⟩
                refine x_weq (w' := w6 cI cO a E82 H82) (by subst eE82; subst eH82; rfl) ?_
                replace h := h E82 eE82
                replace h := h H82 eH82
                refine x_if_eq (tgt := 100) (pc' := 88) K dX6_move_85 rfl rfl (fun c85 => ?_) (fun c85 => ?_)
                · replace h := h.1 c85
                  refine x_aload_n (pc' := 101) K dX6_move_100 0 rfl rfl ?_
                  refine x_iconst (pc' := 102) (v := 1) K dX6_move_101 (by decide) rfl ?_
                  refine x_callI (pc' := 105) K (mX6_error l D cI cO a _) rfl gX6_move_X6_error rfl dsX6_error ⟨rfl, rfl, ⟨Nat.le_of_ble_eq_true rfl, Nat.le_of_ble_eq_true rfl⟩, Nat.le_of_ble_eq_true rfl, Nat.le_of_ble_eq_true rfl⟩ h 6 0 rfl rfl (st := []) rfl rfl (Nat.le_of_ble_eq_true rfl) dX6_move_102 rfl (fun r102 F102 G102 h => ?_)
                  exact x_iret (wf := w6 cI cO a) K h dX6_move_105
                · replace h := h.2 c85
                  refine x_aload (pc' := 90) K dX6_move_88 7 rfl rfl ?_
                  refine x_iload (pc' := 92) K dX6_move_90 4 rfl rfl ?_
                  refine x_iload (pc' := 94) K dX6_move_92 5 rfl rfl ?_
                  refine x_subI (pc' := 97) (wn := fun F' G' => w6 cI cO a (xspl E82 42 2 F') (xspl H82 66 1 G')) K (mX2_holdsPart l D cI cO (xsub a 97) _ _) rfl gX6_move_X2_holdsPart rfl dsX2_holdsPart ⟨rfl, rfl, ⟨Nat.le_of_ble_eq_true rfl, Nat.le_of_ble_eq_true rfl⟩, Nat.le_of_ble_eq_true rfl, Nat.le_of_ble_eq_true rfl⟩ h 2 0 rfl rfl (xpl31 cI cO a _ _) (fun F' G' => xpr31 cI cO a _ _ F' G') (st := []) rfl rfl (Nat.le_of_ble_eq_true rfl) dX6_move_94 rfl (fun r94 F94 G94 h => ?_)
                  obtain ⟨E94, eE94⟩ : ∃ x : xF, x = (xspl E82 42 2 F94) := ⟨_, rfl⟩
                  obtain ⟨H94, eH94⟩ : ∃ x : xA, x = (xspl H82 66 1 G94) := ⟨_, rfl⟩
                  refine x_weq (w' := w6 cI cO a E94 H94) (by subst eE94; subst eH94; rfl) ?_
                  replace h := h E94 eE94
                  replace h := h H94 eH94
                  refine x_if_ne (tgt := 106) (pc' := 100) K dX6_move_97 rfl rfl (fun c97 => ?_) (fun c97 => ?_)
                  · replace h := h.1 c97
                    refine x_aload (pc' := 108) K dX6_move_106 6 rfl rfl ?_
                    refine xw6_103g_numbers (pc' := 111) K hinX6_move_X2 uX6_move_f243 dX6_move_108 rfl ?_
                    refine x_iload_n (pc' := 112) K dX6_move_111 2 rfl rfl ?_
                    refine x_aload (pc' := 114) K dX6_move_112 7 rfl rfl ?_
                    refine xw6_97g_numbers (pc' := 117) K hinX6_move_X2 uX6_move_f243 dX6_move_114 rfl ?_
                    refine x_iload (pc' := 119) K dX6_move_117 4 rfl rfl ?_
                    refine x_iload (pc' := 121) K dX6_move_119 5 rfl rfl ?_
                    obtain ⟨z121s, h⟩ := h
                    obtain ⟨z121d, h⟩ := h
                    obtain ⟨z121n, h⟩ := h
                    obtain ⟨z121p, h⟩ := h
                    obtain ⟨z121q, h⟩ := h
                    refine x_copy (pc' := 124) (w' := w6 cI cO a E94 (va_up H94 66 (va_cpy (H94 69) (H94 66) x2.toNatClampNeg x4.toNatClampNeg x5.toNatClampNeg))) K uX6_move_m246 uX6_move_cn uX6_move_cs uX6_move_ci 104 98 (f := H94 69) (g := H94 66) (n0 := 24) (n1 := 24) (cA := cI) rfl rfl rfl z121s z121d z121n z121p z121q rfl (by decide +kernel) (by decide +kernel) dX6_move_121 rfl ?_
                    obtain ⟨G121, eG121⟩ : ∃ x : xA, x = va_up H94 66 (va_cpy (H94 69) (H94 66) x2.toNatClampNeg x4.toNatClampNeg x5.toNatClampNeg) := ⟨_, rfl⟩
                    refine x_weq (w' := w6 cI cO a E94 G121) (by subst eG121; rfl) ?_
                    replace h := h G121 eG121
                    refine x_iload (pc' := 126) K dX6_move_124 5 rfl rfl ?_
                    exact x_iret (wf := w6 cI cO a) K h dX6_move_126
                  · replace h := h.2 c97
                    refine x_aload_n (pc' := 101) K dX6_move_100 0 rfl rfl ?_
                    refine x_iconst (pc' := 102) (v := 1) K dX6_move_101 (by decide) rfl ?_
                    refine x_callI (pc' := 105) K (mX6_error l D cI cO a _) rfl gX6_move_X6_error rfl dsX6_error ⟨rfl, rfl, ⟨Nat.le_of_ble_eq_true rfl, Nat.le_of_ble_eq_true rfl⟩, Nat.le_of_ble_eq_true rfl, Nat.le_of_ble_eq_true rfl⟩ h 6 0 rfl rfl (st := []) rfl rfl (Nat.le_of_ble_eq_true rfl) dX6_move_102 rfl (fun r102 F102 G102 h => ?_)
                    exact x_iret (wf := w6 cI cO a) K h dX6_move_105
              · replace h := h.2 c68
                refine x_aload_n (pc' := 72) K dX6_move_71 0 rfl rfl ?_
                refine x_iconst (pc' := 73) (v := 5) K dX6_move_72 (by decide) rfl ?_
                refine x_callI (pc' := 76) K (mX6_error l D cI cO a _) rfl gX6_move_X6_error rfl dsX6_error ⟨rfl, rfl, ⟨Nat.le_of_ble_eq_true rfl, Nat.le_of_ble_eq_true rfl⟩, Nat.le_of_ble_eq_true rfl, Nat.le_of_ble_eq_true rfl⟩ h 6 0 rfl rfl (st := []) rfl rfl (Nat.le_of_ble_eq_true rfl) dX6_move_73 rfl (fun r73 F73 G73 h => ?_)
                exact x_iret (wf := w6 cI cO a) K h dX6_move_76
            · replace h := h.2 c49
              refine x_aload_n (pc' := 53) K dX6_move_52 0 rfl rfl ?_
              refine x_iconst (pc' := 54) (v := 2) K dX6_move_53 (by decide) rfl ?_
              refine x_callI (pc' := 57) K (mX6_error l D cI cO a _) rfl gX6_move_X6_error rfl dsX6_error ⟨rfl, rfl, ⟨Nat.le_of_ble_eq_true rfl, Nat.le_of_ble_eq_true rfl⟩, Nat.le_of_ble_eq_true rfl, Nat.le_of_ble_eq_true rfl⟩ h 6 0 rfl rfl (st := []) rfl rfl (Nat.le_of_ble_eq_true rfl) dX6_move_54 rfl (fun r54 F54 G54 h => ?_)
              exact x_iret (wf := w6 cI cO a) K h dX6_move_57
        · replace h := h.2.1 e33
          refine xw6_96q1 (pc' := 34) K i33 e33 dX6_move_33 rfl ?_
          refine x_astore (pc' := 36) (i := 7) K dX6_move_34 (by decide) [1, 2, 3, 4, 5, 6, 7, 0] (L' := [(0, .ref (a 0)), (1, .int _), (2, .int _), (3, .int _), (4, .int _), (5, .int _), (6, .ref (a 103)), (7, .ref (a 99))]) rfl rfl ?_
          refine x_aload (pc' := 38) K dX6_move_36 6 rfl rfl ?_
          refine x_subI (pc' := 41) (wn := fun F' G' => w6 cI cO a (xspl F 48 2 F') (xspl G 69 1 G')) K (mX2_isMissing l D cI cO (xsub a 103)) rfl gX6_move_X2_isMissing rfl dsX2_isMissing ⟨rfl, rfl, ⟨Nat.le_of_ble_eq_true rfl, Nat.le_of_ble_eq_true rfl⟩, Nat.le_of_ble_eq_true rfl, Nat.le_of_ble_eq_true rfl⟩ h 2 0 rfl rfl (xpl34 cI cO a _ _) (fun F' G' => xpr34 cI cO a _ _ F' G') (st := []) rfl rfl (Nat.le_of_ble_eq_true rfl) dX6_move_38 rfl (fun r38 F38 G38 h => ?_)
          obtain ⟨E38, eE38⟩ : ∃ x : xF, x = (xspl F 48 2 F38) := ⟨_, rfl⟩
          obtain ⟨H38, eH38⟩ : ∃ x : xA, x = (xspl G 69 1 G38) := ⟨_, rfl⟩
          refine x_weq (w' := w6 cI cO a E38 H38) (by subst eE38; subst eH38; rfl) ?_
          replace h := h E38 eE38
          replace h := h H38 eH38
          refine x_if_ne (tgt := 52) (pc' := 44) K dX6_move_41 rfl rfl (fun c41 => ?_) (fun c41 => ?_)
          · replace h := h.1 c41
            refine x_aload_n (pc' := 53) K dX6_move_52 0 rfl rfl ?_
            refine x_iconst (pc' := 54) (v := 2) K dX6_move_53 (by decide) rfl ?_
            refine x_callI (pc' := 57) K (mX6_error l D cI cO a _) rfl gX6_move_X6_error rfl dsX6_error ⟨rfl, rfl, ⟨Nat.le_of_ble_eq_true rfl, Nat.le_of_ble_eq_true rfl⟩, Nat.le_of_ble_eq_true rfl, Nat.le_of_ble_eq_true rfl⟩ h 6 0 rfl rfl (st := []) rfl rfl (Nat.le_of_ble_eq_true rfl) dX6_move_54 rfl (fun r54 F54 G54 h => ?_)
            exact x_iret (wf := w6 cI cO a) K h dX6_move_57
          · replace h := h.2 c41
            refine x_aload (pc' := 46) K dX6_move_44 7 rfl rfl ?_
            refine x_subI (pc' := 49) (wn := fun F' G' => w6 cI cO a (xspl E38 44 2 F') (xspl H38 67 1 G')) K (mX2_isMissing l D cI cO (xsub a 99)) rfl gX6_move_X2_isMissing rfl dsX2_isMissing ⟨rfl, rfl, ⟨Nat.le_of_ble_eq_true rfl, Nat.le_of_ble_eq_true rfl⟩, Nat.le_of_ble_eq_true rfl, Nat.le_of_ble_eq_true rfl⟩ h 2 0 rfl rfl (xpl32 cI cO a _ _) (fun F' G' => xpr32 cI cO a _ _ F' G') (st := []) rfl rfl (Nat.le_of_ble_eq_true rfl) dX6_move_46 rfl (fun r46 F46 G46 h => ?_)
            obtain ⟨E46, eE46⟩ : ∃ x : xF, x = (xspl E38 44 2 F46) := ⟨_, rfl⟩
            obtain ⟨H46, eH46⟩ : ∃ x : xA, x = (xspl H38 67 1 G46) := ⟨_, rfl⟩
            refine x_weq (w' := w6 cI cO a E46 H46) (by subst eE46; subst eH46; rfl) ?_
            replace h := h E46 eE46
            replace h := h H46 eH46
            refine x_if_eq (tgt := 58) (pc' := 52) K dX6_move_49 rfl rfl (fun c49 => ?_) (fun c49 => ?_)
            · replace h := h.1 c49
              refine x_aload (pc' := 60) K dX6_move_58 6 rfl rfl ?_
              refine xw6_103g_bits (pc' := 63) K hinX6_move_X2 uX6_move_f237 dX6_move_60 rfl ?_
              refine x_aload (pc' := 65) K dX6_move_63 7 rfl rfl ?_
              refine xw6_99g_bits (pc' := 68) K hinX6_move_X2 uX6_move_f237 dX6_move_65 rfl ?_
              refine x_icmp_eq (tgt := 77) (pc' := 71) K dX6_move_68 rfl rfl (fun c68 => ?_) (fun c68 => ?_)
              · replace h := h.1 c68
                refine x_aload (pc' := 79) K dX6_move_77 6 rfl rfl ?_
                refine x_iload_n (pc' := 80) K dX6_move_79 2 rfl rfl ?_
                refine x_iload (pc' := 82) K dX6_move_80 5 rfl rfl ?_
                refine x_subI (pc' := 85) (wn := fun F' G' => w6 cI cO a (xspl E46 48 2 F') (xspl H46 69 1 G')) K (mX2_holdsPart l D cI cO (xsub a 103) _ _) rfl gX6_move_X2_holdsPart rfl dsX2_holdsPart ⟨rfl, rfl, ⟨Nat.le_of_ble_eq_true rfl, Nat.le_of_ble_eq_true rfl⟩, Nat.le_of_ble_eq_true rfl, Nat.le_of_ble_eq_true rfl⟩ h 2 0 rfl rfl (xpl34 cI cO a _ _) (fun F' G' => xpr34 cI cO a _ _ F' G') (st := []) rfl rfl (Nat.le_of_ble_eq_true rfl) dX6_move_82 rfl (fun r82 F82 G82 h => ?_)
                obtain ⟨E82, eE82⟩ : ∃ x : xF, x = (xspl E46 48 2 F82) := ⟨_, rfl⟩
                obtain ⟨H82, eH82⟩ : ∃ x : xA, x = (xspl H46 69 1 G82) := ⟨_, rfl⟩
                refine x_weq (w' := w6 cI cO a E82 H82) (by subst eE82; subst eH82; rfl) ?_
                replace h := h E82 eE82
                replace h := h H82 eH82
                refine x_if_eq (tgt := 100) (pc' := 88) K dX6_move_85 rfl rfl (fun c85 => ?_) (fun c85 => ?_)
                · replace h := h.1 c85
                  refine x_aload_n (pc' := 101) K dX6_move_100 0 rfl rfl ?_
                  refine x_iconst (pc' := 102) (v := 1) K dX6_move_101 (by decide) rfl ?_
                  refine x_callI (pc' := 105) K (mX6_error l D cI cO a _) rfl gX6_move_X6_error rfl dsX6_error ⟨rfl, rfl, ⟨Nat.le_of_ble_eq_true rfl, Nat.le_of_ble_eq_true rfl⟩, Nat.le_of_ble_eq_true rfl, Nat.le_of_ble_eq_true rfl⟩ h 6 0 rfl rfl (st := []) rfl rfl (Nat.le_of_ble_eq_true rfl) dX6_move_102 rfl (fun r102 F102 G102 h => ?_)
                  exact x_iret (wf := w6 cI cO a) K h dX6_move_105
                · replace h := h.2 c85
                  refine x_aload (pc' := 90) K dX6_move_88 7 rfl rfl ?_
                  refine x_iload (pc' := 92) K dX6_move_90 4 rfl rfl ?_
                  refine x_iload (pc' := 94) K dX6_move_92 5 rfl rfl ?_
                  refine x_subI (pc' := 97) (wn := fun F' G' => w6 cI cO a (xspl E82 44 2 F') (xspl H82 67 1 G')) K (mX2_holdsPart l D cI cO (xsub a 99) _ _) rfl gX6_move_X2_holdsPart rfl dsX2_holdsPart ⟨rfl, rfl, ⟨Nat.le_of_ble_eq_true rfl, Nat.le_of_ble_eq_true rfl⟩, Nat.le_of_ble_eq_true rfl, Nat.le_of_ble_eq_true rfl⟩ h 2 0 rfl rfl (xpl32 cI cO a _ _) (fun F' G' => xpr32 cI cO a _ _ F' G') (st := []) rfl rfl (Nat.le_of_ble_eq_true rfl) dX6_move_94 rfl (fun r94 F94 G94 h => ?_)
                  obtain ⟨E94, eE94⟩ : ∃ x : xF, x = (xspl E82 44 2 F94) := ⟨_, rfl⟩
                  obtain ⟨H94, eH94⟩ : ∃ x : xA, x = (xspl H82 67 1 G94) := ⟨_, rfl⟩
                  refine x_weq (w' := w6 cI cO a E94 H94) (by subst eE94; subst eH94; rfl) ?_
                  replace h := h E94 eE94
                  replace h := h H94 eH94
                  refine x_if_ne (tgt := 106) (pc' := 100) K dX6_move_97 rfl rfl (fun c97 => ?_) (fun c97 => ?_)
                  · replace h := h.1 c97
                    refine x_aload (pc' := 108) K dX6_move_106 6 rfl rfl ?_
                    refine xw6_103g_numbers (pc' := 111) K hinX6_move_X2 uX6_move_f243 dX6_move_108 rfl ?_
                    refine x_iload_n (pc' := 112) K dX6_move_111 2 rfl rfl ?_
                    refine x_aload (pc' := 114) K dX6_move_112 7 rfl rfl ?_
                    refine xw6_99g_numbers (pc' := 117) K hinX6_move_X2 uX6_move_f243 dX6_move_114 rfl ?_
                    refine x_iload (pc' := 119) K dX6_move_117 4 rfl rfl ?_
                    refine x_iload (pc' := 121) K dX6_move_119 5 rfl rfl ?_
                    obtain ⟨z121s, h⟩ := h
                    obtain ⟨z121d, h⟩ := h
                    obtain ⟨z121n, h⟩ := h
                    obtain ⟨z121p, h⟩ := h
                    obtain ⟨z121q, h⟩ := h
                    refine x_copy (pc' := 124) (w' := w6 cI cO a E94 (va_up H94 67 (va_cpy (H94 69) (H94 67) x2.toNatClampNeg x4.toNatClampNeg x5.toNatClampNeg))) K uX6_move_m246 uX6_move_cn uX6_move_cs uX6_move_ci 104 100 (f := H94 69) (g := H94 67) (n0 := 24) (n1 := 24) (cA := cI) rfl rfl rfl z121s z121d z121n z121p z121q rfl (by decide +kernel) (by decide +kernel) dX6_move_121 rfl ?_
                    obtain ⟨G121, eG121⟩ : ∃ x : xA, x = va_up H94 67 (va_cpy (H94 69) (H94 67) x2.toNatClampNeg x4.toNatClampNeg x5.toNatClampNeg) := ⟨_, rfl⟩
                    refine x_weq (w' := w6 cI cO a E94 G121) (by subst eG121; rfl) ?_
                    replace h := h G121 eG121
                    refine x_iload (pc' := 126) K dX6_move_124 5 rfl rfl ?_
                    exact x_iret (wf := w6 cI cO a) K h dX6_move_126
                  · replace h := h.2 c97
                    refine x_aload_n (pc' := 101) K dX6_move_100 0 rfl rfl ?_
                    refine x_iconst (pc' := 102) (v := 1) K dX6_move_101 (by decide) rfl ?_
                    refine x_callI (pc' := 105) K (mX6_error l D cI cO a _) rfl gX6_move_X6_error rfl dsX6_error ⟨rfl, rfl, ⟨Nat.le_of_ble_eq_true rfl, Nat.le_of_ble_eq_true rfl⟩, Nat.le_of_ble_eq_true rfl, Nat.le_of_ble_eq_true rfl⟩ h 6 0 rfl rfl (st := []) rfl rfl (Nat.le_of_ble_eq_true rfl) dX6_move_102 rfl (fun r102 F102 G102 h => ?_)
                    exact x_iret (wf := w6 cI cO a) K h dX6_move_105
              · replace h := h.2 c68
                refine x_aload_n (pc' := 72) K dX6_move_71 0 rfl rfl ?_
                refine x_iconst (pc' := 73) (v := 5) K dX6_move_72 (by decide) rfl ?_
                refine x_callI (pc' := 76) K (mX6_error l D cI cO a _) rfl gX6_move_X6_error rfl dsX6_error ⟨rfl, rfl, ⟨Nat.le_of_ble_eq_true rfl, Nat.le_of_ble_eq_true rfl⟩, Nat.le_of_ble_eq_true rfl, Nat.le_of_ble_eq_true rfl⟩ h 6 0 rfl rfl (st := []) rfl rfl (Nat.le_of_ble_eq_true rfl) dX6_move_73 rfl (fun r73 F73 G73 h => ?_)
                exact x_iret (wf := w6 cI cO a) K h dX6_move_76
            · replace h := h.2 c49
              refine x_aload_n (pc' := 53) K dX6_move_52 0 rfl rfl ?_
              refine x_iconst (pc' := 54) (v := 2) K dX6_move_53 (by decide) rfl ?_
              refine x_callI (pc' := 57) K (mX6_error l D cI cO a _) rfl gX6_move_X6_error rfl dsX6_error ⟨rfl, rfl, ⟨Nat.le_of_ble_eq_true rfl, Nat.le_of_ble_eq_true rfl⟩, Nat.le_of_ble_eq_true rfl, Nat.le_of_ble_eq_true rfl⟩ h 6 0 rfl rfl (st := []) rfl rfl (Nat.le_of_ble_eq_true rfl) dX6_move_54 rfl (fun r54 F54 G54 h => ?_)
              exact x_iret (wf := w6 cI cO a) K h dX6_move_57
        · replace h := h.2.2.1 e33
          refine xw6_96q2 (pc' := 34) K i33 e33 dX6_move_33 rfl ?_
          refine x_astore (pc' := 36) (i := 7) K dX6_move_34 (by decide) [1, 2, 3, 4, 5, 6, 7, 0] (L' := [(0, .ref (a 0)), (1, .int _), (2, .int _), (3, .int _), (4, .int _), (5, .int _), (6, .ref (a 103)), (7, .ref (a 101))]) rfl rfl ?_
          refine x_aload (pc' := 38) K dX6_move_36 6 rfl rfl ?_
          refine x_subI (pc' := 41) (wn := fun F' G' => w6 cI cO a (xspl F 48 2 F') (xspl G 69 1 G')) K (mX2_isMissing l D cI cO (xsub a 103)) rfl gX6_move_X2_isMissing rfl dsX2_isMissing ⟨rfl, rfl, ⟨Nat.le_of_ble_eq_true rfl, Nat.le_of_ble_eq_true rfl⟩, Nat.le_of_ble_eq_true rfl, Nat.le_of_ble_eq_true rfl⟩ h 2 0 rfl rfl (xpl34 cI cO a _ _) (fun F' G' => xpr34 cI cO a _ _ F' G') (st := []) rfl rfl (Nat.le_of_ble_eq_true rfl) dX6_move_38 rfl (fun r38 F38 G38 h => ?_)
          obtain ⟨E38, eE38⟩ : ∃ x : xF, x = (xspl F 48 2 F38) := ⟨_, rfl⟩
          obtain ⟨H38, eH38⟩ : ∃ x : xA, x = (xspl G 69 1 G38) := ⟨_, rfl⟩
          refine x_weq (w' := w6 cI cO a E38 H38) (by subst eE38; subst eH38; rfl) ?_
          replace h := h E38 eE38
          replace h := h H38 eH38
          refine x_if_ne (tgt := 52) (pc' := 44) K dX6_move_41 rfl rfl (fun c41 => ?_) (fun c41 => ?_)
          · replace h := h.1 c41
            refine x_aload_n (pc' := 53) K dX6_move_52 0 rfl rfl ?_
            refine x_iconst (pc' := 54) (v := 2) K dX6_move_53 (by decide) rfl ?_
            refine x_callI (pc' := 57) K (mX6_error l D cI cO a _) rfl gX6_move_X6_error rfl dsX6_error ⟨rfl, rfl, ⟨Nat.le_of_ble_eq_true rfl, Nat.le_of_ble_eq_true rfl⟩, Nat.le_of_ble_eq_true rfl, Nat.le_of_ble_eq_true rfl⟩ h 6 0 rfl rfl (st := []) rfl rfl (Nat.le_of_ble_eq_true rfl) dX6_move_54 rfl (fun r54 F54 G54 h => ?_)
            exact x_iret (wf := w6 cI cO a) K h dX6_move_57
          · replace h := h.2 c41
            refine x_aload (pc' := 46) K dX6_move_44 7 rfl rfl ?_
            refine x_subI (pc' := 49) (wn := fun F' G' => w6 cI cO a (xspl E38 46 2 F') (xspl H38 68 1 G')) K (mX2_isMissing l D cI cO (xsub a 101)) rfl gX6_move_X2_isMissing rfl dsX2_isMissing ⟨rfl, rfl, ⟨Nat.le_of_ble_eq_true rfl, Nat.le_of_ble_eq_true rfl⟩, Nat.le_of_ble_eq_true rfl, Nat.le_of_ble_eq_true rfl⟩ h 2 0 rfl rfl (xpl33 cI cO a _ _) (fun F' G' => xpr33 cI cO a _ _ F' G') (st := []) rfl rfl (Nat.le_of_ble_eq_true rfl) dX6_move_46 rfl (fun r46 F46 G46 h => ?_)
            obtain ⟨E46, eE46⟩ : ∃ x : xF, x = (xspl E38 46 2 F46) := ⟨_, rfl⟩
            obtain ⟨H46, eH46⟩ : ∃ x : xA, x = (xspl H38 68 1 G46) := ⟨_, rfl⟩
            refine x_weq (w' := w6 cI cO a E46 H46) (by subst eE46; subst eH46; rfl) ?_
            replace h := h E46 eE46
            replace h := h H46 eH46
            refine x_if_eq (tgt := 58) (pc' := 52) K dX6_move_49 rfl rfl (fun c49 => ?_) (fun c49 => ?_)
            · replace h := h.1 c49
              refine x_aload (pc' := 60) K dX6_move_58 6 rfl rfl ?_
              refine xw6_103g_bits (pc' := 63) K hinX6_move_X2 uX6_move_f237 dX6_move_60 rfl ?_
              refine x_aload (pc' := 65) K dX6_move_63 7 rfl rfl ?_
              refine xw6_101g_bits (pc' := 68) K hinX6_move_X2 uX6_move_f237 dX6_move_65 rfl ?_
              refine x_icmp_eq (tgt := 77) (pc' := 71) K dX6_move_68 rfl rfl (fun c68 => ?_) (fun c68 => ?_)
              · replace h := h.1 c68
                refine x_aload (pc' := 79) K dX6_move_77 6 rfl rfl ?_
                refine x_iload_n (pc' := 80) K dX6_move_79 2 rfl rfl ?_
                refine x_iload (pc' := 82) K dX6_move_80 5 rfl rfl ?_
                refine x_subI (pc' := 85) (wn := fun F' G' => w6 cI cO a (xspl E46 48 2 F') (xspl H46 69 1 G')) K (mX2_holdsPart l D cI cO (xsub a 103) _ _) rfl gX6_move_X2_holdsPart rfl dsX2_holdsPart ⟨rfl, rfl, ⟨Nat.le_of_ble_eq_true rfl, Nat.le_of_ble_eq_true rfl⟩, Nat.le_of_ble_eq_true rfl, Nat.le_of_ble_eq_true rfl⟩ h 2 0 rfl rfl (xpl34 cI cO a _ _) (fun F' G' => xpr34 cI cO a _ _ F' G') (st := []) rfl rfl (Nat.le_of_ble_eq_true rfl) dX6_move_82 rfl (fun r82 F82 G82 h => ?_)
                obtain ⟨E82, eE82⟩ : ∃ x : xF, x = (xspl E46 48 2 F82) := ⟨_, rfl⟩
                obtain ⟨H82, eH82⟩ : ∃ x : xA, x = (xspl H46 69 1 G82) := ⟨_, rfl⟩
                refine x_weq (w' := w6 cI cO a E82 H82) (by subst eE82; subst eH82; rfl) ?_
                replace h := h E82 eE82
                replace h := h H82 eH82
                refine x_if_eq (tgt := 100) (pc' := 88) K dX6_move_85 rfl rfl (fun c85 => ?_) (fun c85 => ?_)
                · replace h := h.1 c85
                  refine x_aload_n (pc' := 101) K dX6_move_100 0 rfl rfl ?_
                  refine x_iconst (pc' := 102) (v := 1) K dX6_move_101 (by decide) rfl ?_
                  refine x_callI (pc' := 105) K (mX6_error l D cI cO a _) rfl gX6_move_X6_error rfl dsX6_error ⟨rfl, rfl, ⟨Nat.le_of_ble_eq_true rfl, Nat.le_of_ble_eq_true rfl⟩, Nat.le_of_ble_eq_true rfl, Nat.le_of_ble_eq_true rfl⟩ h 6 0 rfl rfl (st := []) rfl rfl (Nat.le_of_ble_eq_true rfl) dX6_move_102 rfl (fun r102 F102 G102 h => ?_)
                  exact x_iret (wf := w6 cI cO a) K h dX6_move_105
                · replace h := h.2 c85
                  refine x_aload (pc' := 90) K dX6_move_88 7 rfl rfl ?_
                  refine x_iload (pc' := 92) K dX6_move_90 4 rfl rfl ?_
                  refine x_iload (pc' := 94) K dX6_move_92 5 rfl rfl ?_
                  refine x_subI (pc' := 97) (wn := fun F' G' => w6 cI cO a (xspl E82 46 2 F') (xspl H82 68 1 G')) K (mX2_holdsPart l D cI cO (xsub a 101) _ _) rfl gX6_move_X2_holdsPart rfl dsX2_holdsPart ⟨rfl, rfl, ⟨Nat.le_of_ble_eq_true rfl, Nat.le_of_ble_eq_true rfl⟩, Nat.le_of_ble_eq_true rfl, Nat.le_of_ble_eq_true rfl⟩ h 2 0 rfl rfl (xpl33 cI cO a _ _) (fun F' G' => xpr33 cI cO a _ _ F' G') (st := []) rfl rfl (Nat.le_of_ble_eq_true rfl) dX6_move_94 rfl (fun r94 F94 G94 h => ?_)
                  obtain ⟨E94, eE94⟩ : ∃ x : xF, x = (xspl E82 46 2 F94) := ⟨_, rfl⟩
                  obtain ⟨H94, eH94⟩ : ∃ x : xA, x = (xspl H82 68 1 G94) := ⟨_, rfl⟩
                  refine x_weq (w' := w6 cI cO a E94 H94) (by subst eE94; subst eH94; rfl) ?_
                  replace h := h E94 eE94
                  replace h := h H94 eH94
                  refine x_if_ne (tgt := 106) (pc' := 100) K dX6_move_97 rfl rfl (fun c97 => ?_) (fun c97 => ?_)
                  · replace h := h.1 c97
                    refine x_aload (pc' := 108) K dX6_move_106 6 rfl rfl ?_
                    refine xw6_103g_numbers (pc' := 111) K hinX6_move_X2 uX6_move_f243 dX6_move_108 rfl ?_
                    refine x_iload_n (pc' := 112) K dX6_move_111 2 rfl rfl ?_
                    refine x_aload (pc' := 114) K dX6_move_112 7 rfl rfl ?_
                    refine xw6_101g_numbers (pc' := 117) K hinX6_move_X2 uX6_move_f243 dX6_move_114 rfl ?_
                    refine x_iload (pc' := 119) K dX6_move_117 4 rfl rfl ?_
                    refine x_iload (pc' := 121) K dX6_move_119 5 rfl rfl ?_
                    obtain ⟨z121s, h⟩ := h
                    obtain ⟨z121d, h⟩ := h
                    obtain ⟨z121n, h⟩ := h
                    obtain ⟨z121p, h⟩ := h
                    obtain ⟨z121q, h⟩ := h
                    refine x_copy (pc' := 124) (w' := w6 cI cO a E94 (va_up H94 68 (va_cpy (H94 69) (H94 68) x2.toNatClampNeg x4.toNatClampNeg x5.toNatClampNeg))) K uX6_move_m246 uX6_move_cn uX6_move_cs uX6_move_ci 104 102 (f := H94 69) (g := H94 68) (n0 := 24) (n1 := 24) (cA := cI) rfl rfl rfl z121s z121d z121n z121p z121q rfl (by decide +kernel) (by decide +kernel) dX6_move_121 rfl ?_
                    obtain ⟨G121, eG121⟩ : ∃ x : xA, x = va_up H94 68 (va_cpy (H94 69) (H94 68) x2.toNatClampNeg x4.toNatClampNeg x5.toNatClampNeg) := ⟨_, rfl⟩
                    refine x_weq (w' := w6 cI cO a E94 G121) (by subst eG121; rfl) ?_
                    replace h := h G121 eG121
                    refine x_iload (pc' := 126) K dX6_move_124 5 rfl rfl ?_
                    exact x_iret (wf := w6 cI cO a) K h dX6_move_126
                  · replace h := h.2 c97
                    refine x_aload_n (pc' := 101) K dX6_move_100 0 rfl rfl ?_
                    refine x_iconst (pc' := 102) (v := 1) K dX6_move_101 (by decide) rfl ?_
                    refine x_callI (pc' := 105) K (mX6_error l D cI cO a _) rfl gX6_move_X6_error rfl dsX6_error ⟨rfl, rfl, ⟨Nat.le_of_ble_eq_true rfl, Nat.le_of_ble_eq_true rfl⟩, Nat.le_of_ble_eq_true rfl, Nat.le_of_ble_eq_true rfl⟩ h 6 0 rfl rfl (st := []) rfl rfl (Nat.le_of_ble_eq_true rfl) dX6_move_102 rfl (fun r102 F102 G102 h => ?_)
                    exact x_iret (wf := w6 cI cO a) K h dX6_move_105
              · replace h := h.2 c68
                refine x_aload_n (pc' := 72) K dX6_move_71 0 rfl rfl ?_
                refine x_iconst (pc' := 73) (v := 5) K dX6_move_72 (by decide) rfl ?_
                refine x_callI (pc' := 76) K (mX6_error l D cI cO a _) rfl gX6_move_X6_error rfl dsX6_error ⟨rfl, rfl, ⟨Nat.le_of_ble_eq_true rfl, Nat.le_of_ble_eq_true rfl⟩, Nat.le_of_ble_eq_true rfl, Nat.le_of_ble_eq_true rfl⟩ h 6 0 rfl rfl (st := []) rfl rfl (Nat.le_of_ble_eq_true rfl) dX6_move_73 rfl (fun r73 F73 G73 h => ?_)
                exact x_iret (wf := w6 cI cO a) K h dX6_move_76
            · replace h := h.2 c49
              refine x_aload_n (pc' := 53) K dX6_move_52 0 rfl rfl ?_
              refine x_iconst (pc' := 54) (v := 2) K dX6_move_53 (by decide) rfl ?_
              refine x_callI (pc' := 57) K (mX6_error l D cI cO a _) rfl gX6_move_X6_error rfl dsX6_error ⟨rfl, rfl, ⟨Nat.le_of_ble_eq_true rfl, Nat.le_of_ble_eq_true rfl⟩, Nat.le_of_ble_eq_true rfl, Nat.le_of_ble_eq_true rfl⟩ h 6 0 rfl rfl (st := []) rfl rfl (Nat.le_of_ble_eq_true rfl) dX6_move_54 rfl (fun r54 F54 G54 h => ?_)
              exact x_iret (wf := w6 cI cO a) K h dX6_move_57
        · replace h := h.2.2.2 e33
          refine xw6_96q3 (pc' := 34) K i33 e33 dX6_move_33 rfl ?_
          refine x_astore (pc' := 36) (i := 7) K dX6_move_34 (by decide) [1, 2, 3, 4, 5, 6, 7, 0] (L' := [(0, .ref (a 0)), (1, .int _), (2, .int _), (3, .int _), (4, .int _), (5, .int _), (6, .ref (a 103)), (7, .ref (a 103))]) rfl rfl ?_
          refine x_aload (pc' := 38) K dX6_move_36 6 rfl rfl ?_
          refine x_subI (pc' := 41) (wn := fun F' G' => w6 cI cO a (xspl F 48 2 F') (xspl G 69 1 G')) K (mX2_isMissing l D cI cO (xsub a 103)) rfl gX6_move_X2_isMissing rfl dsX2_isMissing ⟨rfl, rfl, ⟨Nat.le_of_ble_eq_true rfl, Nat.le_of_ble_eq_true rfl⟩, Nat.le_of_ble_eq_true rfl, Nat.le_of_ble_eq_true rfl⟩ h 2 0 rfl rfl (xpl34 cI cO a _ _) (fun F' G' => xpr34 cI cO a _ _ F' G') (st := []) rfl rfl (Nat.le_of_ble_eq_true rfl) dX6_move_38 rfl (fun r38 F38 G38 h => ?_)
          obtain ⟨E38, eE38⟩ : ∃ x : xF, x = (xspl F 48 2 F38) := ⟨_, rfl⟩
          obtain ⟨H38, eH38⟩ : ∃ x : xA, x = (xspl G 69 1 G38) := ⟨_, rfl⟩
          refine x_weq (w' := w6 cI cO a E38 H38) (by subst eE38; subst eH38; rfl) ?_
          replace h := h E38 eE38
          replace h := h H38 eH38
          refine x_if_ne (tgt := 52) (pc' := 44) K dX6_move_41 rfl rfl (fun c41 => ?_) (fun c41 => ?_)
          · replace h := h.1 c41
            refine x_aload_n (pc' := 53) K dX6_move_52 0 rfl rfl ?_
            refine x_iconst (pc' := 54) (v := 2) K dX6_move_53 (by decide) rfl ?_
            refine x_callI (pc' := 57) K (mX6_error l D cI cO a _) rfl gX6_move_X6_error rfl dsX6_error ⟨rfl, rfl, ⟨Nat.le_of_ble_eq_true rfl, Nat.le_of_ble_eq_true rfl⟩, Nat.le_of_ble_eq_true rfl, Nat.le_of_ble_eq_true rfl⟩ h 6 0 rfl rfl (st := []) rfl rfl (Nat.le_of_ble_eq_true rfl) dX6_move_54 rfl (fun r54 F54 G54 h => ?_)
            exact x_iret (wf := w6 cI cO a) K h dX6_move_57
          · replace h := h.2 c41
            refine x_aload (pc' := 46) K dX6_move_44 7 rfl rfl ?_
            refine x_subI (pc' := 49) (wn := fun F' G' => w6 cI cO a (xspl E38 48 2 F') (xspl H38 69 1 G')) K (mX2_isMissing l D cI cO (xsub a 103)) rfl gX6_move_X2_isMissing rfl dsX2_isMissing ⟨rfl, rfl, ⟨Nat.le_of_ble_eq_true rfl, Nat.le_of_ble_eq_true rfl⟩, Nat.le_of_ble_eq_true rfl, Nat.le_of_ble_eq_true rfl⟩ h 2 0 rfl rfl (xpl34 cI cO a _ _) (fun F' G' => xpr34 cI cO a _ _ F' G') (st := []) rfl rfl (Nat.le_of_ble_eq_true rfl) dX6_move_46 rfl (fun r46 F46 G46 h => ?_)
            obtain ⟨E46, eE46⟩ : ∃ x : xF, x = (xspl E38 48 2 F46) := ⟨_, rfl⟩
            obtain ⟨H46, eH46⟩ : ∃ x : xA, x = (xspl H38 69 1 G46) := ⟨_, rfl⟩
            refine x_weq (w' := w6 cI cO a E46 H46) (by subst eE46; subst eH46; rfl) ?_
            replace h := h E46 eE46
            replace h := h H46 eH46
            refine x_if_eq (tgt := 58) (pc' := 52) K dX6_move_49 rfl rfl (fun c49 => ?_) (fun c49 => ?_)
            · replace h := h.1 c49
              refine x_aload (pc' := 60) K dX6_move_58 6 rfl rfl ?_
              refine xw6_103g_bits (pc' := 63) K hinX6_move_X2 uX6_move_f237 dX6_move_60 rfl ?_
              refine x_aload (pc' := 65) K dX6_move_63 7 rfl rfl ?_
              refine xw6_103g_bits (pc' := 68) K hinX6_move_X2 uX6_move_f237 dX6_move_65 rfl ?_
              refine x_icmp_eq (tgt := 77) (pc' := 71) K dX6_move_68 rfl rfl (fun c68 => ?_) (fun c68 => ?_)
              · replace h := h.1 c68
                refine x_aload (pc' := 79) K dX6_move_77 6 rfl rfl ?_
                refine x_iload_n (pc' := 80) K dX6_move_79 2 rfl rfl ?_
                refine x_iload (pc' := 82) K dX6_move_80 5 rfl rfl ?_
                refine x_subI (pc' := 85) (wn := fun F' G' => w6 cI cO a (xspl E46 48 2 F') (xspl H46 69 1 G')) K (mX2_holdsPart l D cI cO (xsub a 103) _ _) rfl gX6_move_X2_holdsPart rfl dsX2_holdsPart ⟨rfl, rfl, ⟨Nat.le_of_ble_eq_true rfl, Nat.le_of_ble_eq_true rfl⟩, Nat.le_of_ble_eq_true rfl, Nat.le_of_ble_eq_true rfl⟩ h 2 0 rfl rfl (xpl34 cI cO a _ _) (fun F' G' => xpr34 cI cO a _ _ F' G') (st := []) rfl rfl (Nat.le_of_ble_eq_true rfl) dX6_move_82 rfl (fun r82 F82 G82 h => ?_)
                obtain ⟨E82, eE82⟩ : ∃ x : xF, x = (xspl E46 48 2 F82) := ⟨_, rfl⟩
                obtain ⟨H82, eH82⟩ : ∃ x : xA, x = (xspl H46 69 1 G82) := ⟨_, rfl⟩
                refine x_weq (w' := w6 cI cO a E82 H82) (by subst eE82; subst eH82; rfl) ?_
                replace h := h E82 eE82
                replace h := h H82 eH82
                refine x_if_eq (tgt := 100) (pc' := 88) K dX6_move_85 rfl rfl (fun c85 => ?_) (fun c85 => ?_)
                · replace h := h.1 c85
                  refine x_aload_n (pc' := 101) K dX6_move_100 0 rfl rfl ?_
                  refine x_iconst (pc' := 102) (v := 1) K dX6_move_101 (by decide) rfl ?_
                  refine x_callI (pc' := 105) K (mX6_error l D cI cO a _) rfl gX6_move_X6_error rfl dsX6_error ⟨rfl, rfl, ⟨Nat.le_of_ble_eq_true rfl, Nat.le_of_ble_eq_true rfl⟩, Nat.le_of_ble_eq_true rfl, Nat.le_of_ble_eq_true rfl⟩ h 6 0 rfl rfl (st := []) rfl rfl (Nat.le_of_ble_eq_true rfl) dX6_move_102 rfl (fun r102 F102 G102 h => ?_)
                  exact x_iret (wf := w6 cI cO a) K h dX6_move_105
                · replace h := h.2 c85
                  refine x_aload (pc' := 90) K dX6_move_88 7 rfl rfl ?_
                  refine x_iload (pc' := 92) K dX6_move_90 4 rfl rfl ?_
                  refine x_iload (pc' := 94) K dX6_move_92 5 rfl rfl ?_
                  refine x_subI (pc' := 97) (wn := fun F' G' => w6 cI cO a (xspl E82 48 2 F') (xspl H82 69 1 G')) K (mX2_holdsPart l D cI cO (xsub a 103) _ _) rfl gX6_move_X2_holdsPart rfl dsX2_holdsPart ⟨rfl, rfl, ⟨Nat.le_of_ble_eq_true rfl, Nat.le_of_ble_eq_true rfl⟩, Nat.le_of_ble_eq_true rfl, Nat.le_of_ble_eq_true rfl⟩ h 2 0 rfl rfl (xpl34 cI cO a _ _) (fun F' G' => xpr34 cI cO a _ _ F' G') (st := []) rfl rfl (Nat.le_of_ble_eq_true rfl) dX6_move_94 rfl (fun r94 F94 G94 h => ?_)
                  obtain ⟨E94, eE94⟩ : ∃ x : xF, x = (xspl E82 48 2 F94) := ⟨_, rfl⟩
                  obtain ⟨H94, eH94⟩ : ∃ x : xA, x = (xspl H82 69 1 G94) := ⟨_, rfl⟩
                  refine x_weq (w' := w6 cI cO a E94 H94) (by subst eE94; subst eH94; rfl) ?_
                  replace h := h E94 eE94
                  replace h := h H94 eH94
                  refine x_if_ne (tgt := 106) (pc' := 100) K dX6_move_97 rfl rfl (fun c97 => ?_) (fun c97 => ?_)
                  · replace h := h.1 c97
                    refine x_aload (pc' := 108) K dX6_move_106 6 rfl rfl ?_
                    refine xw6_103g_numbers (pc' := 111) K hinX6_move_X2 uX6_move_f243 dX6_move_108 rfl ?_
                    refine x_iload_n (pc' := 112) K dX6_move_111 2 rfl rfl ?_
                    refine x_aload (pc' := 114) K dX6_move_112 7 rfl rfl ?_
                    refine xw6_103g_numbers (pc' := 117) K hinX6_move_X2 uX6_move_f243 dX6_move_114 rfl ?_
                    refine x_iload (pc' := 119) K dX6_move_117 4 rfl rfl ?_
                    refine x_iload (pc' := 121) K dX6_move_119 5 rfl rfl ?_
                    obtain ⟨z121s, h⟩ := h
                    obtain ⟨z121d, h⟩ := h
                    obtain ⟨z121n, h⟩ := h
                    obtain ⟨z121p, h⟩ := h
                    obtain ⟨z121q, h⟩ := h
                    refine x_copy (pc' := 124) (w' := w6 cI cO a E94 (va_up H94 69 (va_cpy (H94 69) (H94 69) x2.toNatClampNeg x4.toNatClampNeg x5.toNatClampNeg))) K uX6_move_m246 uX6_move_cn uX6_move_cs uX6_move_ci 104 104 (f := H94 69) (g := H94 69) (n0 := 24) (n1 := 24) (cA := cI) rfl rfl rfl z121s z121d z121n z121p z121q rfl (by decide +kernel) (by decide +kernel) dX6_move_121 rfl ?_
                    obtain ⟨G121, eG121⟩ : ∃ x : xA, x = va_up H94 69 (va_cpy (H94 69) (H94 69) x2.toNatClampNeg x4.toNatClampNeg x5.toNatClampNeg) := ⟨_, rfl⟩
                    refine x_weq (w' := w6 cI cO a E94 G121) (by subst eG121; rfl) ?_
                    replace h := h G121 eG121
                    refine x_iload (pc' := 126) K dX6_move_124 5 rfl rfl ?_
                    exact x_iret (wf := w6 cI cO a) K h dX6_move_126
                  · replace h := h.2 c97
                    refine x_aload_n (pc' := 101) K dX6_move_100 0 rfl rfl ?_
                    refine x_iconst (pc' := 102) (v := 1) K dX6_move_101 (by decide) rfl ?_
                    refine x_callI (pc' := 105) K (mX6_error l D cI cO a _) rfl gX6_move_X6_error rfl dsX6_error ⟨rfl, rfl, ⟨Nat.le_of_ble_eq_true rfl, Nat.le_of_ble_eq_true rfl⟩, Nat.le_of_ble_eq_true rfl, Nat.le_of_ble_eq_true rfl⟩ h 6 0 rfl rfl (st := []) rfl rfl (Nat.le_of_ble_eq_true rfl) dX6_move_102 rfl (fun r102 F102 G102 h => ?_)
                    exact x_iret (wf := w6 cI cO a) K h dX6_move_105
              · replace h := h.2 c68
                refine x_aload_n (pc' := 72) K dX6_move_71 0 rfl rfl ?_
                refine x_iconst (pc' := 73) (v := 5) K dX6_move_72 (by decide) rfl ?_
                refine x_callI (pc' := 76) K (mX6_error l D cI cO a _) rfl gX6_move_X6_error rfl dsX6_error ⟨rfl, rfl, ⟨Nat.le_of_ble_eq_true rfl, Nat.le_of_ble_eq_true rfl⟩, Nat.le_of_ble_eq_true rfl, Nat.le_of_ble_eq_true rfl⟩ h 6 0 rfl rfl (st := []) rfl rfl (Nat.le_of_ble_eq_true rfl) dX6_move_73 rfl (fun r73 F73 G73 h => ?_)
                exact x_iret (wf := w6 cI cO a) K h dX6_move_76
            · replace h := h.2 c49
              refine x_aload_n (pc' := 53) K dX6_move_52 0 rfl rfl ?_
              refine x_iconst (pc' := 54) (v := 2) K dX6_move_53 (by decide) rfl ?_
              refine x_callI (pc' := 57) K (mX6_error l D cI cO a _) rfl gX6_move_X6_error rfl dsX6_error ⟨rfl, rfl, ⟨Nat.le_of_ble_eq_true rfl, Nat.le_of_ble_eq_true rfl⟩, Nat.le_of_ble_eq_true rfl, Nat.le_of_ble_eq_true rfl⟩ h 6 0 rfl rfl (st := []) rfl rfl (Nat.le_of_ble_eq_true rfl) dX6_move_54 rfl (fun r54 F54 G54 h => ?_)
              exact x_iret (wf := w6 cI cO a) K h dX6_move_57
    · replace h := h.2 c11
      refine x_aload_n (pc' := 15) K dX6_move_14 0 rfl rfl ?_
      refine x_iconst (pc' := 16) (v := 1) K dX6_move_15 (by decide) rfl ?_
      refine x_callI (pc' := 19) K (mX6_error l D cI cO a _) rfl gX6_move_X6_error rfl dsX6_error ⟨rfl, rfl, ⟨Nat.le_of_ble_eq_true rfl, Nat.le_of_ble_eq_true rfl⟩, Nat.le_of_ble_eq_true rfl, Nat.le_of_ble_eq_true rfl⟩ h 6 0 rfl rfl (st := []) rfl rfl (Nat.le_of_ble_eq_true rfl) dX6_move_16 rfl (fun r16 F16 G16 h => ?_)
      exact x_iret (wf := w6 cI cO a) K h dX6_move_19
end
