section
variable {p : Program} {l : Launch} {e : Env} {s : State} {m : MethodId} {args : Array Value} {below : List Frame} {meth : Method} {c : Code} {D : va_G} {cI cO : ClassId} {A : Nat → Prop} {a : Nat → Nat} {d : Nat}
/-! X6_put -/
abbrev rmX6_put : Room := { frames := 4, cells := 0, slots := 0, locals := 102 }
theorem dsX6_put : xDesc yX6_put 3 := by decide +kernel
theorem uX6_put_f70 : Cond.fieldLink RX6 70 "PigNinths" "sheets" "[LPigNinths$Sheet;" ∈ wsX6_put := nw_in nwl_X6_put nwe_348 (by decide +kernel)
theorem hinX6_put_X6 : ∀ w ∈ wsX60, w ∈ wsX6_put := nw_all nwl_X6_put nwl_X60 (by decide +kernel)
theorem uX6_put_f212 : Cond.fieldLink RX6 212 "PigNinths$Sheet" "size" "I" ∈ wsX6_put := nw_in nwl_X6_put nwe_467 (by decide +kernel)
theorem hinX6_put_X2 : ∀ w ∈ wsX20, w ∈ wsX6_put := nw_all nwl_X6_put nwl_X20 (by decide +kernel)
set_option maxHeartbeats 4000000 in
set_option maxRecDepth 100000 in
theorem mX6_put (l : Launch) (D : va_G) (cI cO : ClassId) (a : Nat → Nat)  (x1 : Int32) (x2 : Int32) (x3 : Int32) : MI l yX6_put wsX6_put rmX6_put D (xtys cI cO) [.ref (a 0), .int x1, .int x2, .int x3] (w6 cI cO a) (qX6_put x1 x2 x3) := by
  refine MI_of (cc := cX6_put) (maxL := 5) (own := RX6) (by decide) rfl rfl (Nat.le_of_ble_eq_true rfl) ?_
  intro p e s m args below meth c A F G Q h K
  refine x_locals [0, 1, 2, 3] (L' := [(0, .ref (a 0)), (1, .int _), (2, .int _), (3, .int _)]) rfl ?_
  refine x_iload_n (pc' := 1) K dX6_put_0 1 rfl rfl ?_
  refine x_callS (pc' := 4) K (mX6_isSheet l D cI cO a _) rfl gX6_put_X6_isSheet dsX6_isSheet ⟨rfl, rfl, ⟨Nat.le_of_ble_eq_true rfl, Nat.le_of_ble_eq_true rfl⟩, Nat.le_of_ble_eq_true rfl, Nat.le_of_ble_eq_true rfl⟩ h (st := []) rfl rfl (Nat.le_of_ble_eq_true rfl) dX6_put_1 rfl (fun r1 h => ?_)
  refine x_if_ne (tgt := 13) (pc' := 7) K dX6_put_4 rfl rfl (fun c4 => ?_) (fun c4 => ?_)
  · replace h := h.1 c4
    refine x_aload_n (pc' := 14) K dX6_put_13 0 rfl rfl ?_
    refine xw6_0g_sheets (pc' := 17) K hinX6_put_X6 uX6_put_f70 dX6_put_14 rfl ?_
    refine x_iload_n (pc' := 18) K dX6_put_17 1 rfl rfl ?_
    obtain ⟨i18, h⟩ := h
    rcases xin4 i18 with e18 | e18 | e18 | e18
    · replace h := h.1 e18
      refine xw6_96q0 (pc' := 19) K i18 e18 dX6_put_18 rfl ?_
      refine x_astore (pc' := 21) (i := 4) K dX6_put_19 (by decide) [1, 2, 3, 4, 0] (L' := [(0, .ref (a 0)), (1, .int _), (2, .int _), (3, .int _), (4, .ref (a 97))]) rfl rfl ?_
      refine x_aload (pc' := 23) K dX6_put_21 4 rfl rfl ?_
      refine x_subI (pc' := 26) (wn := fun F' G' => w6 cI cO a (xspl F 42 2 F') (xspl G 66 1 G')) K (mX2_isMissing l D cI cO (xsub a 97)) rfl gX6_put_X2_isMissing rfl dsX2_isMissing ⟨rfl, rfl, ⟨Nat.le_of_ble_eq_true rfl, Nat.le_of_ble_eq_true rfl⟩, Nat.le_of_ble_eq_true rfl, Nat.le_of_ble_eq_true rfl⟩ h 2 0 rfl rfl (xpl31 cI cO a _ _) (fun F' G' => xpr31 cI cO a _ _ F' G') (st := []) rfl rfl (Nat.le_of_ble_eq_true rfl) dX6_put_23 rfl (fun r23 F23 G23 h => ?_)
      obtain ⟨E23, eE23⟩ : ∃ x : xF, x = (xspl F 42 2 F23) := ⟨_, rfl⟩
      obtain ⟨H23, eH23⟩ : ∃ x : xA, x = (xspl G 66 1 G23) := ⟨_, rfl⟩
      refine x_weq (w' := w6 cI cO a E23 H23) (by subst eE23; subst eH23; rfl) ?_
      replace h := h E23 eE23
      replace h := h H23 eH23
      refine x_if_eq (tgt := 35) (pc' := 29) K dX6_put_26 rfl rfl (fun c26 => ?_) (fun c26 => ?_)
      · replace h := h.1 c26
        refine x_iload_n (pc' := 36) K dX6_put_35 2 rfl rfl ?_
        refine x_iconst (pc' := 37) (v := 0) K dX6_put_36 (by decide) rfl ?_
        refine x_aload (pc' := 39) K dX6_put_37 4 rfl rfl ?_
        refine xw6_97g_size (pc' := 42) K hinX6_put_X2 uX6_put_f212 dX6_put_39 rfl ?_
        refine x_iconst (pc' := 43) (v := 1) K dX6_put_42 (by decide) rfl ?_
        refine x_isub (pc' := 44) K dX6_put_43 rfl ?_
        refine x_callS (pc' := 47) K (mX6_within l D cI cO a _ _ _) rfl gX6_put_X6_within dsX6_within ⟨rfl, rfl, ⟨Nat.le_of_ble_eq_true rfl, Nat.le_of_ble_eq_true rfl⟩, Nat.le_of_ble_eq_true rfl, Nat.le_of_ble_eq_true rfl⟩ h (st := []) rfl rfl (Nat.le_of_ble_eq_true rfl) dX6_put_44 rfl (fun r44 h => ?_)
        refine x_if_ne (tgt := 56) (pc' := 50) K dX6_put_47 rfl rfl (fun c47 => ?_) (fun c47 => ?_)
        · replace h := h.1 c47
          refine x_aload (pc' := 58) K dX6_put_56 4 rfl rfl ?_
          refine x_iload_n (pc' := 59) K dX6_put_58 2 rfl rfl ?_
          refine x_iload_n (pc' := 60) K dX6_put_59 3 rfl rfl ?_
          refine x_subV (pc' := 63) (wn := fun F' G' => w6 cI cO a (xspl E23 42 2 F') (xspl H23 66 1 G')) K (mX2_hold l D cI cO (xsub a 97) _ _) rfl gX6_put_X2_hold rfl dsX2_hold ⟨rfl, rfl, ⟨Nat.le_of_ble_eq_true rfl, Nat.le_of_ble_eq_true rfl⟩, Nat.le_of_ble_eq_true rfl, Nat.le_of_ble_eq_true rfl⟩ h 2 0 rfl rfl (xpl31 cI cO a _ _) (fun F' G' => xpr31 cI cO a _ _ F' G') (st := []) rfl rfl (Nat.le_of_ble_eq_true rfl) dX6_put_60 rfl (fun F60 G60 h => ?_)
          obtain ⟨E60, eE60⟩ : ∃ x : xF, x = (xspl E23 42 2 F60) := ⟨_, rfl⟩
          obtain ⟨H60, eH60⟩ : ∃ x : xA, x = (xspl H23 66 1 G60) := ⟨_, rfl⟩
          refine x_weq (w' := w6 cI cO a E60 H60) (by subst eE60; subst eH60; rfl) ?_
          replace h := h E60 eE60
          replace h := h H60 eH60
          refine x_iconst (pc' := 64) (v := 1) K dX6_put_63 (by decide) rfl ?_
          exact x_iret (wf := w6 cI cO a) K h dX6_put_64
        · replace h := h.2 c47
          refine x_aload_n (pc' := 51) K dX6_put_50 0 rfl rfl ?_
          refine x_iconst (pc' := 52) (v := 1) K dX6_put_51 (by decide) rfl ?_
          refine x_callI (pc' := 55) K (mX6_error l D cI cO a _) rfl gX6_put_X6_error rfl dsX6_error ⟨rfl, rfl, ⟨Nat.le_of_ble_eq_true rfl, Nat.le_of_ble_eq_true rfl⟩, Nat.le_of_ble_eq_true rfl, Nat.le_of_ble_eq_true rfl⟩ h 6 0 rfl rfl (st := []) rfl rfl (Nat.le_of_ble_eq_true rfl) dX6_put_52 rfl (fun r52 F52 G52 h => ?_)
          exact x_iret (wf := w6 cI cO a) K h dX6_put_55
      · replace h := h.2 c26
        refine x_aload_n (pc' := 30) K dX6_put_29 0 rfl rfl ?_
        refine x_iconst (pc' := 31) (v := 2) K dX6_put_30 (by decide) rfl ?_
        refine x_callI (pc' := 34) K (mX6_error l D cI cO a _) rfl gX6_put_X6_error rfl dsX6_error ⟨rfl, rfl, ⟨Nat.le_of_ble_eq_true rfl, Nat.le_of_ble_eq_true rfl⟩, Nat.le_of_ble_eq_true rfl, Nat.le_of_ble_eq_true rfl⟩ h 6 0 rfl rfl (st := []) rfl rfl (Nat.le_of_ble_eq_true rfl) dX6_put_31 rfl (fun r31 F31 G31 h => ?_)
        exact x_iret (wf := w6 cI cO a) K h dX6_put_34
    · replace h := h.2.1 e18
      refine xw6_96q1 (pc' := 19) K i18 e18 dX6_put_18 rfl ?_
      refine x_astore (pc' := 21) (i := 4) K dX6_put_19 (by decide) [1, 2, 3, 4, 0] (L' := [(0, .ref (a 0)), (1, .int _), (2, .int _), (3, .int _), (4, .ref (a 99))]) rfl rfl ?_
      refine x_aload (pc' := 23) K dX6_put_21 4 rfl rfl ?_
      refine x_subI (pc' := 26) (wn := fun F' G' => w6 cI cO a (xspl F 44 2 F') (xspl G 67 1 G')) K (mX2_isMissing l D cI cO (xsub a 99)) rfl gX6_put_X2_isMissing rfl dsX2_isMissing ⟨rfl, rfl, ⟨Nat.le_of_ble_eq_true rfl, Nat.le_of_ble_eq_true rfl⟩, Nat.le_of_ble_eq_true rfl, Nat.le_of_ble_eq_true rfl⟩ h 2 0 rfl rfl (xpl32 cI cO a _ _) (fun F' G' => xpr32 cI cO a _ _ F' G') (st := []) rfl rfl (Nat.le_of_ble_eq_true rfl) dX6_put_23 rfl (fun r23 F23 G23 h => ?_)
      obtain ⟨E23, eE23⟩ : ∃ x : xF, x = (xspl F 44 2 F23) := ⟨_, rfl⟩
      obtain ⟨H23, eH23⟩ : ∃ x : xA, x = (xspl G 67 1 G23) := ⟨_, rfl⟩
      refine x_weq (w' := w6 cI cO a E23 H23) (by subst eE23; subst eH23; rfl) ?_
      replace h := h E23 eE23
      replace h := h H23 eH23
      refine x_if_eq (tgt := 35) (pc' := 29) K dX6_put_26 rfl rfl (fun c26 => ?_) (fun c26 => ?_)
      · replace h := h.1 c26
        refine x_iload_n (pc' := 36) K dX6_put_35 2 rfl rfl ?_
        refine x_iconst (pc' := 37) (v := 0) K dX6_put_36 (by decide) rfl ?_
        refine x_aload (pc' := 39) K dX6_put_37 4 rfl rfl ?_
        refine xw6_99g_size (pc' := 42) K hinX6_put_X2 uX6_put_f212 dX6_put_39 rfl ?_
        refine x_iconst (pc' := 43) (v := 1) K dX6_put_42 (by decide) rfl ?_
        refine x_isub (pc' := 44) K dX6_put_43 rfl ?_
        refine x_callS (pc' := 47) K (mX6_within l D cI cO a _ _ _) rfl gX6_put_X6_within dsX6_within ⟨rfl, rfl, ⟨Nat.le_of_ble_eq_true rfl, Nat.le_of_ble_eq_true rfl⟩, Nat.le_of_ble_eq_true rfl, Nat.le_of_ble_eq_true rfl⟩ h (st := []) rfl rfl (Nat.le_of_ble_eq_true rfl) dX6_put_44 rfl (fun r44 h => ?_)
        refine x_if_ne (tgt := 56) (pc' := 50) K dX6_put_47 rfl rfl (fun c47 => ?_) (fun c47 => ?_)
        · replace h := h.1 c47
          refine x_aload (pc' := 58) K dX6_put_56 4 rfl rfl ?_
          refine x_iload_n (pc' := 59) K dX6_put_58 2 rfl rfl ?_
          refine x_iload_n (pc' := 60) K dX6_put_59 3 rfl rfl ?_
          refine x_subV (pc' := 63) (wn := fun F' G' => w6 cI cO a (xspl E23 44 2 F') (xspl H23 67 1 G')) K (mX2_hold l D cI cO (xsub a 99) _ _) rfl gX6_put_X2_hold rfl dsX2_hold ⟨rfl, rfl, ⟨Nat.le_of_ble_eq_true rfl, Nat.le_of_ble_eq_true rfl⟩, Nat.le_of_ble_eq_true rfl, Nat.le_of_ble_eq_true rfl⟩ h 2 0 rfl rfl (xpl32 cI cO a _ _) (fun F' G' => xpr32 cI cO a _ _ F' G') (st := []) rfl rfl (Nat.le_of_ble_eq_true rfl) dX6_put_60 rfl (fun F60 G60 h => ?_)
          obtain ⟨E60, eE60⟩ : ∃ x : xF, x = (xspl E23 44 2 F60) := ⟨_, rfl⟩
          obtain ⟨H60, eH60⟩ : ∃ x : xA, x = (xspl H23 67 1 G60) := ⟨_, rfl⟩
          refine x_weq (w' := w6 cI cO a E60 H60) (by subst eE60; subst eH60; rfl) ?_
          replace h := h E60 eE60
          replace h := h H60 eH60
          refine x_iconst (pc' := 64) (v := 1) K dX6_put_63 (by decide) rfl ?_
          exact x_iret (wf := w6 cI cO a) K h dX6_put_64
        · replace h := h.2 c47
          refine x_aload_n (pc' := 51) K dX6_put_50 0 rfl rfl ?_
          refine x_iconst (pc' := 52) (v := 1) K dX6_put_51 (by decide) rfl ?_
          refine x_callI (pc' := 55) K (mX6_error l D cI cO a _) rfl gX6_put_X6_error rfl dsX6_error ⟨rfl, rfl, ⟨Nat.le_of_ble_eq_true rfl, Nat.le_of_ble_eq_true rfl⟩, Nat.le_of_ble_eq_true rfl, Nat.le_of_ble_eq_true rfl⟩ h 6 0 rfl rfl (st := []) rfl rfl (Nat.le_of_ble_eq_true rfl) dX6_put_52 rfl (fun r52 F52 G52 h => ?_)
          exact x_iret (wf := w6 cI cO a) K h dX6_put_55
      · replace h := h.2 c26
        refine x_aload_n (pc' := 30) K dX6_put_29 0 rfl rfl ?_
        refine x_iconst (pc' := 31) (v := 2) K dX6_put_30 (by decide) rfl ?_
        refine x_callI (pc' := 34) K (mX6_error l D cI cO a _) rfl gX6_put_X6_error rfl dsX6_error ⟨rfl, rfl, ⟨Nat.le_of_ble_eq_true rfl, Nat.le_of_ble_eq_true rfl⟩, Nat.le_of_ble_eq_true rfl, Nat.le_of_ble_eq_true rfl⟩ h 6 0 rfl rfl (st := []) rfl rfl (Nat.le_of_ble_eq_true rfl) dX6_put_31 rfl (fun r31 F31 G31 h => ?_)
        exact x_iret (wf := w6 cI cO a) K h dX6_put_34
    · replace h := h.2.2.1 e18
      refine xw6_96q2 (pc' := 19) K i18 e18 dX6_put_18 rfl ?_
      refine x_astore (pc' := 21) (i := 4) K dX6_put_19 (by decide) [1, 2, 3, 4, 0] (L' := [(0, .ref (a 0)), (1, .int _), (2, .int _), (3, .int _), (4, .ref (a 101))]) rfl rfl ?_
      refine x_aload (pc' := 23) K dX6_put_21 4 rfl rfl ?_
      refine x_subI (pc' := 26) (wn := fun F' G' => w6 cI cO a (xspl F 46 2 F') (xspl G 68 1 G')) K (mX2_isMissing l D cI cO (xsub a 101)) rfl gX6_put_X2_isMissing rfl dsX2_isMissing ⟨rfl, rfl, ⟨Nat.le_of_ble_eq_true rfl, Nat.le_of_ble_eq_true rfl⟩, Nat.le_of_ble_eq_true rfl, Nat.le_of_ble_eq_true rfl⟩ h 2 0 rfl rfl (xpl33 cI cO a _ _) (fun F' G' => xpr33 cI cO a _ _ F' G') (st := []) rfl rfl (Nat.le_of_ble_eq_true rfl) dX6_put_23 rfl (fun r23 F23 G23 h => ?_)
      obtain ⟨E23, eE23⟩ : ∃ x : xF, x = (xspl F 46 2 F23) := ⟨_, rfl⟩
      obtain ⟨H23, eH23⟩ : ∃ x : xA, x = (xspl G 68 1 G23) := ⟨_, rfl⟩
      refine x_weq (w' := w6 cI cO a E23 H23) (by subst eE23; subst eH23; rfl) ?_
      replace h := h E23 eE23
      replace h := h H23 eH23
      refine x_if_eq (tgt := 35) (pc' := 29) K dX6_put_26 rfl rfl (fun c26 => ?_) (fun c26 => ?_)
      · replace h := h.1 c26
        refine x_iload_n (pc' := 36) K dX6_put_35 2 rfl rfl ?_
        refine x_iconst (pc' := 37) (v := 0) K dX6_put_36 (by decide) rfl ?_
        refine x_aload (pc' := 39) K dX6_put_37 4 rfl rfl ?_
        refine xw6_101g_size (pc' := 42) K hinX6_put_X2 uX6_put_f212 dX6_put_39 rfl ?_
        refine x_iconst (pc' := 43) (v := 1) K dX6_put_42 (by decide) rfl ?_
        refine x_isub (pc' := 44) K dX6_put_43 rfl ?_
        refine x_callS (pc' := 47) K (mX6_within l D cI cO a _ _ _) rfl gX6_put_X6_within dsX6_within ⟨rfl, rfl, ⟨Nat.le_of_ble_eq_true rfl, Nat.le_of_ble_eq_true rfl⟩, Nat.le_of_ble_eq_true rfl, Nat.le_of_ble_eq_true rfl⟩ h (st := []) rfl rfl (Nat.le_of_ble_eq_true rfl) dX6_put_44 rfl (fun r44 h => ?_)
        refine x_if_ne (tgt := 56) (pc' := 50) K dX6_put_47 rfl rfl (fun c47 => ?_) (fun c47 => ?_)
        · replace h := h.1 c47
          refine x_aload (pc' := 58) K dX6_put_56 4 rfl rfl ?_
          refine x_iload_n (pc' := 59) K dX6_put_58 2 rfl rfl ?_
          refine x_iload_n (pc' := 60) K dX6_put_59 3 rfl rfl ?_
          refine x_subV (pc' := 63) (wn := fun F' G' => w6 cI cO a (xspl E23 46 2 F') (xspl H23 68 1 G')) K (mX2_hold l D cI cO (xsub a 101) _ _) rfl gX6_put_X2_hold rfl dsX2_hold ⟨rfl, rfl, ⟨Nat.le_of_ble_eq_true rfl, Nat.le_of_ble_eq_true rfl⟩, Nat.le_of_ble_eq_true rfl, Nat.le_of_ble_eq_true rfl⟩ h 2 0 rfl rfl (xpl33 cI cO a _ _) (fun F' G' => xpr33 cI cO a _ _ F' G') (st := []) rfl rfl (Nat.le_of_ble_eq_true rfl) dX6_put_60 rfl (fun F60 G60 h => ?_)
          obtain ⟨E60, eE60⟩ : ∃ x : xF, x = (xspl E23 46 2 F60) := ⟨_, rfl⟩
          obtain ⟨H60, eH60⟩ : ∃ x : xA, x = (xspl H23 68 1 G60) := ⟨_, rfl⟩
          refine x_weq (w' := w6 cI cO a E60 H60) (by subst eE60; subst eH60; rfl) ?_
          replace h := h E60 eE60
          replace h := h H60 eH60
          refine x_iconst (pc' := 64) (v := 1) K dX6_put_63 (by decide) rfl ?_
          exact x_iret (wf := w6 cI cO a) K h dX6_put_64
        · replace h := h.2 c47
          refine x_aload_n (pc' := 51) K dX6_put_50 0 rfl rfl ?_
          refine x_iconst (pc' := 52) (v := 1) K dX6_put_51 (by decide) rfl ?_
          refine x_callI (pc' := 55) K (mX6_error l D cI cO a _) rfl gX6_put_X6_error rfl dsX6_error ⟨rfl, rfl, ⟨Nat.le_of_ble_eq_true rfl, Nat.le_of_ble_eq_true rfl⟩, Nat.le_of_ble_eq_true rfl, Nat.le_of_ble_eq_true rfl⟩ h 6 0 rfl rfl (st := []) rfl rfl (Nat.le_of_ble_eq_true rfl) dX6_put_52 rfl (fun r52 F52 G52 h => ?_)
          exact x_iret (wf := w6 cI cO a) K h dX6_put_55
      · replace h := h.2 c26
        refine x_aload_n (pc' := 30) K dX6_put_29 0 rfl rfl ?_
        refine x_iconst (pc' := 31) (v := 2) K dX6_put_30 (by decide) rfl ?_
        refine x_callI (pc' := 34) K (mX6_error l D cI cO a _) rfl gX6_put_X6_error rfl dsX6_error ⟨rfl, rfl, ⟨Nat.le_of_ble_eq_true rfl, Nat.le_of_ble_eq_true rfl⟩, Nat.le_of_ble_eq_true rfl, Nat.le_of_ble_eq_true rfl⟩ h 6 0 rfl rfl (st := []) rfl rfl (Nat.le_of_ble_eq_true rfl) dX6_put_31 rfl (fun r31 F31 G31 h => ?_)
        exact x_iret (wf := w6 cI cO a) K h dX6_put_34
    · replace h := h.2.2.2 e18
      refine xw6_96q3 (pc' := 19) K i18 e18 dX6_put_18 rfl ?_
      refine x_astore (pc' := 21) (i := 4) K dX6_put_19 (by decide) [1, 2, 3, 4, 0] (L' := [(0, .ref (a 0)), (1, .int _), (2, .int _), (3, .int _), (4, .ref (a 103))]) rfl rfl ?_
      refine x_aload (pc' := 23) K dX6_put_21 4 rfl rfl ?_
      refine x_subI (pc' := 26) (wn := fun F' G' => w6 cI cO a (xspl F 48 2 F') (xspl G 69 1 G')) K (mX2_isMissing l D cI cO (xsub a 103)) rfl gX6_put_X2_isMissing rfl dsX2_isMissing ⟨rfl, rfl, ⟨Nat.le_of_ble_eq_true rfl, Nat.le_of_ble_eq_true rfl⟩, Nat.le_of_ble_eq_true rfl, Nat.le_of_ble_eq_true rfl⟩ h 2 0 rfl rfl (xpl34 cI cO a _ _) (fun F' G' => xpr34 cI cO a _ _ F' G') (st := []) rfl rfl (Nat.le_of_ble_eq_true rfl) dX6_put_23 rfl (fun r23 F23 G23 h => ?_)
      obtain ⟨E23, eE23⟩ : ∃ x : xF, x = (xspl F 48 2 F23) := ⟨_, rfl⟩
      obtain ⟨H23, eH23⟩ : ∃ x : xA, x = (xspl G 69 1 G23) := ⟨_, rfl⟩
      refine x_weq (w' := w6 cI cO a E23 H23) (by subst eE23; subst eH23; rfl) ?_
      replace h := h E23 eE23
      replace h := h H23 eH23
      refine x_if_eq (tgt := 35) (pc' := 29) K dX6_put_26 rfl rfl (fun c26 => ?_) (fun c26 => ?_)
      · replace h := h.1 c26
        refine x_iload_n (pc' := 36) K dX6_put_35 2 rfl rfl ?_
        refine x_iconst (pc' := 37) (v := 0) K dX6_put_36 (by decide) rfl ?_
        refine x_aload (pc' := 39) K dX6_put_37 4 rfl rfl ?_
        refine xw6_103g_size (pc' := 42) K hinX6_put_X2 uX6_put_f212 dX6_put_39 rfl ?_
        refine x_iconst (pc' := 43) (v := 1) K dX6_put_42 (by decide) rfl ?_
        refine x_isub (pc' := 44) K dX6_put_43 rfl ?_
        refine x_callS (pc' := 47) K (mX6_within l D cI cO a _ _ _) rfl gX6_put_X6_within dsX6_within ⟨rfl, rfl, ⟨Nat.le_of_ble_eq_true rfl, Nat.le_of_ble_eq_true rfl⟩, Nat.le_of_ble_eq_true rfl, Nat.le_of_ble_eq_true rfl⟩ h (st := []) rfl rfl (Nat.le_of_ble_eq_true rfl) dX6_put_44 rfl (fun r44 h => ?_)
        refine x_if_ne (tgt := 56) (pc' := 50) K dX6_put_47 rfl rfl (fun c47 => ?_) (fun c47 => ?_)
        · replace h := h.1 c47
          refine x_aload (pc' := 58) K dX6_put_56 4 rfl rfl ?_
          refine x_iload_n (pc' := 59) K dX6_put_58 2 rfl rfl ?_
          refine x_iload_n (pc' := 60) K dX6_put_59 3 rfl rfl ?_
          refine x_subV (pc' := 63) (wn := fun F' G' => w6 cI cO a (xspl E23 48 2 F') (xspl H23 69 1 G')) K (mX2_hold l D cI cO (xsub a 103) _ _) rfl gX6_put_X2_hold rfl dsX2_hold ⟨rfl, rfl, ⟨Nat.le_of_ble_eq_true rfl, Nat.le_of_ble_eq_true rfl⟩, Nat.le_of_ble_eq_true rfl, Nat.le_of_ble_eq_true rfl⟩ h 2 0 rfl rfl (xpl34 cI cO a _ _) (fun F' G' => xpr34 cI cO a _ _ F' G') (st := []) rfl rfl (Nat.le_of_ble_eq_true rfl) dX6_put_60 rfl (fun F60 G60 h => ?_)
          obtain ⟨E60, eE60⟩ : ∃ x : xF, x = (xspl E23 48 2 F60) := ⟨_, rfl⟩
          obtain ⟨H60, eH60⟩ : ∃ x : xA, x = (xspl H23 69 1 G60) := ⟨_, rfl⟩
          refine x_weq (w' := w6 cI cO a E60 H60) (by subst eE60; subst eH60; rfl) ?_
          replace h := h E60 eE60
          replace h := h H60 eH60
          refine x_iconst (pc' := 64) (v := 1) K dX6_put_63 (by decide) rfl ?_
          exact x_iret (wf := w6 cI cO a) K h dX6_put_64
        · replace h := h.2 c47
          refine x_aload_n (pc' := 51) K dX6_put_50 0 rfl rfl ?_
          refine x_iconst (pc' := 52) (v := 1) K dX6_put_51 (by decide) rfl ?_
          refine x_callI (pc' := 55) K (mX6_error l D cI cO a _) rfl gX6_put_X6_error rfl dsX6_error ⟨rfl, rfl, ⟨Nat.le_of_ble_eq_true rfl, Nat.le_of_ble_eq_true rfl⟩, Nat.le_of_ble_eq_true rfl, Nat.le_of_ble_eq_true rfl⟩ h 6 0 rfl rfl (st := []) rfl rfl (Nat.le_of_ble_eq_true rfl) dX6_put_52 rfl (fun r52 F52 G52 h => ?_)
          exact x_iret (wf := w6 cI cO a) K h dX6_put_55
      · replace h := h.2 c26
        refine x_aload_n (pc' := 30) K dX6_put_29 0 rfl rfl ?_
        refine x_iconst (pc' := 31) (v := 2) K dX6_put_30 (by decide) rfl ?_
        refine x_callI (pc' := 34) K (mX6_error l D cI cO a _) rfl gX6_put_X6_error rfl dsX6_error ⟨rfl, rfl, ⟨Nat.le_of_ble_eq_true rfl, Nat.le_of_ble_eq_true rfl⟩, Nat.le_of_ble_eq_true rfl, Nat.le_of_ble_eq_true rfl⟩ h 6 0 rfl rfl (st := []) rfl rfl (Nat.le_of_ble_eq_true rfl) dX6_put_31 rfl (fun r31 F31 G31 h => ?_)
        exact x_iret (wf := w6 cI cO a) K h dX6_put_34
  · replace h := h.2 c4
    refine x_aload_n (pc' := 8) K dX6_put_7 0 rfl rfl ?_
    refine x_iconst (pc' := 9) (v := 1) K dX6_put_8 (by decide) rfl ?_
    refine x_callI (pc' := 12) K (mX6_error l D cI cO a _) rfl gX6_put_X6_error rfl dsX6_error ⟨rfl, rfl, ⟨Nat.le_of_ble_eq_true rfl, Nat.le_of_ble_eq_true rfl⟩, Nat.le_of_ble_eq_true rfl, Nat.le_of_ble_eq_true rfl⟩ h 6 0 rfl rfl (st := []) rfl rfl (Nat.le_of_ble_eq_true rfl) dX6_put_9 rfl (fun r9 F9 G9 h => ?_)
    exact x_iret (wf := w6 cI cO a) K h dX6_put_12
/-! X6_move -/
abbrev rmX6_move : Room := { frames := 4, cells := 0, slots := 0, locals := 200 }
theorem dsX6_move : xDesc yX6_move 5 := by decide +kernel
theorem uX6_move_f70 : Cond.fieldLink RX6 70 "PigNinths" "sheets" "[LPigNinths$Sheet;" ∈ wsX6_move := nw_in nwl_X6_move nwe_348 (by decide +kernel)
theorem hinX6_move_X6 : ∀ w ∈ wsX60, w ∈ wsX6_move := nw_all nwl_X6_move nwl_X60 (by decide +kernel)
theorem uX6_move_f237 : Cond.fieldLink RX6 237 "PigNinths$Sheet" "bits" "I" ∈ wsX6_move := nw_in nwl_X6_move nwe_493 (by decide +kernel)
theorem hinX6_move_X2 : ∀ w ∈ wsX20, w ∈ wsX6_move := nw_all nwl_X6_move nwl_X20 (by decide +kernel)
theorem uX6_move_f243 : Cond.fieldLink RX6 243 "PigNinths$Sheet" "numbers" "[I" ∈ wsX6_move := nw_in nwl_X6_move nwe_494 (by decide +kernel)
theorem uX6_move_m246 : Cond.methodLink RX6 246 arraycopyName ∈ wsX6_move := nw_in nwl_X6_move nwe_442 (by decide +kernel)
theorem uX6_move_cn : Cond.native arraycopyName ∈ wsX6_move := nw_in nwl_X6_move nwe_99 (by decide +kernel)
theorem uX6_move_cs : Cond.static arraycopyName ∈ wsX6_move := nw_in nwl_X6_move nwe_100 (by decide +kernel)
theorem uX6_move_ci : Cond.initialized "java/lang/System" ∈ wsX6_move := nw_in nwl_X6_move nwe_101 (by decide +kernel)
set_option maxHeartbeats 4000000 in
set_option maxRecDepth 100000 in
theorem mX6_move (l : Launch) (D : va_G) (cI cO : ClassId) (a : Nat → Nat)  (x1 : Int32) (x2 : Int32) (x3 : Int32) (x4 : Int32) (x5 : Int32) : MI l yX6_move wsX6_move rmX6_move D (xtys cI cO) [.ref (a 0), .int x1, .int x2, .int x3, .int x4, .int x5] (w6 cI cO a) (qX6_move x1 x2 x3 x4 x5) := by
  refine MI_of (cc := cX6_move) (maxL := 8) (own := RX6) (by decide) rfl rfl (Nat.le_of_ble_eq_true rfl) ?_
  intro p e s m args below meth c A F G Q h K
  refine x_locals [0, 1, 2, 3, 4, 5] (L' := [(0, .ref (a 0)), (1, .int _), (2, .int _), (3, .int _), (4, .int _), (5, .int _)]) rfl ?_
  refine x_iload_n (pc' := 1) K dX6_move_0 1 rfl rfl ?_
  refine x_callS (pc' := 4) K (mX6_isSheet l D cI cO a _) rfl gX6_move_X6_isSheet dsX6_isSheet ⟨rfl, rfl, ⟨Nat.le_of_ble_eq_true rfl, Nat.le_of_ble_eq_true rfl⟩, Nat.le_of_ble_eq_true rfl, Nat.le_of_ble_eq_true rfl⟩ h (st := []) rfl rfl (Nat.le_of_ble_eq_true rfl) dX6_move_1 rfl (fun r1 h => ?_)
  refine x_if_eq (tgt := 14) (pc' := 7) K dX6_move_4 rfl rfl (fun c4 => ?_) (fun c4 => ?_)
  · replace h := h.1 c4
    refine x_aload_n (pc' := 15) K dX6_move_14 0 rfl rfl ?_
    refine x_iconst (pc' := 16) (v := 1) K dX6_move_15 (by decide) rfl ?_
    refine x_callI (pc' := 19) K (mX6_error l D cI cO a _) rfl gX6_move_X6_error rfl dsX6_error ⟨rfl, rfl, ⟨Nat.le_of_ble_eq_true rfl, Nat.le_of_ble_eq_true rfl⟩, Nat.le_of_ble_eq_true rfl, Nat.le_of_ble_eq_true rfl⟩ h 6 0 rfl rfl (st := []) rfl rfl (Nat.le_of_ble_eq_true rfl) dX6_move_16 rfl (fun r16 F16 G16 h => ?_)
    exact x_iret (wf := w6 cI cO a) K h dX6_move_19
  · replace h := h.2 c4
    refine x_iload_n (pc' := 8) K dX6_move_7 3 rfl rfl ?_
    refine x_callS (pc' := 11) K (mX6_isSheet l D cI cO a _) rfl gX6_move_X6_isSheet dsX6_isSheet ⟨rfl, rfl, ⟨Nat.le_of_ble_eq_true rfl, Nat.le_of_ble_eq_true rfl⟩, Nat.le_of_ble_eq_true rfl, Nat.le_of_ble_eq_true rfl⟩ h (st := []) rfl rfl (Nat.le_of_ble_eq_true rfl) dX6_move_8 rfl (fun r8 h => ?_)
    refine x_if_ne (tgt := 20) (pc' := 14) K dX6_move_11 rfl rfl (fun c11 => ?_) (fun c11 => ?_)
    · replace h := h.1 c11
      refine x_aload_n (pc' := 21) K dX6_move_20 0 rfl rfl ?_
      refine xw6_0g_sheets (pc' := 24) K hinX6_move_X6 uX6_move_f70 dX6_move_21 rfl ?_
      refine x_iload_n (pc' := 25) K dX6_move_24 1 rfl rfl ?_
      obtain ⟨i25, h⟩ := h
      rcases xin4 i25 with e25 | e25 | e25 | e25
      · replace h := h.1 e25
        refine xw6_96q0 (pc' := 26) K i25 e25 dX6_move_25 rfl ?_
        refine x_astore (pc' := 28) (i := 6) K dX6_move_26 (by decide) [1, 2, 3, 4, 5, 6, 0] (L' := [(0, .ref (a 0)), (1, .int _), (2, .int _), (3, .int _), (4, .int _), (5, .int _), (6, .ref (a 97))]) rfl rfl ?_
        refine x_aload_n (pc' := 29) K dX6_move_28 0 rfl rfl ?_
        refine xw6_0g_sheets (pc' := 32) K hinX6_move_X6 uX6_move_f70 dX6_move_29 rfl ?_
        refine x_iload_n (pc' := 33) K dX6_move_32 3 rfl rfl ?_
        obtain ⟨i33, h⟩ := h
        rcases xin4 i33 with e33 | e33 | e33 | e33
        · replace h := h.1 e33
          refine xw6_96q0 (pc' := 34) K i33 e33 dX6_move_33 rfl ?_
          refine x_astore (pc' := 36) (i := 7) K dX6_move_34 (by decide) [1, 2, 3, 4, 5, 6, 7, 0] (L' := [(0, .ref (a 0)), (1, .int _), (2, .int _), (3, .int _), (4, .int _), (5, .int _), (6, .ref (a 97)), (7, .ref (a 97))]) rfl rfl ?_
          refine x_aload (pc' := 38) K dX6_move_36 6 rfl rfl ?_
          refine x_subI (pc' := 41) (wn := fun F' G' => w6 cI cO a (xspl F 42 2 F') (xspl G 66 1 G')) K (mX2_isMissing l D cI cO (xsub a 97)) rfl gX6_move_X2_isMissing rfl dsX2_isMissing ⟨rfl, rfl, ⟨Nat.le_of_ble_eq_true rfl, Nat.le_of_ble_eq_true rfl⟩, Nat.le_of_ble_eq_true rfl, Nat.le_of_ble_eq_true rfl⟩ h 2 0 rfl rfl (xpl31 cI cO a _ _) (fun F' G' => xpr31 cI cO a _ _ F' G') (st := []) rfl rfl (Nat.le_of_ble_eq_true rfl) dX6_move_38 rfl (fun r38 F38 G38 h => ?_)
          obtain ⟨E38, eE38⟩ : ∃ x : xF, x = (xspl F 42 2 F38) := ⟨_, rfl⟩
          obtain ⟨H38, eH38⟩ : ∃ x : xA, x = (xspl G 66 1 G38) := ⟨_, rfl⟩
          refine x_weq (w' := w6 cI cO a E38 H38) (by subst eE38; subst eH38; rfl) ?_
          replace h := h E38 eE38
          replace h := h H38 eH38
          refine x_if_ne (tgt := 52) (pc' := 44) K dX6_move_41 rfl rfl (fun c41 => ?_) (fun c41 => ?_)
          · replace h := h.1 c41
            refine x_aload_n (pc' := 53) K dX6_move_52 0 rfl rfl ?_
            refine x_iconst (pc' := 54) (v := 2) K dX6_move_53 (by decide) rfl ?_
            refine x_callI (pc' := 57) K (mX6_error l D cI cO a _) rfl gX6_move_X6_error rfl dsX6_error ⟨rfl, rfl, ⟨Nat.le_of_ble_eq_true rfl, Nat.le_of_ble_eq_true rfl⟩, Nat.le_of_ble_eq_true rfl, Nat.le_of_ble_eq_true rfl⟩ h 6 0 rfl rfl (st := []) rfl rfl (Nat.le_of_ble_eq_true rfl) dX6_move_54 rfl (fun r54 F54 G54 h => ?_)
            exact x_iret (wf := w6 cI cO a) K h dX6_move_57
          · replace h := h.2 c41
            refine x_aload (pc' := 46) K dX6_move_44 7 rfl rfl ?_
            refine x_subI (pc' := 49) (wn := fun F' G' => w6 cI cO a (xspl E38 42 2 F') (xspl H38 66 1 G')) K (mX2_isMissing l D cI cO (xsub a 97)) rfl gX6_move_X2_isMissing rfl dsX2_isMissing ⟨rfl, rfl, ⟨Nat.le_of_ble_eq_true rfl, Nat.le_of_ble_eq_true rfl⟩, Nat.le_of_ble_eq_true rfl, Nat.le_of_ble_eq_true rfl⟩ h 2 0 rfl rfl (xpl31 cI cO a _ _) (fun F' G' => xpr31 cI cO a _ _ F' G') (st := []) rfl rfl (Nat.le_of_ble_eq_true rfl) dX6_move_46 rfl (fun r46 F46 G46 h => ?_)
            obtain ⟨E46, eE46⟩ : ∃ x : xF, x = (xspl E38 42 2 F46) := ⟨_, rfl⟩
            obtain ⟨H46, eH46⟩ : ∃ x : xA, x = (xspl H38 66 1 G46) := ⟨_, rfl⟩
            refine x_weq (w' := w6 cI cO a E46 H46) (by subst eE46; subst eH46; rfl) ?_
            replace h := h E46 eE46
            replace h := h H46 eH46
            refine x_if_eq (tgt := 58) (pc' := 52) K dX6_move_49 rfl rfl (fun c49 => ?_) (fun c49 => ?_)
            · replace h := h.1 c49
              refine x_aload (pc' := 60) K dX6_move_58 6 rfl rfl ?_
              refine xw6_97g_bits (pc' := 63) K hinX6_move_X2 uX6_move_f237 dX6_move_60 rfl ?_
              refine x_aload (pc' := 65) K dX6_move_63 7 rfl rfl ?_
              refine xw6_97g_bits (pc' := 68) K hinX6_move_X2 uX6_move_f237 dX6_move_65 rfl ?_
              refine x_icmp_eq (tgt := 77) (pc' := 71) K dX6_move_68 rfl rfl (fun c68 => ?_) (fun c68 => ?_)
              · replace h := h.1 c68
                refine x_aload (pc' := 79) K dX6_move_77 6 rfl rfl ?_
                refine x_iload_n (pc' := 80) K dX6_move_79 2 rfl rfl ?_
                refine x_iload (pc' := 82) K dX6_move_80 5 rfl rfl ?_
                refine x_subI (pc' := 85) (wn := fun F' G' => w6 cI cO a (xspl E46 42 2 F') (xspl H46 66 1 G')) K (mX2_holdsPart l D cI cO (xsub a 97) _ _) rfl gX6_move_X2_holdsPart rfl dsX2_holdsPart ⟨rfl, rfl, ⟨Nat.le_of_ble_eq_true rfl, Nat.le_of_ble_eq_true rfl⟩, Nat.le_of_ble_eq_true rfl, Nat.le_of_ble_eq_true rfl⟩ h 2 0 rfl rfl (xpl31 cI cO a _ _) (fun F' G' => xpr31 cI cO a _ _ F' G') (st := []) rfl rfl (Nat.le_of_ble_eq_true rfl) dX6_move_82 rfl (fun r82 F82 G82 h => ?_)
                obtain ⟨E82, eE82⟩ : ∃ x : xF, x = (xspl E46 42 2 F82) := ⟨_, rfl⟩
                obtain ⟨H82, eH82⟩ : ∃ x : xA, x = (xspl H46 66 1 G82) := ⟨_, rfl⟩
                refine x_weq (w' := w6 cI cO a E82 H82) (by subst eE82; subst eH82; rfl) ?_
                replace h := h E82 eE82
                replace h := h H82 eH82
                refine x_if_eq (tgt := 100) (pc' := 88) K dX6_move_85 rfl rfl (fun c85 => ?_) (fun c85 => ?_)
                · replace h := h.1 c85
                  refine x_aload_n (pc' := 101) K dX6_move_100 0 rfl rfl ?_
                  refine x_iconst (pc' := 102) (v := 1) K dX6_move_101 (by decide) rfl ?_
                  refine x_callI (pc' := 105) K (mX6_error l D cI cO a _) rfl gX6_move_X6_error rfl dsX6_error ⟨rfl, rfl, ⟨Nat.le_of_ble_eq_true rfl, Nat.le_of_ble_eq_true rfl⟩, Nat.le_of_ble_eq_true rfl, Nat.le_of_ble_eq_true rfl⟩ h 6 0 rfl rfl (st := []) rfl rfl (Nat.le_of_ble_eq_true rfl) dX6_move_102 rfl (fun r102 F102 G102 h => ?_)
                  exact x_iret (wf := w6 cI cO a) K h dX6_move_105
                · replace h := h.2 c85
                  refine x_aload (pc' := 90) K dX6_move_88 7 rfl rfl ?_
                  refine x_iload (pc' := 92) K dX6_move_90 4 rfl rfl ?_
                  refine x_iload (pc' := 94) K dX6_move_92 5 rfl rfl ?_
                  refine x_subI (pc' := 97) (wn := fun F' G' => w6 cI cO a (xspl E82 42 2 F') (xspl H82 66 1 G')) K (mX2_holdsPart l D cI cO (xsub a 97) _ _) rfl gX6_move_X2_holdsPart rfl dsX2_holdsPart ⟨rfl, rfl, ⟨Nat.le_of_ble_eq_true rfl, Nat.le_of_ble_eq_true rfl⟩, Nat.le_of_ble_eq_true rfl, Nat.le_of_ble_eq_true rfl⟩ h 2 0 rfl rfl (xpl31 cI cO a _ _) (fun F' G' => xpr31 cI cO a _ _ F' G') (st := []) rfl rfl (Nat.le_of_ble_eq_true rfl) dX6_move_94 rfl (fun r94 F94 G94 h => ?_)
                  obtain ⟨E94, eE94⟩ : ∃ x : xF, x = (xspl E82 42 2 F94) := ⟨_, rfl⟩
                  obtain ⟨H94, eH94⟩ : ∃ x : xA, x = (xspl H82 66 1 G94) := ⟨_, rfl⟩
                  refine x_weq (w' := w6 cI cO a E94 H94) (by subst eE94; subst eH94; rfl) ?_
                  replace h := h E94 eE94
                  replace h := h H94 eH94
                  refine x_if_ne (tgt := 106) (pc' := 100) K dX6_move_97 rfl rfl (fun c97 => ?_) (fun c97 => ?_)
                  · replace h := h.1 c97
                    refine x_aload (pc' := 108) K dX6_move_106 6 rfl rfl ?_
                    refine xw6_97g_numbers (pc' := 111) K hinX6_move_X2 uX6_move_f243 dX6_move_108 rfl ?_
                    refine x_iload_n (pc' := 112) K dX6_move_111 2 rfl rfl ?_
                    refine x_aload (pc' := 114) K dX6_move_112 7 rfl rfl ?_
                    refine xw6_97g_numbers (pc' := 117) K hinX6_move_X2 uX6_move_f243 dX6_move_114 rfl ?_
                    refine x_iload (pc' := 119) K dX6_move_117 4 rfl rfl ?_
                    refine x_iload (pc' := 121) K dX6_move_119 5 rfl rfl ?_
                    obtain ⟨z121s, h⟩ := h
                    obtain ⟨z121d, h⟩ := h
                    obtain ⟨z121n, h⟩ := h
                    obtain ⟨z121p, h⟩ := h
                    obtain ⟨z121q, h⟩ := h
                    refine x_copy (pc' := 124) (w' := w6 cI cO a E94 (va_up H94 66 (va_cpy (H94 66) (H94 66) x2.toNatClampNeg x4.toNatClampNeg x5.toNatClampNeg))) K uX6_move_m246 uX6_move_cn uX6_move_cs uX6_move_ci 98 98 (f := H94 66) (g := H94 66) (n0 := 24) (n1 := 24) (cA := cI) rfl rfl rfl z121s z121d z121n z121p z121q rfl (by decide +kernel) (by decide +kernel) dX6_move_121 rfl ?_
                    obtain ⟨G121, eG121⟩ : ∃ x : xA, x = va_up H94 66 (va_cpy (H94 66) (H94 66) x2.toNatClampNeg x4.toNatClampNeg x5.toNatClampNeg) := ⟨_, rfl⟩
                    refine x_weq (w' := w6 cI cO a E94 G121) (by subst eG121; rfl) ?_
                    replace h := h G121 eG121
                    refine x_iload (pc' := 126) K dX6_move_124 5 rfl rfl ?_
                    exact x_iret (wf := w6 cI cO a) K h dX6_move_126
                  · replace h := h.2 c97
                    refine x_aload_n (pc' := 101) K dX6_move_100 0 rfl rfl ?_
                    refine x_iconst (pc' := 102) (v := 1) K dX6_move_101 (by decide) rfl ?_
                    refine x_callI (pc' := 105) K (mX6_error l D cI cO a _) rfl gX6_move_X6_error rfl dsX6_error ⟨rfl, rfl, ⟨Nat.le_of_ble_eq_true rfl, Nat.le_of_ble_eq_true rfl⟩, Nat.le_of_ble_eq_true rfl, Nat.le_of_ble_eq_true rfl⟩ h 6 0 rfl rfl (st := []) rfl rfl (Nat.le_of_ble_eq_true rfl) dX6_move_102 rfl (fun r102 F102 G102 h => ?_)
                    exact x_iret (wf := w6 cI cO a) K h dX6_move_105
              · replace h := h.2 c68
                refine x_aload_n (pc' := 72) K dX6_move_71 0 rfl rfl ?_
                refine x_iconst (pc' := 73) (v := 5) K dX6_move_72 (by decide) rfl ?_
                refine x_callI (pc' := 76) K (mX6_error l D cI cO a _) rfl gX6_move_X6_error rfl dsX6_error ⟨rfl, rfl, ⟨Nat.le_of_ble_eq_true rfl, Nat.le_of_ble_eq_true rfl⟩, Nat.le_of_ble_eq_true rfl, Nat.le_of_ble_eq_true rfl⟩ h 6 0 rfl rfl (st := []) rfl rfl (Nat.le_of_ble_eq_true rfl) dX6_move_73 rfl (fun r73 F73 G73 h => ?_)
                exact x_iret (wf := w6 cI cO a) K h dX6_move_76
            · replace h := h.2 c49
              refine x_aload_n (pc' := 53) K dX6_move_52 0 rfl rfl ?_
              refine x_iconst (pc' := 54) (v := 2) K dX6_move_53 (by decide) rfl ?_
              refine x_callI (pc' := 57) K (mX6_error l D cI cO a _) rfl gX6_move_X6_error rfl dsX6_error ⟨rfl, rfl, ⟨Nat.le_of_ble_eq_true rfl, Nat.le_of_ble_eq_true rfl⟩, Nat.le_of_ble_eq_true rfl, Nat.le_of_ble_eq_true rfl⟩ h 6 0 rfl rfl (st := []) rfl rfl (Nat.le_of_ble_eq_true rfl) dX6_move_54 rfl (fun r54 F54 G54 h => ?_)
              exact x_iret (wf := w6 cI cO a) K h dX6_move_57
        · replace h := h.2.1 e33
          refine xw6_96q1 (pc' := 34) K i33 e33 dX6_move_33 rfl ?_
          refine x_astore (pc' := 36) (i := 7) K dX6_move_34 (by decide) [1, 2, 3, 4, 5, 6, 7, 0] (L' := [(0, .ref (a 0)), (1, .int _), (2, .int _), (3, .int _), (4, .int _), (5, .int _), (6, .ref (a 97)), (7, .ref (a 99))]) rfl rfl ?_
          refine x_aload (pc' := 38) K dX6_move_36 6 rfl rfl ?_
          refine x_subI (pc' := 41) (wn := fun F' G' => w6 cI cO a (xspl F 42 2 F') (xspl G 66 1 G')) K (mX2_isMissing l D cI cO (xsub a 97)) rfl gX6_move_X2_isMissing rfl dsX2_isMissing ⟨rfl, rfl, ⟨Nat.le_of_ble_eq_true rfl, Nat.le_of_ble_eq_true rfl⟩, Nat.le_of_ble_eq_true rfl, Nat.le_of_ble_eq_true rfl⟩ h 2 0 rfl rfl (xpl31 cI cO a _ _) (fun F' G' => xpr31 cI cO a _ _ F' G') (st := []) rfl rfl (Nat.le_of_ble_eq_true rfl) dX6_move_38 rfl (fun r38 F38 G38 h => ?_)
          obtain ⟨E38, eE38⟩ : ∃ x : xF, x = (xspl F 42 2 F38) := ⟨_, rfl⟩
          obtain ⟨H38, eH38⟩ : ∃ x : xA, x = (xspl G 66 1 G38) := ⟨_, rfl⟩
          refine x_weq (w' := w6 cI cO a E38 H38) (by subst eE38; subst eH38; rfl) ?_
          replace h := h E38 eE38
          replace h := h H38 eH38
          refine x_if_ne (tgt := 52) (pc' := 44) K dX6_move_41 rfl rfl (fun c41 => ?_) (fun c41 => ?_)
          · replace h := h.1 c41
            refine x_aload_n (pc' := 53) K dX6_move_52 0 rfl rfl ?_
            refine x_iconst (pc' := 54) (v := 2) K dX6_move_53 (by decide) rfl ?_
            refine x_callI (pc' := 57) K (mX6_error l D cI cO a _) rfl gX6_move_X6_error rfl dsX6_error ⟨rfl, rfl, ⟨Nat.le_of_ble_eq_true rfl, Nat.le_of_ble_eq_true rfl⟩, Nat.le_of_ble_eq_true rfl, Nat.le_of_ble_eq_true rfl⟩ h 6 0 rfl rfl (st := []) rfl rfl (Nat.le_of_ble_eq_true rfl) dX6_move_54 rfl (fun r54 F54 G54 h => ?_)
            exact x_iret (wf := w6 cI cO a) K h dX6_move_57
          · replace h := h.2 c41
            refine x_aload (pc' := 46) K dX6_move_44 7 rfl rfl ?_
            refine x_subI (pc' := 49) (wn := fun F' G' => w6 cI cO a (xspl E38 44 2 F') (xspl H38 67 1 G')) K (mX2_isMissing l D cI cO (xsub a 99)) rfl gX6_move_X2_isMissing rfl dsX2_isMissing ⟨rfl, rfl, ⟨Nat.le_of_ble_eq_true rfl, Nat.le_of_ble_eq_true rfl⟩, Nat.le_of_ble_eq_true rfl, Nat.le_of_ble_eq_true rfl⟩ h 2 0 rfl rfl (xpl32 cI cO a _ _) (fun F' G' => xpr32 cI cO a _ _ F' G') (st := []) rfl rfl (Nat.le_of_ble_eq_true rfl) dX6_move_46 rfl (fun r46 F46 G46 h => ?_)
            obtain ⟨E46, eE46⟩ : ∃ x : xF, x = (xspl E38 44 2 F46) := ⟨_, rfl⟩
            obtain ⟨H46, eH46⟩ : ∃ x : xA, x = (xspl H38 67 1 G46) := ⟨_, rfl⟩
            refine x_weq (w' := w6 cI cO a E46 H46) (by subst eE46; subst eH46; rfl) ?_
            replace h := h E46 eE46
            replace h := h H46 eH46
            refine x_if_eq (tgt := 58) (pc' := 52) K dX6_move_49 rfl rfl (fun c49 => ?_) (fun c49 => ?_)
            · replace h := h.1 c49
              refine x_aload (pc' := 60) K dX6_move_58 6 rfl rfl ?_
              refine xw6_97g_bits (pc' := 63) K hinX6_move_X2 uX6_move_f237 dX6_move_60 rfl ?_
              refine x_aload (pc' := 65) K dX6_move_63 7 rfl rfl ?_
              refine xw6_99g_bits (pc' := 68) K hinX6_move_X2 uX6_move_f237 dX6_move_65 rfl ?_
              refine x_icmp_eq (tgt := 77) (pc' := 71) K dX6_move_68 rfl rfl (fun c68 => ?_) (fun c68 => ?_)
              · replace h := h.1 c68
                refine x_aload (pc' := 79) K dX6_move_77 6 rfl rfl ?_
                refine x_iload_n (pc' := 80) K dX6_move_79 2 rfl rfl ?_
                refine x_iload (pc' := 82) K dX6_move_80 5 rfl rfl ?_
                refine x_subI (pc' := 85) (wn := fun F' G' => w6 cI cO a (xspl E46 42 2 F') (xspl H46 66 1 G')) K (mX2_holdsPart l D cI cO (xsub a 97) _ _) rfl gX6_move_X2_holdsPart rfl dsX2_holdsPart ⟨rfl, rfl, ⟨Nat.le_of_ble_eq_true rfl, Nat.le_of_ble_eq_true rfl⟩, Nat.le_of_ble_eq_true rfl, Nat.le_of_ble_eq_true rfl⟩ h 2 0 rfl rfl (xpl31 cI cO a _ _) (fun F' G' => xpr31 cI cO a _ _ F' G') (st := []) rfl rfl (Nat.le_of_ble_eq_true rfl) dX6_move_82 rfl (fun r82 F82 G82 h => ?_)
                obtain ⟨E82, eE82⟩ : ∃ x : xF, x = (xspl E46 42 2 F82) := ⟨_, rfl⟩
                obtain ⟨H82, eH82⟩ : ∃ x : xA, x = (xspl H46 66 1 G82) := ⟨_, rfl⟩
                refine x_weq (w' := w6 cI cO a E82 H82) (by subst eE82; subst eH82; rfl) ?_
                replace h := h E82 eE82
                replace h := h H82 eH82
                refine x_if_eq (tgt := 100) (pc' := 88) K dX6_move_85 rfl rfl (fun c85 => ?_) (fun c85 => ?_)
                · replace h := h.1 c85
                  refine x_aload_n (pc' := 101) K dX6_move_100 0 rfl rfl ?_
                  refine x_iconst (pc' := 102) (v := 1) K dX6_move_101 (by decide) rfl ?_
                  refine x_callI (pc' := 105) K (mX6_error l D cI cO a _) rfl gX6_move_X6_error rfl dsX6_error ⟨rfl, rfl, ⟨Nat.le_of_ble_eq_true rfl, Nat.le_of_ble_eq_true rfl⟩, Nat.le_of_ble_eq_true rfl, Nat.le_of_ble_eq_true rfl⟩ h 6 0 rfl rfl (st := []) rfl rfl (Nat.le_of_ble_eq_true rfl) dX6_move_102 rfl (fun r102 F102 G102 h => ?_)
                  exact x_iret (wf := w6 cI cO a) K h dX6_move_105
                · replace h := h.2 c85
                  refine x_aload (pc' := 90) K dX6_move_88 7 rfl rfl ?_
                  refine x_iload (pc' := 92) K dX6_move_90 4 rfl rfl ?_
                  refine x_iload (pc' := 94) K dX6_move_92 5 rfl rfl ?_
                  refine x_subI (pc' := 97) (wn := fun F' G' => w6 cI cO a (xspl E82 44 2 F') (xspl H82 67 1 G')) K (mX2_holdsPart l D cI cO (xsub a 99) _ _) rfl gX6_move_X2_holdsPart rfl dsX2_holdsPart ⟨rfl, rfl, ⟨Nat.le_of_ble_eq_true rfl, Nat.le_of_ble_eq_true rfl⟩, Nat.le_of_ble_eq_true rfl, Nat.le_of_ble_eq_true rfl⟩ h 2 0 rfl rfl (xpl32 cI cO a _ _) (fun F' G' => xpr32 cI cO a _ _ F' G') (st := []) rfl rfl (Nat.le_of_ble_eq_true rfl) dX6_move_94 rfl (fun r94 F94 G94 h => ?_)
                  obtain ⟨E94, eE94⟩ : ∃ x : xF, x = (xspl E82 44 2 F94) := ⟨_, rfl⟩
                  obtain ⟨H94, eH94⟩ : ∃ x : xA, x = (xspl H82 67 1 G94) := ⟨_, rfl⟩
                  refine x_weq (w' := w6 cI cO a E94 H94) (by subst eE94; subst eH94; rfl) ?_
                  replace h := h E94 eE94
                  replace h := h H94 eH94
                  refine x_if_ne (tgt := 106) (pc' := 100) K dX6_move_97 rfl rfl (fun c97 => ?_) (fun c97 => ?_)
                  · replace h := h.1 c97
                    refine x_aload (pc' := 108) K dX6_move_106 6 rfl rfl ?_
                    refine xw6_97g_numbers (pc' := 111) K hinX6_move_X2 uX6_move_f243 dX6_move_108 rfl ?_
                    refine x_iload_n (pc' := 112) K dX6_move_111 2 rfl rfl ?_
                    refine x_aload (pc' := 114) K dX6_move_112 7 rfl rfl ?_
                    refine xw6_99g_numbers (pc' := 117) K hinX6_move_X2 uX6_move_f243 dX6_move_114 rfl ?_
                    refine x_iload (pc' := 119) K dX6_move_117 4 rfl rfl ?_
                    refine x_iload (pc' := 121) K dX6_move_119 5 rfl rfl ?_
                    obtain ⟨z121s, h⟩ := h
                    obtain ⟨z121d, h⟩ := h
                    obtain ⟨z121n, h⟩ := h
                    obtain ⟨z121p, h⟩ := h
                    obtain ⟨z121q, h⟩ := h
                    refine x_copy (pc' := 124) (w' := w6 cI cO a E94 (va_up H94 67 (va_cpy (H94 66) (H94 67) x2.toNatClampNeg x4.toNatClampNeg x5.toNatClampNeg))) K uX6_move_m246 uX6_move_cn uX6_move_cs uX6_move_ci 98 100 (f := H94 66) (g := H94 67) (n0 := 24) (n1 := 24) (cA := cI) rfl rfl rfl z121s z121d z121n z121p z121q rfl (by decide +kernel) (by decide +kernel) dX6_move_121 rfl ?_
                    obtain ⟨G121, eG121⟩ : ∃ x : xA, x = va_up H94 67 (va_cpy (H94 66) (H94 67) x2.toNatClampNeg x4.toNatClampNeg x5.toNatClampNeg) := ⟨_, rfl⟩
                    refine x_weq (w' := w6 cI cO a E94 G121) (by subst eG121; rfl) ?_
                    replace h := h G121 eG121
                    refine x_iload (pc' := 126) K dX6_move_124 5 rfl rfl ?_
                    exact x_iret (wf := w6 cI cO a) K h dX6_move_126
                  · replace h := h.2 c97
                    refine x_aload_n (pc' := 101) K dX6_move_100 0 rfl rfl ?_
                    refine x_iconst (pc' := 102) (v := 1) K dX6_move_101 (by decide) rfl ?_
                    refine x_callI (pc' := 105) K (mX6_error l D cI cO a _) rfl gX6_move_X6_error rfl dsX6_error ⟨rfl, rfl, ⟨Nat.le_of_ble_eq_true rfl, Nat.le_of_ble_eq_true rfl⟩, Nat.le_of_ble_eq_true rfl, Nat.le_of_ble_eq_true rfl⟩ h 6 0 rfl rfl (st := []) rfl rfl (Nat.le_of_ble_eq_true rfl) dX6_move_102 rfl (fun r102 F102 G102 h => ?_)
                    exact x_iret (wf := w6 cI cO a) K h dX6_move_105
              · replace h := h.2 c68
                refine x_aload_n (pc' := 72) K dX6_move_71 0 rfl rfl ?_
                refine x_iconst (pc' := 73) (v := 5) K dX6_move_72 (by decide) rfl ?_
                refine x_callI (pc' := 76) K (mX6_error l D cI cO a _) rfl gX6_move_X6_error rfl dsX6_error ⟨rfl, rfl, ⟨Nat.le_of_ble_eq_true rfl, Nat.le_of_ble_eq_true rfl⟩, Nat.le_of_ble_eq_true rfl, Nat.le_of_ble_eq_true rfl⟩ h 6 0 rfl rfl (st := []) rfl rfl (Nat.le_of_ble_eq_true rfl) dX6_move_73 rfl (fun r73 F73 G73 h => ?_)
                exact x_iret (wf := w6 cI cO a) K h dX6_move_76
            · replace h := h.2 c49
              refine x_aload_n (pc' := 53) K dX6_move_52 0 rfl rfl ?_
              refine x_iconst (pc' := 54) (v := 2) K dX6_move_53 (by decide) rfl ?_
              refine x_callI (pc' := 57) K (mX6_error l D cI cO a _) rfl gX6_move_X6_error rfl dsX6_error ⟨rfl, rfl, ⟨Nat.le_of_ble_eq_true rfl, Nat.le_of_ble_eq_true rfl⟩, Nat.le_of_ble_eq_true rfl, Nat.le_of_ble_eq_true rfl⟩ h 6 0 rfl rfl (st := []) rfl rfl (Nat.le_of_ble_eq_true rfl) dX6_move_54 rfl (fun r54 F54 G54 h => ?_)
              exact x_iret (wf := w6 cI cO a) K h dX6_move_57
        · replace h := h.2.2.1 e33
          refine xw6_96q2 (pc' := 34) K i33 e33 dX6_move_33 rfl ?_
          refine x_astore (pc' := 36) (i := 7) K dX6_move_34 (by decide) [1, 2, 3, 4, 5, 6, 7, 0] (L' := [(0, .ref (a 0)), (1, .int _), (2, .int _), (3, .int _), (4, .int _), (5, .int _), (6, .ref (a 97)), (7, .ref (a 101))]) rfl rfl ?_
          refine x_aload (pc' := 38) K dX6_move_36 6 rfl rfl ?_
          refine x_subI (pc' := 41) (wn := fun F' G' => w6 cI cO a (xspl F 42 2 F') (xspl G 66 1 G')) K (mX2_isMissing l D cI cO (xsub a 97)) rfl gX6_move_X2_isMissing rfl dsX2_isMissing ⟨rfl, rfl, ⟨Nat.le_of_ble_eq_true rfl, Nat.le_of_ble_eq_true rfl⟩, Nat.le_of_ble_eq_true rfl, Nat.le_of_ble_eq_true rfl⟩ h 2 0 rfl rfl (xpl31 cI cO a _ _) (fun F' G' => xpr31 cI cO a _ _ F' G') (st := []) rfl rfl (Nat.le_of_ble_eq_true rfl) dX6_move_38 rfl (fun r38 F38 G38 h => ?_)
          obtain ⟨E38, eE38⟩ : ∃ x : xF, x = (xspl F 42 2 F38) := ⟨_, rfl⟩
          obtain ⟨H38, eH38⟩ : ∃ x : xA, x = (xspl G 66 1 G38) := ⟨_, rfl⟩
          refine x_weq (w' := w6 cI cO a E38 H38) (by subst eE38; subst eH38; rfl) ?_
          replace h := h E38 eE38
          replace h := h H38 eH38
          refine x_if_ne (tgt := 52) (pc' := 44) K dX6_move_41 rfl rfl (fun c41 => ?_) (fun c41 => ?_)
          · replace h := h.1 c41
            refine x_aload_n (pc' := 53) K dX6_move_52 0 rfl rfl ?_
            refine x_iconst (pc' := 54) (v := 2) K dX6_move_53 (by decide) rfl ?_
            refine x_callI (pc' := 57) K (mX6_error l D cI cO a _) rfl gX6_move_X6_error rfl dsX6_error ⟨rfl, rfl, ⟨Nat.le_of_ble_eq_true rfl, Nat.le_of_ble_eq_true rfl⟩, Nat.le_of_ble_eq_true rfl, Nat.le_of_ble_eq_true rfl⟩ h 6 0 rfl rfl (st := []) rfl rfl (Nat.le_of_ble_eq_true rfl) dX6_move_54 rfl (fun r54 F54 G54 h => ?_)
            exact x_iret (wf := w6 cI cO a) K h dX6_move_57
          · replace h := h.2 c41
            refine x_aload (pc' := 46) K dX6_move_44 7 rfl rfl ?_
            refine x_subI (pc' := 49) (wn := fun F' G' => w6 cI cO a (xspl E38 46 2 F') (xspl H38 68 1 G')) K (mX2_isMissing l D cI cO (xsub a 101)) rfl gX6_move_X2_isMissing rfl dsX2_isMissing ⟨rfl, rfl, ⟨Nat.le_of_ble_eq_true rfl, Nat.le_of_ble_eq_true rfl⟩, Nat.le_of_ble_eq_true rfl, Nat.le_of_ble_eq_true rfl⟩ h 2 0 rfl rfl (xpl33 cI cO a _ _) (fun F' G' => xpr33 cI cO a _ _ F' G') (st := []) rfl rfl (Nat.le_of_ble_eq_true rfl) dX6_move_46 rfl (fun r46 F46 G46 h => ?_)
            obtain ⟨E46, eE46⟩ : ∃ x : xF, x = (xspl E38 46 2 F46) := ⟨_, rfl⟩
            obtain ⟨H46, eH46⟩ : ∃ x : xA, x = (xspl H38 68 1 G46) := ⟨_, rfl⟩
            refine x_weq (w' := w6 cI cO a E46 H46) (by subst eE46; subst eH46; rfl) ?_
            replace h := h E46 eE46
            replace h := h H46 eH46
            refine x_if_eq (tgt := 58) (pc' := 52) K dX6_move_49 rfl rfl (fun c49 => ?_) (fun c49 => ?_)
            · replace h := h.1 c49
              refine x_aload (pc' := 60) K dX6_move_58 6 rfl rfl ?_
              refine xw6_97g_bits (pc' := 63) K hinX6_move_X2 uX6_move_f237 dX6_move_60 rfl ?_
              refine x_aload (pc' := 65) K dX6_move_63 7 rfl rfl ?_
              refine xw6_101g_bits (pc' := 68) K hinX6_move_X2 uX6_move_f237 dX6_move_65 rfl ?_
              refine x_icmp_eq (tgt := 77) (pc' := 71) K dX6_move_68 rfl rfl (fun c68 => ?_) (fun c68 => ?_)
              · replace h := h.1 c68
                refine x_aload (pc' := 79) K dX6_move_77 6 rfl rfl ?_
                refine x_iload_n (pc' := 80) K dX6_move_79 2 rfl rfl ?_
                refine x_iload (pc' := 82) K dX6_move_80 5 rfl rfl ?_
                refine x_subI (pc' := 85) (wn := fun F' G' => w6 cI cO a (xspl E46 42 2 F') (xspl H46 66 1 G')) K (mX2_holdsPart l D cI cO (xsub a 97) _ _) rfl gX6_move_X2_holdsPart rfl dsX2_holdsPart ⟨rfl, rfl, ⟨Nat.le_of_ble_eq_true rfl, Nat.le_of_ble_eq_true rfl⟩, Nat.le_of_ble_eq_true rfl, Nat.le_of_ble_eq_true rfl⟩ h 2 0 rfl rfl (xpl31 cI cO a _ _) (fun F' G' => xpr31 cI cO a _ _ F' G') (st := []) rfl rfl (Nat.le_of_ble_eq_true rfl) dX6_move_82 rfl (fun r82 F82 G82 h => ?_)
                obtain ⟨E82, eE82⟩ : ∃ x : xF, x = (xspl E46 42 2 F82) := ⟨_, rfl⟩
                obtain ⟨H82, eH82⟩ : ∃ x : xA, x = (xspl H46 66 1 G82) := ⟨_, rfl⟩
                refine x_weq (w' := w6 cI cO a E82 H82) (by subst eE82; subst eH82; rfl) ?_
                replace h := h E82 eE82
                replace h := h H82 eH82
                refine x_if_eq (tgt := 100) (pc' := 88) K dX6_move_85 rfl rfl (fun c85 => ?_) (fun c85 => ?_)
                · replace h := h.1 c85
                  refine x_aload_n (pc' := 101) K dX6_move_100 0 rfl rfl ?_
                  refine x_iconst (pc' := 102) (v := 1) K dX6_move_101 (by decide) rfl ?_
                  refine x_callI (pc' := 105) K (mX6_error l D cI cO a _) rfl gX6_move_X6_error rfl dsX6_error ⟨rfl, rfl, ⟨Nat.le_of_ble_eq_true rfl, Nat.le_of_ble_eq_true rfl⟩, Nat.le_of_ble_eq_true rfl, Nat.le_of_ble_eq_true rfl⟩ h 6 0 rfl rfl (st := []) rfl rfl (Nat.le_of_ble_eq_true rfl) dX6_move_102 rfl (fun r102 F102 G102 h => ?_)
                  exact x_iret (wf := w6 cI cO a) K h dX6_move_105
                · replace h := h.2 c85
                  refine x_aload (pc' := 90) K dX6_move_88 7 rfl rfl ?_
                  refine x_iload (pc' := 92) K dX6_move_90 4 rfl rfl ?_
                  refine x_iload (pc' := 94) K dX6_move_92 5 rfl rfl ?_
                  refine x_subI (pc' := 97) (wn := fun F' G' => w6 cI cO a (xspl E82 46 2 F') (xspl H82 68 1 G')) K (mX2_holdsPart l D cI cO (xsub a 101) _ _) rfl gX6_move_X2_holdsPart rfl dsX2_holdsPart ⟨rfl, rfl, ⟨Nat.le_of_ble_eq_true rfl, Nat.le_of_ble_eq_true rfl⟩, Nat.le_of_ble_eq_true rfl, Nat.le_of_ble_eq_true rfl⟩ h 2 0 rfl rfl (xpl33 cI cO a _ _) (fun F' G' => xpr33 cI cO a _ _ F' G') (st := []) rfl rfl (Nat.le_of_ble_eq_true rfl) dX6_move_94 rfl (fun r94 F94 G94 h => ?_)
                  obtain ⟨E94, eE94⟩ : ∃ x : xF, x = (xspl E82 46 2 F94) := ⟨_, rfl⟩
                  obtain ⟨H94, eH94⟩ : ∃ x : xA, x = (xspl H82 68 1 G94) := ⟨_, rfl⟩
                  refine x_weq (w' := w6 cI cO a E94 H94) (by subst eE94; subst eH94; rfl) ?_
                  replace h := h E94 eE94
                  replace h := h H94 eH94
                  refine x_if_ne (tgt := 106) (pc' := 100) K dX6_move_97 rfl rfl (fun c97 => ?_) (fun c97 => ?_)
                  · replace h := h.1 c97
                    refine x_aload (pc' := 108) K dX6_move_106 6 rfl rfl ?_
                    refine xw6_97g_numbers (pc' := 111) K hinX6_move_X2 uX6_move_f243 dX6_move_108 rfl ?_
                    refine x_iload_n (pc' := 112) K dX6_move_111 2 rfl rfl ?_
                    refine x_aload (pc' := 114) K dX6_move_112 7 rfl rfl ?_
                    refine xw6_101g_numbers (pc' := 117) K hinX6_move_X2 uX6_move_f243 dX6_move_114 rfl ?_
                    refine x_iload (pc' := 119) K dX6_move_117 4 rfl rfl ?_
                    refine x_iload (pc' := 121) K dX6_move_119 5 rfl rfl ?_
                    obtain ⟨z121s, h⟩ := h
                    obtain ⟨z121d, h⟩ := h
                    obtain ⟨z121n, h⟩ := h
                    obtain ⟨z121p, h⟩ := h
                    obtain ⟨z121q, h⟩ := h
                    refine x_copy (pc' := 124) (w' := w6 cI cO a E94 (va_up H94 68 (va_cpy (H94 66) (H94 68) x2.toNatClampNeg x4.toNatClampNeg x5.toNatClampNeg))) K uX6_move_m246 uX6_move_cn uX6_move_cs uX6_move_ci 98 102 (f := H94 66) (g := H94 68) (n0 := 24) (n1 := 24) (cA := cI) rfl rfl rfl z121s z121d z121n z121p z121q rfl (by decide +kernel) (by decide +kernel) dX6_move_121 rfl ?_
                    obtain ⟨G121, eG121⟩ : ∃ x : xA, x = va_up H94 68 (va_cpy (H94 66) (H94 68) x2.toNatClampNeg x4.toNatClampNeg x5.toNatClampNeg) := ⟨_, rfl⟩
                    refine x_weq (w' := w6 cI cO a E94 G121) (by subst eG121; rfl) ?_
                    replace h := h G121 eG121
                    refine x_iload (pc' := 126) K dX6_move_124 5 rfl rfl ?_
                    exact x_iret (wf := w6 cI cO a) K h dX6_move_126
                  · replace h := h.2 c97
                    refine x_aload_n (pc' := 101) K dX6_move_100 0 rfl rfl ?_
                    refine x_iconst (pc' := 102) (v := 1) K dX6_move_101 (by decide) rfl ?_
                    refine x_callI (pc' := 105) K (mX6_error l D cI cO a _) rfl gX6_move_X6_error rfl dsX6_error ⟨rfl, rfl, ⟨Nat.le_of_ble_eq_true rfl, Nat.le_of_ble_eq_true rfl⟩, Nat.le_of_ble_eq_true rfl, Nat.le_of_ble_eq_true rfl⟩ h 6 0 rfl rfl (st := []) rfl rfl (Nat.le_of_ble_eq_true rfl) dX6_move_102 rfl (fun r102 F102 G102 h => ?_)
                    exact x_iret (wf := w6 cI cO a) K h dX6_move_105
              · replace h := h.2 c68
                refine x_aload_n (pc' := 72) K dX6_move_71 0 rfl rfl ?_
                refine x_iconst (pc' := 73) (v := 5) K dX6_move_72 (by decide) rfl ?_
                refine x_callI (pc' := 76) K (mX6_error l D cI cO a _) rfl gX6_move_X6_error rfl dsX6_error ⟨rfl, rfl, ⟨Nat.le_of_ble_eq_true rfl, Nat.le_of_ble_eq_true rfl⟩, Nat.le_of_ble_eq_true rfl, Nat.le_of_ble_eq_true rfl⟩ h 6 0 rfl rfl (st := []) rfl rfl (Nat.le_of_ble_eq_true rfl) dX6_move_73 rfl (fun r73 F73 G73 h => ?_)
                exact x_iret (wf := w6 cI cO a) K h dX6_move_76
            · replace h := h.2 c49
              refine x_aload_n (pc' := 53) K dX6_move_52 0 rfl rfl ?_
              refine x_iconst (pc' := 54) (v := 2) K dX6_move_53 (by decide) rfl ?_
              refine x_callI (pc' := 57) K (mX6_error l D cI cO a _) rfl gX6_move_X6_error rfl dsX6_error ⟨rfl, rfl, ⟨Nat.le_of_ble_eq_true rfl, Nat.le_of_ble_eq_true rfl⟩, Nat.le_of_ble_eq_true rfl, Nat.le_of_ble_eq_true rfl⟩ h 6 0 rfl rfl (st := []) rfl rfl (Nat.le_of_ble_eq_true rfl) dX6_move_54 rfl (fun r54 F54 G54 h => ?_)
              exact x_iret (wf := w6 cI cO a) K h dX6_move_57
        · replace h := h.2.2.2 e33
          refine xw6_96q3 (pc' := 34) K i33 e33 dX6_move_33 rfl ?_
          refine x_astore (pc' := 36) (i := 7) K dX6_move_34 (by decide) [1, 2, 3, 4, 5, 6, 7, 0] (L' := [(0, .ref (a 0)), (1, .int _), (2, .int _), (3, .int _), (4, .int _), (5, .int _), (6, .ref (a 97)), (7, .ref (a 103))]) rfl rfl ?_
          refine x_aload (pc' := 38) K dX6_move_36 6 rfl rfl ?_
          refine x_subI (pc' := 41) (wn := fun F' G' => w6 cI cO a (xspl F 42 2 F') (xspl G 66 1 G')) K (mX2_isMissing l D cI cO (xsub a 97)) rfl gX6_move_X2_isMissing rfl dsX2_isMissing ⟨rfl, rfl, ⟨Nat.le_of_ble_eq_true rfl, Nat.le_of_ble_eq_true rfl⟩, Nat.le_of_ble_eq_true rfl, Nat.le_of_ble_eq_true rfl⟩ h 2 0 rfl rfl (xpl31 cI cO a _ _) (fun F' G' => xpr31 cI cO a _ _ F' G') (st := []) rfl rfl (Nat.le_of_ble_eq_true rfl) dX6_move_38 rfl (fun r38 F38 G38 h => ?_)
          obtain ⟨E38, eE38⟩ : ∃ x : xF, x = (xspl F 42 2 F38) := ⟨_, rfl⟩
          obtain ⟨H38, eH38⟩ : ∃ x : xA, x = (xspl G 66 1 G38) := ⟨_, rfl⟩
          refine x_weq (w' := w6 cI cO a E38 H38) (by subst eE38; subst eH38; rfl) ?_
          replace h := h E38 eE38
          replace h := h H38 eH38
          refine x_if_ne (tgt := 52) (pc' := 44) K dX6_move_41 rfl rfl (fun c41 => ?_) (fun c41 => ?_)
          · replace h := h.1 c41
            refine x_aload_n (pc' := 53) K dX6_move_52 0 rfl rfl ?_
            refine x_iconst (pc' := 54) (v := 2) K dX6_move_53 (by decide) rfl ?_
            refine x_callI (pc' := 57) K (mX6_error l D cI cO a _) rfl gX6_move_X6_error rfl dsX6_error ⟨rfl, rfl, ⟨Nat.le_of_ble_eq_true rfl, Nat.le_of_ble_eq_true rfl⟩, Nat.le_of_ble_eq_true rfl, Nat.le_of_ble_eq_true rfl⟩ h 6 0 rfl rfl (st := []) rfl rfl (Nat.le_of_ble_eq_true rfl) dX6_move_54 rfl (fun r54 F54 G54 h => ?_)
            exact x_iret (wf := w6 cI cO a) K h dX6_move_57
          · replace h := h.2 c41
            refine x_aload (pc' := 46) K dX6_move_44 7 rfl rfl ?_
            refine x_subI (pc' := 49) (wn := fun F' G' => w6 cI cO a (xspl E38 48 2 F') (xspl H38 69 1 G')) K (mX2_isMissing l D cI cO (xsub a 103)) rfl gX6_move_X2_isMissing rfl dsX2_isMissing ⟨rfl, rfl, ⟨Nat.le_of_ble_eq_true rfl, Nat.le_of_ble_eq_true rfl⟩, Nat.le_of_ble_eq_true rfl, Nat.le_of_ble_eq_true rfl⟩ h 2 0 rfl rfl (xpl34 cI cO a _ _) (fun F' G' => xpr34 cI cO a _ _ F' G') (st := []) rfl rfl (Nat.le_of_ble_eq_true rfl) dX6_move_46 rfl (fun r46 F46 G46 h => ?_)
            obtain ⟨E46, eE46⟩ : ∃ x : xF, x = (xspl E38 48 2 F46) := ⟨_, rfl⟩
            obtain ⟨H46, eH46⟩ : ∃ x : xA, x = (xspl H38 69 1 G46) := ⟨_, rfl⟩
            refine x_weq (w' := w6 cI cO a E46 H46) (by subst eE46; subst eH46; rfl) ?_
            replace h := h E46 eE46
            replace h := h H46 eH46
            refine x_if_eq (tgt := 58) (pc' := 52) K dX6_move_49 rfl rfl (fun c49 => ?_) (fun c49 => ?_)
            · replace h := h.1 c49
              refine x_aload (pc' := 60) K dX6_move_58 6 rfl rfl ?_
              refine xw6_97g_bits (pc' := 63) K hinX6_move_X2 uX6_move_f237 dX6_move_60 rfl ?_
              refine x_aload (pc' := 65) K dX6_move_63 7 rfl rfl ?_
              refine xw6_103g_bits (pc' := 68) K hinX6_move_X2 uX6_move_f237 dX6_move_65 rfl ?_
              refine x_icmp_eq (tgt := 77) (pc' := 71) K dX6_move_68 rfl rfl (fun c68 => ?_) (fun c68 => ?_)
              · replace h := h.1 c68
                refine x_aload (pc' := 79) K dX6_move_77 6 rfl rfl ?_
                refine x_iload_n (pc' := 80) K dX6_move_79 2 rfl rfl ?_
                refine x_iload (pc' := 82) K dX6_move_80 5 rfl rfl ?_
                refine x_subI (pc' := 85) (wn := fun F' G' => w6 cI cO a (xspl E46 42 2 F') (xspl H46 66 1 G')) K (mX2_holdsPart l D cI cO (xsub a 97) _ _) rfl gX6_move_X2_holdsPart rfl dsX2_holdsPart ⟨rfl, rfl, ⟨Nat.le_of_ble_eq_true rfl, Nat.le_of_ble_eq_true rfl⟩, Nat.le_of_ble_eq_true rfl, Nat.le_of_ble_eq_true rfl⟩ h 2 0 rfl rfl (xpl31 cI cO a _ _) (fun F' G' => xpr31 cI cO a _ _ F' G') (st := []) rfl rfl (Nat.le_of_ble_eq_true rfl) dX6_move_82 rfl (fun r82 F82 G82 h => ?_)
                obtain ⟨E82, eE82⟩ : ∃ x : xF, x = (xspl E46 42 2 F82) := ⟨_, rfl⟩
                obtain ⟨H82, eH82⟩ : ∃ x : xA, x = (xspl H46 66 1 G82) := ⟨_, rfl⟩
                refine x_weq (w' := w6 cI cO a E82 H82) (by subst eE82; subst eH82; rfl) ?_
                replace h := h E82 eE82
                replace h := h H82 eH82
                refine x_if_eq (tgt := 100) (pc' := 88) K dX6_move_85 rfl rfl (fun c85 => ?_) (fun c85 => ?_)
                · replace h := h.1 c85
                  refine x_aload_n (pc' := 101) K dX6_move_100 0 rfl rfl ?_
                  refine x_iconst (pc' := 102) (v := 1) K dX6_move_101 (by decide) rfl ?_
                  refine x_callI (pc' := 105) K (mX6_error l D cI cO a _) rfl gX6_move_X6_error rfl dsX6_error ⟨rfl, rfl, ⟨Nat.le_of_ble_eq_true rfl, Nat.le_of_ble_eq_true rfl⟩, Nat.le_of_ble_eq_true rfl, Nat.le_of_ble_eq_true rfl⟩ h 6 0 rfl rfl (st := []) rfl rfl (Nat.le_of_ble_eq_true rfl) dX6_move_102 rfl (fun r102 F102 G102 h => ?_)
                  exact x_iret (wf := w6 cI cO a) K h dX6_move_105
                · replace h := h.2 c85
                  refine x_aload (pc' := 90) K dX6_move_88 7 rfl rfl ?_
                  refine x_iload (pc' := 92) K dX6_move_90 4 rfl rfl ?_
                  refine x_iload (pc' := 94) K dX6_move_92 5 rfl rfl ?_
                  refine x_subI (pc' := 97) (wn := fun F' G' => w6 cI cO a (xspl E82 48 2 F') (xspl H82 69 1 G')) K (mX2_holdsPart l D cI cO (xsub a 103) _ _) rfl gX6_move_X2_holdsPart rfl dsX2_holdsPart ⟨rfl, rfl, ⟨Nat.le_of_ble_eq_true rfl, Nat.le_of_ble_eq_true rfl⟩, Nat.le_of_ble_eq_true rfl, Nat.le_of_ble_eq_true rfl⟩ h 2 0 rfl rfl (xpl34 cI cO a _ _) (fun F' G' => xpr34 cI cO a _ _ F' G') (st := []) rfl rfl (Nat.le_of_ble_eq_true rfl) dX6_move_94 rfl (fun r94 F94 G94 h => ?_)
                  obtain ⟨E94, eE94⟩ : ∃ x : xF, x = (xspl E82 48 2 F94) := ⟨_, rfl⟩
                  obtain ⟨H94, eH94⟩ : ∃ x : xA, x = (xspl H82 69 1 G94) := ⟨_, rfl⟩
                  refine x_weq (w' := w6 cI cO a E94 H94) (by subst eE94; subst eH94; rfl) ?_
                  replace h := h E94 eE94
                  replace h := h H94 eH94
                  refine x_if_ne (tgt := 106) (pc' := 100) K dX6_move_97 rfl rfl (fun c97 => ?_) (fun c97 => ?_)
                  · replace h := h.1 c97
                    refine x_aload (pc' := 108) K dX6_move_106 6 rfl rfl ?_
                    refine xw6_97g_numbers (pc' := 111) K hinX6_move_X2 uX6_move_f243 dX6_move_108 rfl ?_
                    refine x_iload_n (pc' := 112) K dX6_move_111 2 rfl rfl ?_
                    refine x_aload (pc' := 114) K dX6_move_112 7 rfl rfl ?_
                    refine xw6_103g_numbers (pc' := 117) K hinX6_move_X2 uX6_move_f243 dX6_move_114 rfl ?_
                    refine x_iload (pc' := 119) K dX6_move_117 4 rfl rfl ?_
                    refine x_iload (pc' := 121) K dX6_move_119 5 rfl rfl ?_
                    obtain ⟨z121s, h⟩ := h
                    obtain ⟨z121d, h⟩ := h
                    obtain ⟨z121n, h⟩ := h
                    obtain ⟨z121p, h⟩ := h
                    obtain ⟨z121q, h⟩ := h
                    refine x_copy (pc' := 124) (w' := w6 cI cO a E94 (va_up H94 69 (va_cpy (H94 66) (H94 69) x2.toNatClampNeg x4.toNatClampNeg x5.toNatClampNeg))) K uX6_move_m246 uX6_move_cn uX6_move_cs uX6_move_ci 98 104 (f := H94 66) (g := H94 69) (n0 := 24) (n1 := 24) (cA := cI) rfl rfl rfl z121s z121d z121n z121p z121q rfl (by decide +kernel) (by decide +kernel) dX6_move_121 rfl ?_
                    obtain ⟨G121, eG121⟩ : ∃ x : xA, x = va_up H94 69 (va_cpy (H94 66) (H94 69) x2.toNatClampNeg x4.toNatClampNeg x5.toNatClampNeg) := ⟨_, rfl⟩
                    refine x_weq (w' := w6 cI cO a E94 G121) (by subst eG121; rfl) ?_
                    replace h := h G121 eG121
                    refine x_iload (pc' := 126) K dX6_move_124 5 rfl rfl ?_
                    exact x_iret (wf := w6 cI cO a) K h dX6_move_126
                  · replace h := h.2 c97
                    refine x_aload_n (pc' := 101) K dX6_move_100 0 rfl rfl ?_
                    refine x_iconst (pc' := 102) (v := 1) K dX6_move_101 (by decide) rfl ?_
                    refine x_callI (pc' := 105) K (mX6_error l D cI cO a _) rfl gX6_move_X6_error rfl dsX6_error ⟨rfl, rfl, ⟨Nat.le_of_ble_eq_true rfl, Nat.le_of_ble_eq_true rfl⟩, Nat.le_of_ble_eq_true rfl, Nat.le_of_ble_eq_true rfl⟩ h 6 0 rfl rfl (st := []) rfl rfl (Nat.le_of_ble_eq_true rfl) dX6_move_102 rfl (fun r102 F102 G102 h => ?_)
                    exact x_iret (wf := w6 cI cO a) K h dX6_move_105
              · replace h := h.2 c68
                refine x_aload_n (pc' := 72) K dX6_move_71 0 rfl rfl ?_
                refine x_iconst (pc' := 73) (v := 5) K dX6_move_72 (by decide) rfl ?_
                refine x_callI (pc' := 76) K (mX6_error l D cI cO a _) rfl gX6_move_X6_error rfl dsX6_error ⟨rfl, rfl, ⟨Nat.le_of_ble_eq_true rfl, Nat.le_of_ble_eq_true rfl⟩, Nat.le_of_ble_eq_true rfl, Nat.le_of_ble_eq_true rfl⟩ h 6 0 rfl rfl (st := []) rfl rfl (Nat.le_of_ble_eq_true rfl) dX6_move_73 rfl (fun r73 F73 G73 h => ?_)
                exact x_iret (wf := w6 cI cO a) K h dX6_move_76
            · replace h := h.2 c49
              refine x_aload_n (pc' := 53) K dX6_move_52 0 rfl rfl ?_
              refine x_iconst (pc' := 54) (v := 2) K dX6_move_53 (by decide) rfl ?_
              refine x_callI (pc' := 57) K (mX6_error l D cI cO a _) rfl gX6_move_X6_error rfl dsX6_error ⟨rfl, rfl, ⟨Nat.le_of_ble_eq_true rfl, Nat.le_of_ble_eq_true rfl⟩, Nat.le_of_ble_eq_true rfl, Nat.le_of_ble_eq_true rfl⟩ h 6 0 rfl rfl (st := []) rfl rfl (Nat.le_of_ble_eq_true rfl) dX6_move_54 rfl (fun r54 F54 G54 h => ?_)
              exact x_iret (wf := w6 cI cO a) K h dX6_move_57
      · replace h := h.2.1 e25
        refine xw6_96q1 (pc' := 26) K i25 e25 dX6_move_25 rfl ?_
        refine x_astore (pc' := 28) (i := 6) K dX6_move_26 (by decide) [1, 2, 3, 4, 5, 6, 0] (L' := [(0, .ref (a 0)), (1, .int _), (2, .int _), (3, .int _), (4, .int _), (5, .int _), (6, .ref (a 99))]) rfl rfl ?_
        refine x_aload_n (pc' := 29) K dX6_move_28 0 rfl rfl ?_
        refine xw6_0g_sheets (pc' := 32) K hinX6_move_X6 uX6_move_f70 dX6_move_29 rfl ?_
        refine x_iload_n (pc' := 33) K dX6_move_32 3 rfl rfl ?_
        obtain ⟨i33, h⟩ := h
        rcases xin4 i33 with e33 | e33 | e33 | e33
        · replace h := h.1 e33
          refine xw6_96q0 (pc' := 34) K i33 e33 dX6_move_33 rfl ?_
          refine x_astore (pc' := 36) (i := 7) K dX6_move_34 (by decide) [1, 2, 3, 4, 5, 6, 7, 0] (L' := [(0, .ref (a 0)), (1, .int _), (2, .int _), (3, .int _), (4, .int _), (5, .int _), (6, .ref (a 99)), (7, .ref (a 97))]) rfl rfl ?_
          refine x_aload (pc' := 38) K dX6_move_36 6 rfl rfl ?_
          refine x_subI (pc' := 41) (wn := fun F' G' => w6 cI cO a (xspl F 44 2 F') (xspl G 67 1 G')) K (mX2_isMissing l D cI cO (xsub a 99)) rfl gX6_move_X2_isMissing rfl dsX2_isMissing ⟨rfl, rfl, ⟨Nat.le_of_ble_eq_true rfl, Nat.le_of_ble_eq_true rfl⟩, Nat.le_of_ble_eq_true rfl, Nat.le_of_ble_eq_true rfl⟩ h 2 0 rfl rfl (xpl32 cI cO a _ _) (fun F' G' => xpr32 cI cO a _ _ F' G') (st := []) rfl rfl (Nat.le_of_ble_eq_true rfl) dX6_move_38 rfl (fun r38 F38 G38 h => ?_)
          obtain ⟨E38, eE38⟩ : ∃ x : xF, x = (xspl F 44 2 F38) := ⟨_, rfl⟩
          obtain ⟨H38, eH38⟩ : ∃ x : xA, x = (xspl G 67 1 G38) := ⟨_, rfl⟩
          refine x_weq (w' := w6 cI cO a E38 H38) (by subst eE38; subst eH38; rfl) ?_
          replace h := h E38 eE38
          replace h := h H38 eH38
          refine x_if_ne (tgt := 52) (pc' := 44) K dX6_move_41 rfl rfl (fun c41 => ?_) (fun c41 => ?_)
          · replace h := h.1 c41
            refine x_aload_n (pc' := 53) K dX6_move_52 0 rfl rfl ?_
            refine x_iconst (pc' := 54) (v := 2) K dX6_move_53 (by decide) rfl ?_
            refine x_callI (pc' := 57) K (mX6_error l D cI cO a _) rfl gX6_move_X6_error rfl dsX6_error ⟨rfl, rfl, ⟨Nat.le_of_ble_eq_true rfl, Nat.le_of_ble_eq_true rfl⟩, Nat.le_of_ble_eq_true rfl, Nat.le_of_ble_eq_true rfl⟩ h 6 0 rfl rfl (st := []) rfl rfl (Nat.le_of_ble_eq_true rfl) dX6_move_54 rfl (fun r54 F54 G54 h => ?_)
            exact x_iret (wf := w6 cI cO a) K h dX6_move_57
          · replace h := h.2 c41
            refine x_aload (pc' := 46) K dX6_move_44 7 rfl rfl ?_
            refine x_subI (pc' := 49) (wn := fun F' G' => w6 cI cO a (xspl E38 42 2 F') (xspl H38 66 1 G')) K (mX2_isMissing l D cI cO (xsub a 97)) rfl gX6_move_X2_isMissing rfl dsX2_isMissing ⟨rfl, rfl, ⟨Nat.le_of_ble_eq_true rfl, Nat.le_of_ble_eq_true rfl⟩, Nat.le_of_ble_eq_true rfl, Nat.le_of_ble_eq_true rfl⟩ h 2 0 rfl rfl (xpl31 cI cO a _ _) (fun F' G' => xpr31 cI cO a _ _ F' G') (st := []) rfl rfl (Nat.le_of_ble_eq_true rfl) dX6_move_46 rfl (fun r46 F46 G46 h => ?_)
            obtain ⟨E46, eE46⟩ : ∃ x : xF, x = (xspl E38 42 2 F46) := ⟨_, rfl⟩
            obtain ⟨H46, eH46⟩ : ∃ x : xA, x = (xspl H38 66 1 G46) := ⟨_, rfl⟩
            refine x_weq (w' := w6 cI cO a E46 H46) (by subst eE46; subst eH46; rfl) ?_
            replace h := h E46 eE46
            replace h := h H46 eH46
            refine x_if_eq (tgt := 58) (pc' := 52) K dX6_move_49 rfl rfl (fun c49 => ?_) (fun c49 => ?_)
            · replace h := h.1 c49
              refine x_aload (pc' := 60) K dX6_move_58 6 rfl rfl ?_
              refine xw6_99g_bits (pc' := 63) K hinX6_move_X2 uX6_move_f237 dX6_move_60 rfl ?_
              refine x_aload (pc' := 65) K dX6_move_63 7 rfl rfl ?_
              refine xw6_97g_bits (pc' := 68) K hinX6_move_X2 uX6_move_f237 dX6_move_65 rfl ?_
              refine x_icmp_eq (tgt := 77) (pc' := 71) K dX6_move_68 rfl rfl (fun c68 => ?_) (fun c68 => ?_)
              · replace h := h.1 c68
                refine x_aload (pc' := 79) K dX6_move_77 6 rfl rfl ?_
                refine x_iload_n (pc' := 80) K dX6_move_79 2 rfl rfl ?_
                refine x_iload (pc' := 82) K dX6_move_80 5 rfl rfl ?_
                refine x_subI (pc' := 85) (wn := fun F' G' => w6 cI cO a (xspl E46 44 2 F') (xspl H46 67 1 G')) K (mX2_holdsPart l D cI cO (xsub a 99) _ _) rfl gX6_move_X2_holdsPart rfl dsX2_holdsPart ⟨rfl, rfl, ⟨Nat.le_of_ble_eq_true rfl, Nat.le_of_ble_eq_true rfl⟩, Nat.le_of_ble_eq_true rfl, Nat.le_of_ble_eq_true rfl⟩ h 2 0 rfl rfl (xpl32 cI cO a _ _) (fun F' G' => xpr32 cI cO a _ _ F' G') (st := []) rfl rfl (Nat.le_of_ble_eq_true rfl) dX6_move_82 rfl (fun r82 F82 G82 h => ?_)
                obtain ⟨E82, eE82⟩ : ∃ x : xF, x = (xspl E46 44 2 F82) := ⟨_, rfl⟩
                obtain ⟨H82, eH82⟩ : ∃ x : xA, x = (xspl H46 67 1 G82) := ⟨_, rfl⟩
                refine x_weq (w' := w6 cI cO a E82 H82) (by subst eE82; subst eH82; rfl) ?_
                replace h := h E82 eE82
                replace h := h H82 eH82
                refine x_if_eq (tgt := 100) (pc' := 88) K dX6_move_85 rfl rfl (fun c85 => ?_) (fun c85 => ?_)
                · replace h := h.1 c85
                  refine x_aload_n (pc' := 101) K dX6_move_100 0 rfl rfl ?_
                  refine x_iconst (pc' := 102) (v := 1) K dX6_move_101 (by decide) rfl ?_
                  refine x_callI (pc' := 105) K (mX6_error l D cI cO a _) rfl gX6_move_X6_error rfl dsX6_error ⟨rfl, rfl, ⟨Nat.le_of_ble_eq_true rfl, Nat.le_of_ble_eq_true rfl⟩, Nat.le_of_ble_eq_true rfl, Nat.le_of_ble_eq_true rfl⟩ h 6 0 rfl rfl (st := []) rfl rfl (Nat.le_of_ble_eq_true rfl) dX6_move_102 rfl (fun r102 F102 G102 h => ?_)
                  exact x_iret (wf := w6 cI cO a) K h dX6_move_105
                · replace h := h.2 c85
                  refine x_aload (pc' := 90) K dX6_move_88 7 rfl rfl ?_
                  refine x_iload (pc' := 92) K dX6_move_90 4 rfl rfl ?_
                  refine x_iload (pc' := 94) K dX6_move_92 5 rfl rfl ?_
                  refine x_subI (pc' := 97) (wn := fun F' G' => w6 cI cO a (xspl E82 42 2 F') (xspl H82 66 1 G')) K (mX2_holdsPart l D cI cO (xsub a 97) _ _) rfl gX6_move_X2_holdsPart rfl dsX2_holdsPart ⟨rfl, rfl, ⟨Nat.le_of_ble_eq_true rfl, Nat.le_of_ble_eq_true rfl⟩, Nat.le_of_ble_eq_true rfl, Nat.le_of_ble_eq_true rfl⟩ h 2 0 rfl rfl (xpl31 cI cO a _ _) (fun F' G' => xpr31 cI cO a _ _ F' G') (st := []) rfl rfl (Nat.le_of_ble_eq_true rfl) dX6_move_94 rfl (fun r94 F94 G94 h => ?_)
                  obtain ⟨E94, eE94⟩ : ∃ x : xF, x = (xspl E82 42 2 F94) := ⟨_, rfl⟩
                  obtain ⟨H94, eH94⟩ : ∃ x : xA, x = (xspl H82 66 1 G94) := ⟨_, rfl⟩
                  refine x_weq (w' := w6 cI cO a E94 H94) (by subst eE94; subst eH94; rfl) ?_
                  replace h := h E94 eE94
                  replace h := h H94 eH94
                  refine x_if_ne (tgt := 106) (pc' := 100) K dX6_move_97 rfl rfl (fun c97 => ?_) (fun c97 => ?_)
                  · replace h := h.1 c97
                    refine x_aload (pc' := 108) K dX6_move_106 6 rfl rfl ?_
                    refine xw6_99g_numbers (pc' := 111) K hinX6_move_X2 uX6_move_f243 dX6_move_108 rfl ?_
                    refine x_iload_n (pc' := 112) K dX6_move_111 2 rfl rfl ?_
                    refine x_aload (pc' := 114) K dX6_move_112 7 rfl rfl ?_
                    refine xw6_97g_numbers (pc' := 117) K hinX6_move_X2 uX6_move_f243 dX6_move_114 rfl ?_
                    refine x_iload (pc' := 119) K dX6_move_117 4 rfl rfl ?_
                    refine x_iload (pc' := 121) K dX6_move_119 5 rfl rfl ?_
                    obtain ⟨z121s, h⟩ := h
                    obtain ⟨z121d, h⟩ := h
                    obtain ⟨z121n, h⟩ := h
                    obtain ⟨z121p, h⟩ := h
                    obtain ⟨z121q, h⟩ := h
                    refine x_copy (pc' := 124) (w' := w6 cI cO a E94 (va_up H94 66 (va_cpy (H94 67) (H94 66) x2.toNatClampNeg x4.toNatClampNeg x5.toNatClampNeg))) K uX6_move_m246 uX6_move_cn uX6_move_cs uX6_move_ci 100 98 (f := H94 67) (g := H94 66) (n0 := 24) (n1 := 24) (cA := cI) rfl rfl rfl z121s z121d z121n z121p z121q rfl (by decide +kernel) (by decide +kernel) dX6_move_121 rfl ?_
                    obtain ⟨G121, eG121⟩ : ∃ x : xA, x = va_up H94 66 (va_cpy (H94 67) (H94 66) x2.toNatClampNeg x4.toNatClampNeg x5.toNatClampNeg) := ⟨_, rfl⟩
                    refine x_weq (w' := w6 cI cO a E94 G121) (by subst eG121; rfl) ?_
                    replace h := h G121 eG121
                    refine x_iload (pc' := 126) K dX6_move_124 5 rfl rfl ?_
                    exact x_iret (wf := w6 cI cO a) K h dX6_move_126
                  · replace h := h.2 c97
                    refine x_aload_n (pc' := 101) K dX6_move_100 0 rfl rfl ?_
                    refine x_iconst (pc' := 102) (v := 1) K dX6_move_101 (by decide) rfl ?_
                    refine x_callI (pc' := 105) K (mX6_error l D cI cO a _) rfl gX6_move_X6_error rfl dsX6_error ⟨rfl, rfl, ⟨Nat.le_of_ble_eq_true rfl, Nat.le_of_ble_eq_true rfl⟩, Nat.le_of_ble_eq_true rfl, Nat.le_of_ble_eq_true rfl⟩ h 6 0 rfl rfl (st := []) rfl rfl (Nat.le_of_ble_eq_true rfl) dX6_move_102 rfl (fun r102 F102 G102 h => ?_)
                    exact x_iret (wf := w6 cI cO a) K h dX6_move_105
              · replace h := h.2 c68
                refine x_aload_n (pc' := 72) K dX6_move_71 0 rfl rfl ?_
                refine x_iconst (pc' := 73) (v := 5) K dX6_move_72 (by decide) rfl ?_
                refine x_callI (pc' := 76) K (mX6_error l D cI cO a _) rfl gX6_move_X6_error rfl dsX6_error ⟨rfl, rfl, ⟨Nat.le_of_ble_eq_true rfl, Nat.le_of_ble_eq_true rfl⟩, Nat.le_of_ble_eq_true rfl, Nat.le_of_ble_eq_true rfl⟩ h 6 0 rfl rfl (st := []) rfl rfl (Nat.le_of_ble_eq_true rfl) dX6_move_73 rfl (fun r73 F73 G73 h => ?_)
                exact x_iret (wf := w6 cI cO a) K h dX6_move_76
            · replace h := h.2 c49
              refine x_aload_n (pc' := 53) K dX6_move_52 0 rfl rfl ?_
              refine x_iconst (pc' := 54) (v := 2) K dX6_move_53 (by decide) rfl ?_
              refine x_callI (pc' := 57) K (mX6_error l D cI cO a _) rfl gX6_move_X6_error rfl dsX6_error ⟨rfl, rfl, ⟨Nat.le_of_ble_eq_true rfl, Nat.le_of_ble_eq_true rfl⟩, Nat.le_of_ble_eq_true rfl, Nat.le_of_ble_eq_true rfl⟩ h 6 0 rfl rfl (st := []) rfl rfl (Nat.le_of_ble_eq_true rfl) dX6_move_54 rfl (fun r54 F54 G54 h => ?_)
              exact x_iret (wf := w6 cI cO a) K h dX6_move_57
        · replace h := h.2.1 e33
          refine xw6_96q1 (pc' := 34) K i33 e33 dX6_move_33 rfl ?_
          refine x_astore (pc' := 36) (i := 7) K dX6_move_34 (by decide) [1, 2, 3, 4, 5, 6, 7, 0] (L' := [(0, .ref (a 0)), (1, .int _), (2, .int _), (3, .int _), (4, .int _), (5, .int _), (6, .ref (a 99)), (7, .ref (a 99))]) rfl rfl ?_
          refine x_aload (pc' := 38) K dX6_move_36 6 rfl rfl ?_
          refine x_subI (pc' := 41) (wn := fun F' G' => w6 cI cO a (xspl F 44 2 F') (xspl G 67 1 G')) K (mX2_isMissing l D cI cO (xsub a 99)) rfl gX6_move_X2_isMissing rfl dsX2_isMissing ⟨rfl, rfl, ⟨Nat.le_of_ble_eq_true rfl, Nat.le_of_ble_eq_true rfl⟩, Nat.le_of_ble_eq_true rfl, Nat.le_of_ble_eq_true rfl⟩ h 2 0 rfl rfl (xpl32 cI cO a _ _) (fun F' G' => xpr32 cI cO a _ _ F' G') (st := []) rfl rfl (Nat.le_of_ble_eq_true rfl) dX6_move_38 rfl (fun r38 F38 G38 h => ?_)
          obtain ⟨E38, eE38⟩ : ∃ x : xF, x = (xspl F 44 2 F38) := ⟨_, rfl⟩
          obtain ⟨H38, eH38⟩ : ∃ x : xA, x = (xspl G 67 1 G38) := ⟨_, rfl⟩
          refine x_weq (w' := w6 cI cO a E38 H38) (by subst eE38; subst eH38; rfl) ?_
          replace h := h E38 eE38
          replace h := h H38 eH38
          refine x_if_ne (tgt := 52) (pc' := 44) K dX6_move_41 rfl rfl (fun c41 => ?_) (fun c41 => ?_)
          · replace h := h.1 c41
            refine x_aload_n (pc' := 53) K dX6_move_52 0 rfl rfl ?_
            refine x_iconst (pc' := 54) (v := 2) K dX6_move_53 (by decide) rfl ?_
            refine x_callI (pc' := 57) K (mX6_error l D cI cO a _) rfl gX6_move_X6_error rfl dsX6_error ⟨rfl, rfl, ⟨Nat.le_of_ble_eq_true rfl, Nat.le_of_ble_eq_true rfl⟩, Nat.le_of_ble_eq_true rfl, Nat.le_of_ble_eq_true rfl⟩ h 6 0 rfl rfl (st := []) rfl rfl (Nat.le_of_ble_eq_true rfl) dX6_move_54 rfl (fun r54 F54 G54 h => ?_)
            exact x_iret (wf := w6 cI cO a) K h dX6_move_57
          · replace h := h.2 c41
            refine x_aload (pc' := 46) K dX6_move_44 7 rfl rfl ?_
            refine x_subI (pc' := 49) (wn := fun F' G' => w6 cI cO a (xspl E38 44 2 F') (xspl H38 67 1 G')) K (mX2_isMissing l D cI cO (xsub a 99)) rfl gX6_move_X2_isMissing rfl dsX2_isMissing ⟨rfl, rfl, ⟨Nat.le_of_ble_eq_true rfl, Nat.le_of_ble_eq_true rfl⟩, Nat.le_of_ble_eq_true rfl, Nat.le_of_ble_eq_true rfl⟩ h 2 0 rfl rfl (xpl32 cI cO a _ _) (fun F' G' => xpr32 cI cO a _ _ F' G') (st := []) rfl rfl (Nat.le_of_ble_eq_true rfl) dX6_move_46 rfl (fun r46 F46 G46 h => ?_)
            obtain ⟨E46, eE46⟩ : ∃ x : xF, x = (xspl E38 44 2 F46) := ⟨_, rfl⟩
            obtain ⟨H46, eH46⟩ : ∃ x : xA, x = (xspl H38 67 1 G46) := ⟨_, rfl⟩
            refine x_weq (w' := w6 cI cO a E46 H46) (by subst eE46; subst eH46; rfl) ?_
            replace h := h E46 eE46
            replace h := h H46 eH46
            refine x_if_eq (tgt := 58) (pc' := 52) K dX6_move_49 rfl rfl (fun c49 => ?_) (fun c49 => ?_)
            · replace h := h.1 c49
              refine x_aload (pc' := 60) K dX6_move_58 6 rfl rfl ?_
              refine xw6_99g_bits (pc' := 63) K hinX6_move_X2 uX6_move_f237 dX6_move_60 rfl ?_
              refine x_aload (pc' := 65) K dX6_move_63 7 rfl rfl ?_
              refine xw6_99g_bits (pc' := 68) K hinX6_move_X2 uX6_move_f237 dX6_move_65 rfl ?_
              refine x_icmp_eq (tgt := 77) (pc' := 71) K dX6_move_68 rfl rfl (fun c68 => ?_) (fun c68 => ?_)
              · replace h := h.1 c68
                refine x_aload (pc' := 79) K dX6_move_77 6 rfl rfl ?_
                refine x_iload_n (pc' := 80) K dX6_move_79 2 rfl rfl ?_
                refine x_iload (pc' := 82) K dX6_move_80 5 rfl rfl ?_
                refine x_subI (pc' := 85) (wn := fun F' G' => w6 cI cO a (xspl E46 44 2 F') (xspl H46 67 1 G')) K (mX2_holdsPart l D cI cO (xsub a 99) _ _) rfl gX6_move_X2_holdsPart rfl dsX2_holdsPart ⟨rfl, rfl, ⟨Nat.le_of_ble_eq_true rfl, Nat.le_of_ble_eq_true rfl⟩, Nat.le_of_ble_eq_true rfl, Nat.le_of_ble_eq_true rfl⟩ h 2 0 rfl rfl (xpl32 cI cO a _ _) (fun F' G' => xpr32 cI cO a _ _ F' G') (st := []) rfl rfl (Nat.le_of_ble_eq_true rfl) dX6_move_82 rfl (fun r82 F82 G82 h => ?_)
                obtain ⟨E82, eE82⟩ : ∃ x : xF, x = (xspl E46 44 2 F82) := ⟨_, rfl⟩
                obtain ⟨H82, eH82⟩ : ∃ x : xA, x = (xspl H46 67 1 G82) := ⟨_, rfl⟩
                refine x_weq (w' := w6 cI cO a E82 H82) (by subst eE82; subst eH82; rfl) ?_
                replace h := h E82 eE82
                replace h := h H82 eH82
                refine x_if_eq (tgt := 100) (pc' := 88) K dX6_move_85 rfl rfl (fun c85 => ?_) (fun c85 => ?_)
                · replace h := h.1 c85
                  refine x_aload_n (pc' := 101) K dX6_move_100 0 rfl rfl ?_
                  refine x_iconst (pc' := 102) (v := 1) K dX6_move_101 (by decide) rfl ?_
                  refine x_callI (pc' := 105) K (mX6_error l D cI cO a _) rfl gX6_move_X6_error rfl dsX6_error ⟨rfl, rfl, ⟨Nat.le_of_ble_eq_true rfl, Nat.le_of_ble_eq_true rfl⟩, Nat.le_of_ble_eq_true rfl, Nat.le_of_ble_eq_true rfl⟩ h 6 0 rfl rfl (st := []) rfl rfl (Nat.le_of_ble_eq_true rfl) dX6_move_102 rfl (fun r102 F102 G102 h => ?_)
                  exact x_iret (wf := w6 cI cO a) K h dX6_move_105
                · replace h := h.2 c85
                  refine x_aload (pc' := 90) K dX6_move_88 7 rfl rfl ?_
                  refine x_iload (pc' := 92) K dX6_move_90 4 rfl rfl ?_
                  refine x_iload (pc' := 94) K dX6_move_92 5 rfl rfl ?_
                  refine x_subI (pc' := 97) (wn := fun F' G' => w6 cI cO a (xspl E82 44 2 F') (xspl H82 67 1 G')) K (mX2_holdsPart l D cI cO (xsub a 99) _ _) rfl gX6_move_X2_holdsPart rfl dsX2_holdsPart ⟨rfl, rfl, ⟨Nat.le_of_ble_eq_true rfl, Nat.le_of_ble_eq_true rfl⟩, Nat.le_of_ble_eq_true rfl, Nat.le_of_ble_eq_true rfl⟩ h 2 0 rfl rfl (xpl32 cI cO a _ _) (fun F' G' => xpr32 cI cO a _ _ F' G') (st := []) rfl rfl (Nat.le_of_ble_eq_true rfl) dX6_move_94 rfl (fun r94 F94 G94 h => ?_)
                  obtain ⟨E94, eE94⟩ : ∃ x : xF, x = (xspl E82 44 2 F94) := ⟨_, rfl⟩
                  obtain ⟨H94, eH94⟩ : ∃ x : xA, x = (xspl H82 67 1 G94) := ⟨_, rfl⟩
                  refine x_weq (w' := w6 cI cO a E94 H94) (by subst eE94; subst eH94; rfl) ?_
                  replace h := h E94 eE94
                  replace h := h H94 eH94
                  refine x_if_ne (tgt := 106) (pc' := 100) K dX6_move_97 rfl rfl (fun c97 => ?_) (fun c97 => ?_)
                  · replace h := h.1 c97
                    refine x_aload (pc' := 108) K dX6_move_106 6 rfl rfl ?_
                    refine xw6_99g_numbers (pc' := 111) K hinX6_move_X2 uX6_move_f243 dX6_move_108 rfl ?_
                    refine x_iload_n (pc' := 112) K dX6_move_111 2 rfl rfl ?_
                    refine x_aload (pc' := 114) K dX6_move_112 7 rfl rfl ?_
                    refine xw6_99g_numbers (pc' := 117) K hinX6_move_X2 uX6_move_f243 dX6_move_114 rfl ?_
                    refine x_iload (pc' := 119) K dX6_move_117 4 rfl rfl ?_
                    refine x_iload (pc' := 121) K dX6_move_119 5 rfl rfl ?_
                    obtain ⟨z121s, h⟩ := h
                    obtain ⟨z121d, h⟩ := h
                    obtain ⟨z121n, h⟩ := h
                    obtain ⟨z121p, h⟩ := h
                    obtain ⟨z121q, h⟩ := h
                    refine x_copy (pc' := 124) (w' := w6 cI cO a E94 (va_up H94 67 (va_cpy (H94 67) (H94 67) x2.toNatClampNeg x4.toNatClampNeg x5.toNatClampNeg))) K uX6_move_m246 uX6_move_cn uX6_move_cs uX6_move_ci 100 100 (f := H94 67) (g := H94 67) (n0 := 24) (n1 := 24) (cA := cI) rfl rfl rfl z121s z121d z121n z121p z121q rfl (by decide +kernel) (by decide +kernel) dX6_move_121 rfl ?_
                    obtain ⟨G121, eG121⟩ : ∃ x : xA, x = va_up H94 67 (va_cpy (H94 67) (H94 67) x2.toNatClampNeg x4.toNatClampNeg x5.toNatClampNeg) := ⟨_, rfl⟩
                    refine x_weq (w' := w6 cI cO a E94 G121) (by subst eG121; rfl) ?_
                    replace h := h G121 eG121
                    refine x_iload (pc' := 126) K dX6_move_124 5 rfl rfl ?_
                    exact x_iret (wf := w6 cI cO a) K h dX6_move_126
                  · replace h := h.2 c97
                    refine x_aload_n (pc' := 101) K dX6_move_100 0 rfl rfl ?_
                    refine x_iconst (pc' := 102) (v := 1) K dX6_move_101 (by decide) rfl ?_
                    refine x_callI (pc' := 105) K (mX6_error l D cI cO a _) rfl gX6_move_X6_error rfl dsX6_error ⟨rfl, rfl, ⟨Nat.le_of_ble_eq_true rfl, Nat.le_of_ble_eq_true rfl⟩, Nat.le_of_ble_eq_true rfl, Nat.le_of_ble_eq_true rfl⟩ h 6 0 rfl rfl (st := []) rfl rfl (Nat.le_of_ble_eq_true rfl) dX6_move_102 rfl (fun r102 F102 G102 h => ?_)
                    exact x_iret (wf := w6 cI cO a) K h dX6_move_105
              · replace h := h.2 c68
                refine x_aload_n (pc' := 72) K dX6_move_71 0 rfl rfl ?_
                refine x_iconst (pc' := 73) (v := 5) K dX6_move_72 (by decide) rfl ?_
                refine x_callI (pc' := 76) K (mX6_error l D cI cO a _) rfl gX6_move_X6_error rfl dsX6_error ⟨rfl, rfl, ⟨Nat.le_of_ble_eq_true rfl, Nat.le_of_ble_eq_true rfl⟩, Nat.le_of_ble_eq_true rfl, Nat.le_of_ble_eq_true rfl⟩ h 6 0 rfl rfl (st := []) rfl rfl (Nat.le_of_ble_eq_true rfl) dX6_move_73 rfl (fun r73 F73 G73 h => ?_)
                exact x_iret (wf := w6 cI cO a) K h dX6_move_76
            · replace h := h.2 c49
              refine x_aload_n (pc' := 53) K dX6_move_52 0 rfl rfl ?_
              refine x_iconst (pc' := 54) (v := 2) K dX6_move_53 (by decide) rfl ?_
              refine x_callI (pc' := 57) K (mX6_error l D cI cO a _) rfl gX6_move_X6_error rfl dsX6_error ⟨rfl, rfl, ⟨Nat.le_of_ble_eq_true rfl, Nat.le_of_ble_eq_true rfl⟩, Nat.le_of_ble_eq_true rfl, Nat.le_of_ble_eq_true rfl⟩ h 6 0 rfl rfl (st := []) rfl rfl (Nat.le_of_ble_eq_true rfl) dX6_move_54 rfl (fun r54 F54 G54 h => ?_)
              exact x_iret (wf := w6 cI cO a) K h dX6_move_57
        · replace h := h.2.2.1 e33
          refine xw6_96q2 (pc' := 34) K i33 e33 dX6_move_33 rfl ?_
          refine x_astore (pc' := 36) (i := 7) K dX6_move_34 (by decide) [1, 2, 3, 4, 5, 6, 7, 0] (L' := [(0, .ref (a 0)), (1, .int _), (2, .int _), (3, .int _), (4, .int _), (5, .int _), (6, .ref (a 99)), (7, .ref (a 101))]) rfl rfl ?_
          refine x_aload (pc' := 38) K dX6_move_36 6 rfl rfl ?_
          refine x_subI (pc' := 41) (wn := fun F' G' => w6 cI cO a (xspl F 44 2 F') (xspl G 67 1 G')) K (mX2_isMissing l D cI cO (xsub a 99)) rfl gX6_move_X2_isMissing rfl dsX2_isMissing ⟨rfl, rfl, ⟨Nat.le_of_ble_eq_true rfl, Nat.le_of_ble_eq_true rfl⟩, Nat.le_of_ble_eq_true rfl, Nat.le_of_ble_eq_true rfl⟩ h 2 0 rfl rfl (xpl32 cI cO a _ _) (fun F' G' => xpr32 cI cO a _ _ F' G') (st := []) rfl rfl (Nat.le_of_ble_eq_true rfl) dX6_move_38 rfl (fun r38 F38 G38 h => ?_)
          obtain ⟨E38, eE38⟩ : ∃ x : xF, x = (xspl F 44 2 F38) := ⟨_, rfl⟩
          obtain ⟨H38, eH38⟩ : ∃ x : xA, x = (xspl G 67 1 G38) := ⟨_, rfl⟩
          refine x_weq (w' := w6 cI cO a E38 H38) (by subst eE38; subst eH38; rfl) ?_
          replace h := h E38 eE38
          replace h := h H38 eH38
          refine x_if_ne (tgt := 52) (pc' := 44) K dX6_move_41 rfl rfl (fun c41 => ?_) (fun c41 => ?_)
          · replace h := h.1 c41
            refine x_aload_n (pc' := 53) K dX6_move_52 0 rfl rfl ?_
            refine x_iconst (pc' := 54) (v := 2) K dX6_move_53 (by decide) rfl ?_
            refine x_callI (pc' := 57) K (mX6_error l D cI cO a _) rfl gX6_move_X6_error rfl dsX6_error ⟨rfl, rfl, ⟨Nat.le_of_ble_eq_true rfl, Nat.le_of_ble_eq_true rfl⟩, Nat.le_of_ble_eq_true rfl, Nat.le_of_ble_eq_true rfl⟩ h 6 0 rfl rfl (st := []) rfl rfl (Nat.le_of_ble_eq_true rfl) dX6_move_54 rfl (fun r54 F54 G54 h => ?_)
            exact x_iret (wf := w6 cI cO a) K h dX6_move_57
          · replace h := h.2 c41
            refine x_aload (pc' := 46) K dX6_move_44 7 rfl rfl ?_
            refine x_subI (pc' := 49) (wn := fun F' G' => w6 cI cO a (xspl E38 46 2 F') (xspl H38 68 1 G')) K (mX2_isMissing l D cI cO (xsub a 101)) rfl gX6_move_X2_isMissing rfl dsX2_isMissing ⟨rfl, rfl, ⟨Nat.le_of_ble_eq_true rfl, Nat.le_of_ble_eq_true rfl⟩, Nat.le_of_ble_eq_true rfl, Nat.le_of_ble_eq_true rfl⟩ h 2 0 rfl rfl (xpl33 cI cO a _ _) (fun F' G' => xpr33 cI cO a _ _ F' G') (st := []) rfl rfl (Nat.le_of_ble_eq_true rfl) dX6_move_46 rfl (fun r46 F46 G46 h => ?_)
            obtain ⟨E46, eE46⟩ : ∃ x : xF, x = (xspl E38 46 2 F46) := ⟨_, rfl⟩
            obtain ⟨H46, eH46⟩ : ∃ x : xA, x = (xspl H38 68 1 G46) := ⟨_, rfl⟩
            refine x_weq (w' := w6 cI cO a E46 H46) (by subst eE46; subst eH46; rfl) ?_
            replace h := h E46 eE46
            replace h := h H46 eH46
            refine x_if_eq (tgt := 58) (pc' := 52) K dX6_move_49 rfl rfl (fun c49 => ?_) (fun c49 => ?_)
            · replace h := h.1 c49
              refine x_aload (pc' := 60) K dX6_move_58 6 rfl rfl ?_
              refine xw6_99g_bits (pc' := 63) K hinX6_move_X2 uX6_move_f237 dX6_move_60 rfl ?_
              refine x_aload (pc' := 65) K dX6_move_63 7 rfl rfl ?_
              refine xw6_101g_bits (pc' := 68) K hinX6_move_X2 uX6_move_f237 dX6_move_65 rfl ?_
              refine x_icmp_eq (tgt := 77) (pc' := 71) K dX6_move_68 rfl rfl (fun c68 => ?_) (fun c68 => ?_)
              · replace h := h.1 c68
                refine x_aload (pc' := 79) K dX6_move_77 6 rfl rfl ?_
                refine x_iload_n (pc' := 80) K dX6_move_79 2 rfl rfl ?_
                refine x_iload (pc' := 82) K dX6_move_80 5 rfl rfl ?_
                refine x_subI (pc' := 85) (wn := fun F' G' => w6 cI cO a (xspl E46 44 2 F') (xspl H46 67 1 G')) K (mX2_holdsPart l D cI cO (xsub a 99) _ _) rfl gX6_move_X2_holdsPart rfl dsX2_holdsPart ⟨rfl, rfl, ⟨Nat.le_of_ble_eq_true rfl, Nat.le_of_ble_eq_true rfl⟩, Nat.le_of_ble_eq_true rfl, Nat.le_of_ble_eq_true rfl⟩ h 2 0 rfl rfl (xpl32 cI cO a _ _) (fun F' G' => xpr32 cI cO a _ _ F' G') (st := []) rfl rfl (Nat.le_of_ble_eq_true rfl) dX6_move_82 rfl (fun r82 F82 G82 h => ?_)
                obtain ⟨E82, eE82⟩ : ∃ x : xF, x = (xspl E46 44 2 F82) := ⟨_, rfl⟩
                obtain ⟨H82, eH82⟩ : ∃ x : xA, x = (xspl H46 67 1 G82) := ⟨_, rfl⟩
                refine x_weq (w' := w6 cI cO a E82 H82) (by subst eE82; subst eH82; rfl) ?_
                replace h := h E82 eE82
                replace h := h H82 eH82
                refine x_if_eq (tgt := 100) (pc' := 88) K dX6_move_85 rfl rfl (fun c85 => ?_) (fun c85 => ?_)
                · replace h := h.1 c85
                  refine x_aload_n (pc' := 101) K dX6_move_100 0 rfl rfl ?_
                  refine x_iconst (pc' := 102) (v := 1) K dX6_move_101 (by decide) rfl ?_
                  refine x_callI (pc' := 105) K (mX6_error l D cI cO a _) rfl gX6_move_X6_error rfl dsX6_error ⟨rfl, rfl, ⟨Nat.le_of_ble_eq_true rfl, Nat.le_of_ble_eq_true rfl⟩, Nat.le_of_ble_eq_true rfl, Nat.le_of_ble_eq_true rfl⟩ h 6 0 rfl rfl (st := []) rfl rfl (Nat.le_of_ble_eq_true rfl) dX6_move_102 rfl (fun r102 F102 G102 h => ?_)
                  exact x_iret (wf := w6 cI cO a) K h dX6_move_105
                · replace h := h.2 c85
                  refine x_aload (pc' := 90) K dX6_move_88 7 rfl rfl ?_
                  refine x_iload (pc' := 92) K dX6_move_90 4 rfl rfl ?_
                  refine x_iload (pc' := 94) K dX6_move_92 5 rfl rfl ?_
                  refine x_subI (pc' := 97) (wn := fun F' G' => w6 cI cO a (xspl E82 46 2 F') (xspl H82 68 1 G')) K (mX2_holdsPart l D cI cO (xsub a 101) _ _) rfl gX6_move_X2_holdsPart rfl dsX2_holdsPart ⟨rfl, rfl, ⟨Nat.le_of_ble_eq_true rfl, Nat.le_of_ble_eq_true rfl⟩, Nat.le_of_ble_eq_true rfl, Nat.le_of_ble_eq_true rfl⟩ h 2 0 rfl rfl (xpl33 cI cO a _ _) (fun F' G' => xpr33 cI cO a _ _ F' G') (st := []) rfl rfl (Nat.le_of_ble_eq_true rfl) dX6_move_94 rfl (fun r94 F94 G94 h => ?_)
                  obtain ⟨E94, eE94⟩ : ∃ x : xF, x = (xspl E82 46 2 F94) := ⟨_, rfl⟩
                  obtain ⟨H94, eH94⟩ : ∃ x : xA, x = (xspl H82 68 1 G94) := ⟨_, rfl⟩
                  refine x_weq (w' := w6 cI cO a E94 H94) (by subst eE94; subst eH94; rfl) ?_
                  replace h := h E94 eE94
                  replace h := h H94 eH94
                  refine x_if_ne (tgt := 106) (pc' := 100) K dX6_move_97 rfl rfl (fun c97 => ?_) (fun c97 => ?_)
                  · replace h := h.1 c97
                    refine x_aload (pc' := 108) K dX6_move_106 6 rfl rfl ?_
                    refine xw6_99g_numbers (pc' := 111) K hinX6_move_X2 uX6_move_f243 dX6_move_108 rfl ?_
                    refine x_iload_n (pc' := 112) K dX6_move_111 2 rfl rfl ?_
                    refine x_aload (pc' := 114) K dX6_move_112 7 rfl rfl ?_
                    refine xw6_101g_numbers (pc' := 117) K hinX6_move_X2 uX6_move_f243 dX6_move_114 rfl ?_
                    refine x_iload (pc' := 119) K dX6_move_117 4 rfl rfl ?_
                    refine x_iload (pc' := 121) K dX6_move_119 5 rfl rfl ?_
                    obtain ⟨z121s, h⟩ := h
                    obtain ⟨z121d, h⟩ := h
                    obtain ⟨z121n, h⟩ := h
                    obtain ⟨z121p, h⟩ := h
                    obtain ⟨z121q, h⟩ := h
                    refine x_copy (pc' := 124) (w' := w6 cI cO a E94 (va_up H94 68 (va_cpy (H94 67) (H94 68) x2.toNatClampNeg x4.toNatClampNeg x5.toNatClampNeg))) K uX6_move_m246 uX6_move_cn uX6_move_cs uX6_move_ci 100 102 (f := H94 67) (g := H94 68) (n0 := 24) (n1 := 24) (cA := cI) rfl rfl rfl z121s z121d z121n z121p z121q rfl (by decide +kernel) (by decide +kernel) dX6_move_121 rfl ?_
                    obtain ⟨G121, eG121⟩ : ∃ x : xA, x = va_up H94 68 (va_cpy (H94 67) (H94 68) x2.toNatClampNeg x4.toNatClampNeg x5.toNatClampNeg) := ⟨_, rfl⟩
                    refine x_weq (w' := w6 cI cO a E94 G121) (by subst eG121; rfl) ?_
                    replace h := h G121 eG121
                    refine x_iload (pc' := 126) K dX6_move_124 5 rfl rfl ?_
                    exact x_iret (wf := w6 cI cO a) K h dX6_move_126
                  · replace h := h.2 c97
                    refine x_aload_n (pc' := 101) K dX6_move_100 0 rfl rfl ?_
                    refine x_iconst (pc' := 102) (v := 1) K dX6_move_101 (by decide) rfl ?_
                    refine x_callI (pc' := 105) K (mX6_error l D cI cO a _) rfl gX6_move_X6_error rfl dsX6_error ⟨rfl, rfl, ⟨Nat.le_of_ble_eq_true rfl, Nat.le_of_ble_eq_true rfl⟩, Nat.le_of_ble_eq_true rfl, Nat.le_of_ble_eq_true rfl⟩ h 6 0 rfl rfl (st := []) rfl rfl (Nat.le_of_ble_eq_true rfl) dX6_move_102 rfl (fun r102 F102 G102 h => ?_)
                    exact x_iret (wf := w6 cI cO a) K h dX6_move_105
              · replace h := h.2 c68
                refine x_aload_n (pc' := 72) K dX6_move_71 0 rfl rfl ?_
                refine x_iconst (pc' := 73) (v := 5) K dX6_move_72 (by decide) rfl ?_
                refine x_callI (pc' := 76) K (mX6_error l D cI cO a _) rfl gX6_move_X6_error rfl dsX6_error ⟨rfl, rfl, ⟨Nat.le_of_ble_eq_true rfl, Nat.le_of_ble_eq_true rfl⟩, Nat.le_of_ble_eq_true rfl, Nat.le_of_ble_eq_true rfl⟩ h 6 0 rfl rfl (st := []) rfl rfl (Nat.le_of_ble_eq_true rfl) dX6_move_73 rfl (fun r73 F73 G73 h => ?_)
                exact x_iret (wf := w6 cI cO a) K h dX6_move_76
            · replace h := h.2 c49
              refine x_aload_n (pc' := 53) K dX6_move_52 0 rfl rfl ?_
              refine x_iconst (pc' := 54) (v := 2) K dX6_move_53 (by decide) rfl ?_
              refine x_callI (pc' := 57) K (mX6_error l D cI cO a _) rfl gX6_move_X6_error rfl dsX6_error ⟨rfl, rfl, ⟨Nat.le_of_ble_eq_true rfl, Nat.le_of_ble_eq_true rfl⟩, Nat.le_of_ble_eq_true rfl, Nat.le_of_ble_eq_true rfl⟩ h 6 0 rfl rfl (st := []) rfl rfl (Nat.le_of_ble_eq_true rfl) dX6_move_54 rfl (fun r54 F54 G54 h => ?_)
              exact x_iret (wf := w6 cI cO a) K h dX6_move_57
        · replace h := h.2.2.2 e33
          refine xw6_96q3 (pc' := 34) K i33 e33 dX6_move_33 rfl ?_
          refine x_astore (pc' := 36) (i := 7) K dX6_move_34 (by decide) [1, 2, 3, 4, 5, 6, 7, 0] (L' := [(0, .ref (a 0)), (1, .int _), (2, .int _), (3, .int _), (4, .int _), (5, .int _), (6, .ref (a 99)), (7, .ref (a 103))]) rfl rfl ?_
          refine x_aload (pc' := 38) K dX6_move_36 6 rfl rfl ?_
          refine x_subI (pc' := 41) (wn := fun F' G' => w6 cI cO a (xspl F 44 2 F') (xspl G 67 1 G')) K (mX2_isMissing l D cI cO (xsub a 99)) rfl gX6_move_X2_isMissing rfl dsX2_isMissing ⟨rfl, rfl, ⟨Nat.le_of_ble_eq_true rfl, Nat.le_of_ble_eq_true rfl⟩, Nat.le_of_ble_eq_true rfl, Nat.le_of_ble_eq_true rfl⟩ h 2 0 rfl rfl (xpl32 cI cO a _ _) (fun F' G' => xpr32 cI cO a _ _ F' G') (st := []) rfl rfl (Nat.le_of_ble_eq_true rfl) dX6_move_38 rfl (fun r38 F38 G38 h => ?_)
          obtain ⟨E38, eE38⟩ : ∃ x : xF, x = (xspl F 44 2 F38) := ⟨_, rfl⟩
          obtain ⟨H38, eH38⟩ : ∃ x : xA, x = (xspl G 67 1 G38) := ⟨_, rfl⟩
          refine x_weq (w' := w6 cI cO a E38 H38) (by subst eE38; subst eH38; rfl) ?_
          replace h := h E38 eE38
          replace h := h H38 eH38
          refine x_if_ne (tgt := 52) (pc' := 44) K dX6_move_41 rfl rfl (fun c41 => ?_) (fun c41 => ?_)
          · replace h := h.1 c41
            refine x_aload_n (pc' := 53) K dX6_move_52 0 rfl rfl ?_
            refine x_iconst (pc' := 54) (v := 2) K dX6_move_53 (by decide) rfl ?_
            refine x_callI (pc' := 57) K (mX6_error l D cI cO a _) rfl gX6_move_X6_error rfl dsX6_error ⟨rfl, rfl, ⟨Nat.le_of_ble_eq_true rfl, Nat.le_of_ble_eq_true rfl⟩, Nat.le_of_ble_eq_true rfl, Nat.le_of_ble_eq_true rfl⟩ h 6 0 rfl rfl (st := []) rfl rfl (Nat.le_of_ble_eq_true rfl) dX6_move_54 rfl (fun r54 F54 G54 h => ?_)
            exact x_iret (wf := w6 cI cO a) K h dX6_move_57
          · replace h := h.2 c41
            refine x_aload (pc' := 46) K dX6_move_44 7 rfl rfl ?_
            refine x_subI (pc' := 49) (wn := fun F' G' => w6 cI cO a (xspl E38 48 2 F') (xspl H38 69 1 G')) K (mX2_isMissing l D cI cO (xsub a 103)) rfl gX6_move_X2_isMissing rfl dsX2_isMissing ⟨rfl, rfl, ⟨Nat.le_of_ble_eq_true rfl, Nat.le_of_ble_eq_true rfl⟩, Nat.le_of_ble_eq_true rfl, Nat.le_of_ble_eq_true rfl⟩ h 2 0 rfl rfl (xpl34 cI cO a _ _) (fun F' G' => xpr34 cI cO a _ _ F' G') (st := []) rfl rfl (Nat.le_of_ble_eq_true rfl) dX6_move_46 rfl (fun r46 F46 G46 h => ?_)
            obtain ⟨E46, eE46⟩ : ∃ x : xF, x = (xspl E38 48 2 F46) := ⟨_, rfl⟩
            obtain ⟨H46, eH46⟩ : ∃ x : xA, x = (xspl H38 69 1 G46) := ⟨_, rfl⟩
            refine x_weq (w' := w6 cI cO a E46 H46) (by subst eE46; subst eH46; rfl) ?_
            replace h := h E46 eE46
            replace h := h H46 eH46
            refine x_if_eq (tgt := 58) (pc' := 52) K dX6_move_49 rfl rfl (fun c49 => ?_) (fun c49 => ?_)
            · replace h := h.1 c49
              refine x_aload (pc' := 60) K dX6_move_58 6 rfl rfl ?_
              refine xw6_99g_bits (pc' := 63) K hinX6_move_X2 uX6_move_f237 dX6_move_60 rfl ?_
              refine x_aload (pc' := 65) K dX6_move_63 7 rfl rfl ?_
              refine xw6_103g_bits (pc' := 68) K hinX6_move_X2 uX6_move_f237 dX6_move_65 rfl ?_
              refine x_icmp_eq (tgt := 77) (pc' := 71) K dX6_move_68 rfl rfl (fun c68 => ?_) (fun c68 => ?_)
              · replace h := h.1 c68
                refine x_aload (pc' := 79) K dX6_move_77 6 rfl rfl ?_
                refine x_iload_n (pc' := 80) K dX6_move_79 2 rfl rfl ?_
                refine x_iload (pc' := 82) K dX6_move_80 5 rfl rfl ?_
                refine x_subI (pc' := 85) (wn := fun F' G' => w6 cI cO a (xspl E46 44 2 F') (xspl H46 67 1 G')) K (mX2_holdsPart l D cI cO (xsub a 99) _ _) rfl gX6_move_X2_holdsPart rfl dsX2_holdsPart ⟨rfl, rfl, ⟨Nat.le_of_ble_eq_true rfl, Nat.le_of_ble_eq_true rfl⟩, Nat.le_of_ble_eq_true rfl, Nat.le_of_ble_eq_true rfl⟩ h 2 0 rfl rfl (xpl32 cI cO a _ _) (fun F' G' => xpr32 cI cO a _ _ F' G') (st := []) rfl rfl (Nat.le_of_ble_eq_true rfl) dX6_move_82 rfl (fun r82 F82 G82 h => ?_)
                obtain ⟨E82, eE82⟩ : ∃ x : xF, x = (xspl E46 44 2 F82) := ⟨_, rfl⟩
                obtain ⟨H82, eH82⟩ : ∃ x : xA, x = (xspl H46 67 1 G82) := ⟨_, rfl⟩
                refine x_weq (w' := w6 cI cO a E82 H82) (by subst eE82; subst eH82; rfl) ?_
                replace h := h E82 eE82
                replace h := h H82 eH82
                refine x_if_eq (tgt := 100) (pc' := 88) K dX6_move_85 rfl rfl (fun c85 => ?_) (fun c85 => ?_)
                · replace h := h.1 c85
                  refine x_aload_n (pc' := 101) K dX6_move_100 0 rfl rfl ?_
                  refine x_iconst (pc' := 102) (v := 1) K dX6_move_101 (by decide) rfl ?_
                  refine x_callI (pc' := 105) K (mX6_error l D cI cO a _) rfl gX6_move_X6_error rfl dsX6_error ⟨rfl, rfl, ⟨Nat.le_of_ble_eq_true rfl, Nat.le_of_ble_eq_true rfl⟩, Nat.le_of_ble_eq_true rfl, Nat.le_of_ble_eq_true rfl⟩ h 6 0 rfl rfl (st := []) rfl rfl (Nat.le_of_ble_eq_true rfl) dX6_move_102 rfl (fun r102 F102 G102 h => ?_)
                  exact x_iret (wf := w6 cI cO a) K h dX6_move_105
                · replace h := h.2 c85
                  refine x_aload (pc' := 90) K dX6_move_88 7 rfl rfl ?_
                  refine x_iload (pc' := 92) K dX6_move_90 4 rfl rfl ?_
                  refine x_iload (pc' := 94) K dX6_move_92 5 rfl rfl ?_
                  refine x_subI (pc' := 97) (wn := fun F' G' => w6 cI cO a (xspl E82 48 2 F') (xspl H82 69 1 G')) K (mX2_holdsPart l D cI cO (xsub a 103) _ _) rfl gX6_move_X2_holdsPart rfl dsX2_holdsPart ⟨rfl, rfl, ⟨Nat.le_of_ble_eq_true rfl, Nat.le_of_ble_eq_true rfl⟩, Nat.le_of_ble_eq_true rfl, Nat.le_of_ble_eq_true rfl⟩ h 2 0 rfl rfl (xpl34 cI cO a _ _) (fun F' G' => xpr34 cI cO a _ _ F' G') (st := []) rfl rfl (Nat.le_of_ble_eq_true rfl) dX6_move_94 rfl (fun r94 F94 G94 h => ?_)
                  obtain ⟨E94, eE94⟩ : ∃ x : xF, x = (xspl E82 48 2 F94) := ⟨_, rfl⟩
                  obtain ⟨H94, eH94⟩ : ∃ x : xA, x = (xspl H82 69 1 G94) := ⟨_, rfl⟩
                  refine x_weq (w' := w6 cI cO a E94 H94) (by subst eE94; subst eH94; rfl) ?_
                  replace h := h E94 eE94
                  replace h := h H94 eH94
                  refine x_if_ne (tgt := 106) (pc' := 100) K dX6_move_97 rfl rfl (fun c97 => ?_) (fun c97 => ?_)
                  · replace h := h.1 c97
                    refine x_aload (pc' := 108) K dX6_move_106 6 rfl rfl ?_
                    refine xw6_99g_numbers (pc' := 111) K hinX6_move_X2 uX6_move_f243 dX6_move_108 rfl ?_
                    refine x_iload_n (pc' := 112) K dX6_move_111 2 rfl rfl ?_
                    refine x_aload (pc' := 114) K dX6_move_112 7 rfl rfl ?_
                    refine xw6_103g_numbers (pc' := 117) K hinX6_move_X2 uX6_move_f243 dX6_move_114 rfl ?_
                    refine x_iload (pc' := 119) K dX6_move_117 4 rfl rfl ?_
                    refine x_iload (pc' := 121) K dX6_move_119 5 rfl rfl ?_
                    obtain ⟨z121s, h⟩ := h
                    obtain ⟨z121d, h⟩ := h
                    obtain ⟨z121n, h⟩ := h
                    obtain ⟨z121p, h⟩ := h
                    obtain ⟨z121q, h⟩ := h
                    refine x_copy (pc' := 124) (w' := w6 cI cO a E94 (va_up H94 69 (va_cpy (H94 67) (H94 69) x2.toNatClampNeg x4.toNatClampNeg x5.toNatClampNeg))) K uX6_move_m246 uX6_move_cn uX6_move_cs uX6_move_ci 100 104 (f := H94 67) (g := H94 69) (n0 := 24) (n1 := 24) (cA := cI) rfl rfl rfl z121s z121d z121n z121p z121q rfl (by decide +kernel) (by decide +kernel) dX6_move_121 rfl ?_
                    obtain ⟨G121, eG121⟩ : ∃ x : xA, x = va_up H94 69 (va_cpy (H94 67) (H94 69) x2.toNatClampNeg x4.toNatClampNeg x5.toNatClampNeg) := ⟨_, rfl⟩
                    refine x_weq (w' := w6 cI cO a E94 G121) (by subst eG121; rfl) ?_
                    replace h := h G121 eG121
                    refine x_iload (pc' := 126) K dX6_move_124 5 rfl rfl ?_
                    exact x_iret (wf := w6 cI cO a) K h dX6_move_126
                  · replace h := h.2 c97
                    refine x_aload_n (pc' := 101) K dX6_move_100 0 rfl rfl ?_
                    refine x_iconst (pc' := 102) (v := 1) K dX6_move_101 (by decide) rfl ?_
                    refine x_callI (pc' := 105) K (mX6_error l D cI cO a _) rfl gX6_move_X6_error rfl dsX6_error ⟨rfl, rfl, ⟨Nat.le_of_ble_eq_true rfl, Nat.le_of_ble_eq_true rfl⟩, Nat.le_of_ble_eq_true rfl, Nat.le_of_ble_eq_true rfl⟩ h 6 0 rfl rfl (st := []) rfl rfl (Nat.le_of_ble_eq_true rfl) dX6_move_102 rfl (fun r102 F102 G102 h => ?_)
                    exact x_iret (wf := w6 cI cO a) K h dX6_move_105
              · replace h := h.2 c68
                refine x_aload_n (pc' := 72) K dX6_move_71 0 rfl rfl ?_
                refine x_iconst (pc' := 73) (v := 5) K dX6_move_72 (by decide) rfl ?_
                refine x_callI (pc' := 76) K (mX6_error l D cI cO a _) rfl gX6_move_X6_error rfl dsX6_error ⟨rfl, rfl, ⟨Nat.le_of_ble_eq_true rfl, Nat.le_of_ble_eq_true rfl⟩, Nat.le_of_ble_eq_true rfl, Nat.le_of_ble_eq_true rfl⟩ h 6 0 rfl rfl (st := []) rfl rfl (Nat.le_of_ble_eq_true rfl) dX6_move_73 rfl (fun r73 F73 G73 h => ?_)
                exact x_iret (wf := w6 cI cO a) K h dX6_move_76
            · replace h := h.2 c49
              refine x_aload_n (pc' := 53) K dX6_move_52 0 rfl rfl ?_
              refine x_iconst (pc' := 54) (v := 2) K dX6_move_53 (by decide) rfl ?_
              refine x_callI (pc' := 57) K (mX6_error l D cI cO a _) rfl gX6_move_X6_error rfl dsX6_error ⟨rfl, rfl, ⟨Nat.le_of_ble_eq_true rfl, Nat.le_of_ble_eq_true rfl⟩, Nat.le_of_ble_eq_true rfl, Nat.le_of_ble_eq_true rfl⟩ h 6 0 rfl rfl (st := []) rfl rfl (Nat.le_of_ble_eq_true rfl) dX6_move_54 rfl (fun r54 F54 G54 h => ?_)
              exact x_iret (wf := w6 cI cO a) K h dX6_move_57
      · replace h := h.2.2.1 e25
        refine xw6_96q2 (pc' := 26) K i25 e25 dX6_move_25 rfl ?_
        refine x_astore (pc' := 28) (i := 6) K dX6_move_26 (by decide) [1, 2, 3, 4, 5, 6, 0] (L' := [(0, .ref (a 0)), (1, .int _), (2, .int _), (3, .int _), (4, .int _), (5, .int _), (6, .ref (a 101))]) rfl rfl ?_
        refine x_aload_n (pc' := 29) K dX6_move_28 0 rfl rfl ?_
        refine xw6_0g_sheets (pc' := 32) K hinX6_move_X6 uX6_move_f70 dX6_move_29 rfl ?_
        refine x_iload_n (pc' := 33) K dX6_move_32 3 rfl rfl ?_
        obtain ⟨i33, h⟩ := h
        rcases xin4 i33 with e33 | e33 | e33 | e33
        · replace h := h.1 e33
          refine xw6_96q0 (pc' := 34) K i33 e33 dX6_move_33 rfl ?_
          refine x_astore (pc' := 36) (i := 7) K dX6_move_34 (by decide) [1, 2, 3, 4, 5, 6, 7, 0] (L' := [(0, .ref (a 0)), (1, .int _), (2, .int _), (3, .int _), (4, .int _), (5, .int _), (6, .ref (a 101)), (7, .ref (a 97))]) rfl rfl ?_
          refine x_aload (pc' := 38) K dX6_move_36 6 rfl rfl ?_
          refine x_subI (pc' := 41) (wn := fun F' G' => w6 cI cO a (xspl F 46 2 F') (xspl G 68 1 G')) K (mX2_isMissing l D cI cO (xsub a 101)) rfl gX6_move_X2_isMissing rfl dsX2_isMissing ⟨rfl, rfl, ⟨Nat.le_of_ble_eq_true rfl, Nat.le_of_ble_eq_true rfl⟩, Nat.le_of_ble_eq_true rfl, Nat.le_of_ble_eq_true rfl⟩ h 2 0 rfl rfl (xpl33 cI cO a _ _) (fun F' G' => xpr33 cI cO a _ _ F' G') (st := []) rfl rfl (Nat.le_of_ble_eq_true rfl) dX6_move_38 rfl (fun r38 F38 G38 h => ?_)
          obtain ⟨E38, eE38⟩ : ∃ x : xF, x = (xspl F 46 2 F38) := ⟨_, rfl⟩
          obtain ⟨H38, eH38⟩ : ∃ x : xA, x = (xspl G 68 1 G38) := ⟨_, rfl⟩
          refine x_weq (w' := w6 cI cO a E38 H38) (by subst eE38; subst eH38; rfl) ?_
          replace h := h E38 eE38
          replace h := h H38 eH38
          refine x_if_ne (tgt := 52) (pc' := 44) K dX6_move_41 rfl rfl (fun c41 => ?_) (fun c41 => ?_)
          · replace h := h.1 c41
            refine x_aload_n (pc' := 53) K dX6_move_52 0 rfl rfl ?_
            refine x_iconst (pc' := 54) (v := 2) K dX6_move_53 (by decide) rfl ?_
            refine x_callI (pc' := 57) K (mX6_error l D cI cO a _) rfl gX6_move_X6_error rfl dsX6_error ⟨rfl, rfl, ⟨Nat.le_of_ble_eq_true rfl, Nat.le_of_ble_eq_true rfl⟩, Nat.le_of_ble_eq_true rfl, Nat.le_of_ble_eq_true rfl⟩ h 6 0 rfl rfl (st := []) rfl rfl (Nat.le_of_ble_eq_true rfl) dX6_move_54 rfl (fun r54 F54 G54 h => ?_)
            exact x_iret (wf := w6 cI cO a) K h dX6_move_57
          · replace h := h.2 c41
            refine x_aload (pc' := 46) K dX6_move_44 7 rfl rfl ?_
            refine x_subI (pc' := 49) (wn := fun F' G' => w6 cI cO a (xspl E38 42 2 F') (xspl H38 66 1 G')) K (mX2_isMissing l D cI cO (xsub a 97)) rfl gX6_move_X2_isMissing rfl dsX2_isMissing ⟨rfl, rfl, ⟨Nat.le_of_ble_eq_true rfl, Nat.le_of_ble_eq_true rfl⟩, Nat.le_of_ble_eq_true rfl, Nat.le_of_ble_eq_true rfl⟩ h 2 0 rfl rfl (xpl31 cI cO a _ _) (fun F' G' => xpr31 cI cO a _ _ F' G') (st := []) rfl rfl (Nat.le_of_ble_eq_true rfl) dX6_move_46 rfl (fun r46 F46 G46 h => ?_)
            obtain ⟨E46, eE46⟩ : ∃ x : xF, x = (xspl E38 42 2 F46) := ⟨_, rfl⟩
            obtain ⟨H46, eH46⟩ : ∃ x : xA, x = (xspl H38 66 1 G46) := ⟨_, rfl⟩
            refine x_weq (w' := w6 cI cO a E46 H46) (by subst eE46; subst eH46; rfl) ?_
            replace h := h E46 eE46
            replace h := h H46 eH46
            refine x_if_eq (tgt := 58) (pc' := 52) K dX6_move_49 rfl rfl (fun c49 => ?_) (fun c49 => ?_)
            · replace h := h.1 c49
              refine x_aload (pc' := 60) K dX6_move_58 6 rfl rfl ?_
              refine xw6_101g_bits (pc' := 63) K hinX6_move_X2 uX6_move_f237 dX6_move_60 rfl ?_
              refine x_aload (pc' := 65) K dX6_move_63 7 rfl rfl ?_
              refine xw6_97g_bits (pc' := 68) K hinX6_move_X2 uX6_move_f237 dX6_move_65 rfl ?_
              refine x_icmp_eq (tgt := 77) (pc' := 71) K dX6_move_68 rfl rfl (fun c68 => ?_) (fun c68 => ?_)
              · replace h := h.1 c68
                refine x_aload (pc' := 79) K dX6_move_77 6 rfl rfl ?_
                refine x_iload_n (pc' := 80) K dX6_move_79 2 rfl rfl ?_
                refine x_iload (pc' := 82) K dX6_move_80 5 rfl rfl ?_
                refine x_subI (pc' := 85) (wn := fun F' G' => w6 cI cO a (xspl E46 46 2 F') (xspl H46 68 1 G')) K (mX2_holdsPart l D cI cO (xsub a 101) _ _) rfl gX6_move_X2_holdsPart rfl dsX2_holdsPart ⟨rfl, rfl, ⟨Nat.le_of_ble_eq_true rfl, Nat.le_of_ble_eq_true rfl⟩, Nat.le_of_ble_eq_true rfl, Nat.le_of_ble_eq_true rfl⟩ h 2 0 rfl rfl (xpl33 cI cO a _ _) (fun F' G' => xpr33 cI cO a _ _ F' G') (st := []) rfl rfl (Nat.le_of_ble_eq_true rfl) dX6_move_82 rfl (fun r82 F82 G82 h => ?_)
                obtain ⟨E82, eE82⟩ : ∃ x : xF, x = (xspl E46 46 2 F82) := ⟨_, rfl⟩
                obtain ⟨H82, eH82⟩ : ∃ x : xA, x = (xspl H46 68 1 G82) := ⟨_, rfl⟩
                refine x_weq (w' := w6 cI cO a E82 H82) (by subst eE82; subst eH82; rfl) ?_
                replace h := h E82 eE82
                replace h := h H82 eH82
                refine x_if_eq (tgt := 100) (pc' := 88) K dX6_move_85 rfl rfl (fun c85 => ?_) (fun c85 => ?_)
                · replace h := h.1 c85
                  refine x_aload_n (pc' := 101) K dX6_move_100 0 rfl rfl ?_
                  refine x_iconst (pc' := 102) (v := 1) K dX6_move_101 (by decide) rfl ?_
                  refine x_callI (pc' := 105) K (mX6_error l D cI cO a _) rfl gX6_move_X6_error rfl dsX6_error ⟨rfl, rfl, ⟨Nat.le_of_ble_eq_true rfl, Nat.le_of_ble_eq_true rfl⟩, Nat.le_of_ble_eq_true rfl, Nat.le_of_ble_eq_true rfl⟩ h 6 0 rfl rfl (st := []) rfl rfl (Nat.le_of_ble_eq_true rfl) dX6_move_102 rfl (fun r102 F102 G102 h => ?_)
                  exact x_iret (wf := w6 cI cO a) K h dX6_move_105
                · replace h := h.2 c85
                  refine x_aload (pc' := 90) K dX6_move_88 7 rfl rfl ?_
                  refine x_iload (pc' := 92) K dX6_move_90 4 rfl rfl ?_
                  refine x_iload (pc' := 94) K dX6_move_92 5 rfl rfl ?_
                  refine x_subI (pc' := 97) (wn := fun F' G' => w6 cI cO a (xspl E82 42 2 F') (xspl H82 66 1 G')) K (mX2_holdsPart l D cI cO (xsub a 97) _ _) rfl gX6_move_X2_holdsPart rfl dsX2_holdsPart ⟨rfl, rfl, ⟨Nat.le_of_ble_eq_true rfl, Nat.le_of_ble_eq_true rfl⟩, Nat.le_of_ble_eq_true rfl, Nat.le_of_ble_eq_true rfl⟩ h 2 0 rfl rfl (xpl31 cI cO a _ _) (fun F' G' => xpr31 cI cO a _ _ F' G') (st := []) rfl rfl (Nat.le_of_ble_eq_true rfl) dX6_move_94 rfl (fun r94 F94 G94 h => ?_)
                  obtain ⟨E94, eE94⟩ : ∃ x : xF, x = (xspl E82 42 2 F94) := ⟨_, rfl⟩
                  obtain ⟨H94, eH94⟩ : ∃ x : xA, x = (xspl H82 66 1 G94) := ⟨_, rfl⟩
                  refine x_weq (w' := w6 cI cO a E94 H94) (by subst eE94; subst eH94; rfl) ?_
                  replace h := h E94 eE94
                  replace h := h H94 eH94
                  refine x_if_ne (tgt := 106) (pc' := 100) K dX6_move_97 rfl rfl (fun c97 => ?_) (fun c97 => ?_)
                  · replace h := h.1 c97
                    refine x_aload (pc' := 108) K dX6_move_106 6 rfl rfl ?_
                    refine xw6_101g_numbers (pc' := 111) K hinX6_move_X2 uX6_move_f243 dX6_move_108 rfl ?_
                    refine x_iload_n (pc' := 112) K dX6_move_111 2 rfl rfl ?_
                    refine x_aload (pc' := 114) K dX6_move_112 7 rfl rfl ?_
                    refine xw6_97g_numbers (pc' := 117) K hinX6_move_X2 uX6_move_f243 dX6_move_114 rfl ?_
                    refine x_iload (pc' := 119) K dX6_move_117 4 rfl rfl ?_
                    refine x_iload (pc' := 121) K dX6_move_119 5 rfl rfl ?_
                    obtain ⟨z121s, h⟩ := h
                    obtain ⟨z121d, h⟩ := h
                    obtain ⟨z121n, h⟩ := h
                    obtain ⟨z121p, h⟩ := h
                    obtain ⟨z121q, h⟩ := h
                    refine x_copy (pc' := 124) (w' := w6 cI cO a E94 (va_up H94 66 (va_cpy (H94 68) (H94 66) x2.toNatClampNeg x4.toNatClampNeg x5.toNatClampNeg))) K uX6_move_m246 uX6_move_cn uX6_move_cs uX6_move_ci 102 98 (f := H94 68) (g := H94 66) (n0 := 24) (n1 := 24) (cA := cI) rfl rfl rfl z121s z121d z121n z121p z121q rfl (by decide +kernel) (by decide +kernel) dX6_move_121 rfl ?_
                    obtain ⟨G121, eG121⟩ : ∃ x : xA, x = va_up H94 66 (va_cpy (H94 68) (H94 66) x2.toNatClampNeg x4.toNatClampNeg x5.toNatClampNeg) := ⟨_, rfl⟩
                    refine x_weq (w' := w6 cI cO a E94 G121) (by subst eG121; rfl) ?_
                    replace h := h G121 eG121
                    refine x_iload (pc' := 126) K dX6_move_124 5 rfl rfl ?_
                    exact x_iret (wf := w6 cI cO a) K h dX6_move_126
                  · replace h := h.2 c97
                    refine x_aload_n (pc' := 101) K dX6_move_100 0 rfl rfl ?_
                    refine x_iconst (pc' := 102) (v := 1) K dX6_move_101 (by decide) rfl ?_
                    refine x_callI (pc' := 105) K (mX6_error l D cI cO a _) rfl gX6_move_X6_error rfl dsX6_error ⟨rfl, rfl, ⟨Nat.le_of_ble_eq_true rfl, Nat.le_of_ble_eq_true rfl⟩, Nat.le_of_ble_eq_true rfl, Nat.le_of_ble_eq_true rfl⟩ h 6 0 rfl rfl (st := []) rfl rfl (Nat.le_of_ble_eq_true rfl) dX6_move_102 rfl (fun r102 F102 G102 h => ?_)
                    exact x_iret (wf := w6 cI cO a) K h dX6_move_105
              · replace h := h.2 c68
                refine x_aload_n (pc' := 72) K dX6_move_71 0 rfl rfl ?_
                refine x_iconst (pc' := 73) (v := 5) K dX6_move_72 (by decide) rfl ?_
                refine x_callI (pc' := 76) K (mX6_error l D cI cO a _) rfl gX6_move_X6_error rfl dsX6_error ⟨rfl, rfl, ⟨Nat.le_of_ble_eq_true rfl, Nat.le_of_ble_eq_true rfl⟩, Nat.le_of_ble_eq_true rfl, Nat.le_of_ble_eq_true rfl⟩ h 6 0 rfl rfl (st := []) rfl rfl (Nat.le_of_ble_eq_true rfl) dX6_move_73 rfl (fun r73 F73 G73 h => ?_)
                exact x_iret (wf := w6 cI cO a) K h dX6_move_76
            · replace h := h.2 c49
              refine x_aload_n (pc' := 53) K dX6_move_52 0 rfl rfl ?_
              refine x_iconst (pc' := 54) (v := 2) K dX6_move_53 (by decide) rfl ?_
              refine x_callI (pc' := 57) K (mX6_error l D cI cO a _) rfl gX6_move_X6_error rfl dsX6_error ⟨rfl, rfl, ⟨Nat.le_of_ble_eq_true rfl, Nat.le_of_ble_eq_true rfl⟩, Nat.le_of_ble_eq_true rfl, Nat.le_of_ble_eq_true rfl⟩ h 6 0 rfl rfl (st := []) rfl rfl (Nat.le_of_ble_eq_true rfl) dX6_move_54 rfl (fun r54 F54 G54 h => ?_)
              exact x_iret (wf := w6 cI cO a) K h dX6_move_57
        · replace h := h.2.1 e33
          refine xw6_96q1 (pc' := 34) K i33 e33 dX6_move_33 rfl ?_
          refine x_astore (pc' := 36) (i := 7) K dX6_move_34 (by decide) [1, 2, 3, 4, 5, 6, 7, 0] (L' := [(0, .ref (a 0)), (1, .int _), (2, .int _), (3, .int _), (4, .int _), (5, .int _), (6, .ref (a 101)), (7, .ref (a 99))]) rfl rfl ?_
          refine x_aload (pc' := 38) K dX6_move_36 6 rfl rfl ?_
          refine x_subI (pc' := 41) (wn := fun F' G' => w6 cI cO a (xspl F 46 2 F') (xspl G 68 1 G')) K (mX2_isMissing l D cI cO (xsub a 101)) rfl gX6_move_X2_isMissing rfl dsX2_isMissing ⟨rfl, rfl, ⟨Nat.le_of_ble_eq_true rfl, Nat.le_of_ble_eq_true rfl⟩, Nat.le_of_ble_eq_true rfl, Nat.le_of_ble_eq_true rfl⟩ h 2 0 rfl rfl (xpl33 cI cO a _ _) (fun F' G' => xpr33 cI cO a _ _ F' G') (st := []) rfl rfl (Nat.le_of_ble_eq_true rfl) dX6_move_38 rfl (fun r38 F38 G38 h => ?_)
          obtain ⟨E38, eE38⟩ : ∃ x : xF, x = (xspl F 46 2 F38) := ⟨_, rfl⟩
          obtain ⟨H38, eH38⟩ : ∃ x : xA, x = (xspl G 68 1 G38) := ⟨_, rfl⟩
          refine x_weq (w' := w6 cI cO a E38 H38) (by subst eE38; subst eH38; rfl) ?_
          replace h := h E38 eE38
          replace h := h H38 eH38
          refine x_if_ne (tgt := 52) (pc' := 44) K dX6_move_41 rfl rfl (fun c41 => ?_) (fun c41 => ?_)
          · replace h := h.1 c41
            refine x_aload_n (pc' := 53) K dX6_move_52 0 rfl rfl ?_
            refine x_iconst (pc' := 54) (v := 2) K dX6_move_53 (by decide) rfl ?_
            refine x_callI (pc' := 57) K (mX6_error l D cI cO a _) rfl gX6_move_X6_error rfl dsX6_error ⟨rfl, rfl, ⟨Nat.le_of_ble_eq_true rfl, Nat.le_of_ble_eq_true rfl⟩, Nat.le_of_ble_eq_true rfl, Nat.le_of_ble_eq_true rfl⟩ h 6 0 rfl rfl (st := []) rfl rfl (Nat.le_of_ble_eq_true rfl) dX6_move_54 rfl (fun r54 F54 G54 h => ?_)
            exact x_iret (wf := w6 cI cO a) K h dX6_move_57
          · replace h := h.2 c41
            refine x_aload (pc' := 46) K dX6_move_44 7 rfl rfl ?_
            refine x_subI (pc' := 49) (wn := fun F' G' => w6 cI cO a (xspl E38 44 2 F') (xspl H38 67 1 G')) K (mX2_isMissing l D cI cO (xsub a 99)) rfl gX6_move_X2_isMissing rfl dsX2_isMissing ⟨rfl, rfl, ⟨Nat.le_of_ble_eq_true rfl, Nat.le_of_ble_eq_true rfl⟩, Nat.le_of_ble_eq_true rfl, Nat.le_of_ble_eq_true rfl⟩ h 2 0 rfl rfl (xpl32 cI cO a _ _) (fun F' G' => xpr32 cI cO a _ _ F' G') (st := []) rfl rfl (Nat.le_of_ble_eq_true rfl) dX6_move_46 rfl (fun r46 F46 G46 h => ?_)
            obtain ⟨E46, eE46⟩ : ∃ x : xF, x = (xspl E38 44 2 F46) := ⟨_, rfl⟩
            obtain ⟨H46, eH46⟩ : ∃ x : xA, x = (xspl H38 67 1 G46) := ⟨_, rfl⟩
            refine x_weq (w' := w6 cI cO a E46 H46) (by subst eE46; subst eH46; rfl) ?_
            replace h := h E46 eE46
            replace h := h H46 eH46
            refine x_if_eq (tgt := 58) (pc' := 52) K dX6_move_49 rfl rfl (fun c49 => ?_) (fun c49 => ?_)
            · replace h := h.1 c49
              refine x_aload (pc' := 60) K dX6_move_58 6 rfl rfl ?_
              refine xw6_101g_bits (pc' := 63) K hinX6_move_X2 uX6_move_f237 dX6_move_60 rfl ?_
              refine x_aload (pc' := 65) K dX6_move_63 7 rfl rfl ?_
              refine xw6_99g_bits (pc' := 68) K hinX6_move_X2 uX6_move_f237 dX6_move_65 rfl ?_
              refine x_icmp_eq (tgt := 77) (pc' := 71) K dX6_move_68 rfl rfl (fun c68 => ?_) (fun c68 => ?_)
              · replace h := h.1 c68
                refine x_aload (pc' := 79) K dX6_move_77 6 rfl rfl ?_
                refine x_iload_n (pc' := 80) K dX6_move_79 2 rfl rfl ?_
                refine x_iload (pc' := 82) K dX6_move_80 5 rfl rfl ?_
                refine x_subI (pc' := 85) (wn := fun F' G' => w6 cI cO a (xspl E46 46 2 F') (xspl H46 68 1 G')) K (mX2_holdsPart l D cI cO (xsub a 101) _ _) rfl gX6_move_X2_holdsPart rfl dsX2_holdsPart ⟨rfl, rfl, ⟨Nat.le_of_ble_eq_true rfl, Nat.le_of_ble_eq_true rfl⟩, Nat.le_of_ble_eq_true rfl, Nat.le_of_ble_eq_true rfl⟩ h 2 0 rfl rfl (xpl33 cI cO a _ _) (fun F' G' => xpr33 cI cO a _ _ F' G') (st := []) rfl rfl (Nat.le_of_ble_eq_true rfl) dX6_move_82 rfl (fun r82 F82 G82 h => ?_)
                obtain ⟨E82, eE82⟩ : ∃ x : xF, x = (xspl E46 46 2 F82) := ⟨_, rfl⟩
                obtain ⟨H82, eH82⟩ : ∃ x : xA, x = (xspl H46 68 1 G82) := ⟨_, rfl⟩
                refine x_weq (w' := w6 cI cO a E82 H82) (by subst eE82; subst eH82; rfl) ?_
                replace h := h E82 eE82
                replace h := h H82 eH82
                refine x_if_eq (tgt := 100) (pc' := 88) K dX6_move_85 rfl rfl (fun c85 => ?_) (fun c85 => ?_)
                · replace h := h.1 c85
                  refine x_aload_n (pc' := 101) K dX6_move_100 0 rfl rfl ?_
                  refine x_iconst (pc' := 102) (v := 1) K dX6_move_101 (by decide) rfl ?_
                  refine x_callI (pc' := 105) K (mX6_error l D cI cO a _) rfl gX6_move_X6_error rfl dsX6_error ⟨rfl, rfl, ⟨Nat.le_of_ble_eq_true rfl, Nat.le_of_ble_eq_true rfl⟩, Nat.le_of_ble_eq_true rfl, Nat.le_of_ble_eq_true rfl⟩ h 6 0 rfl rfl (st := []) rfl rfl (Nat.le_of_ble_eq_true rfl) dX6_move_102 rfl (fun r102 F102 G102 h => ?_)
                  exact x_iret (wf := w6 cI cO a) K h dX6_move_105
                · replace h := h.2 c85
                  refine x_aload (pc' := 90) K dX6_move_88 7 rfl rfl ?_
                  refine x_iload (pc' := 92) K dX6_move_90 4 rfl rfl ?_
                  refine x_iload (pc' := 94) K dX6_move_92 5 rfl rfl ?_
                  refine x_subI (pc' := 97) (wn := fun F' G' => w6 cI cO a (xspl E82 44 2 F') (xspl H82 67 1 G')) K (mX2_holdsPart l D cI cO (xsub a 99) _ _) rfl gX6_move_X2_holdsPart rfl dsX2_holdsPart ⟨rfl, rfl, ⟨Nat.le_of_ble_eq_true rfl, Nat.le_of_ble_eq_true rfl⟩, Nat.le_of_ble_eq_true rfl, Nat.le_of_ble_eq_true rfl⟩ h 2 0 rfl rfl (xpl32 cI cO a _ _) (fun F' G' => xpr32 cI cO a _ _ F' G') (st := []) rfl rfl (Nat.le_of_ble_eq_true rfl) dX6_move_94 rfl (fun r94 F94 G94 h => ?_)
                  obtain ⟨E94, eE94⟩ : ∃ x : xF, x = (xspl E82 44 2 F94) := ⟨_, rfl⟩
                  obtain ⟨H94, eH94⟩ : ∃ x : xA, x = (xspl H82 67 1 G94) := ⟨_, rfl⟩
                  refine x_weq (w' := w6 cI cO a E94 H94) (by subst eE94; subst eH94; rfl) ?_
                  replace h := h E94 eE94
                  replace h := h H94 eH94
                  refine x_if_ne (tgt := 106) (pc' := 100) K dX6_move_97 rfl rfl (fun c97 => ?_) (fun c97 => ?_)
                  · replace h := h.1 c97
                    refine x_aload (pc' := 108) K dX6_move_106 6 rfl rfl ?_
                    refine xw6_101g_numbers (pc' := 111) K hinX6_move_X2 uX6_move_f243 dX6_move_108 rfl ?_
                    refine x_iload_n (pc' := 112) K dX6_move_111 2 rfl rfl ?_
                    refine x_aload (pc' := 114) K dX6_move_112 7 rfl rfl ?_
                    refine xw6_99g_numbers (pc' := 117) K hinX6_move_X2 uX6_move_f243 dX6_move_114 rfl ?_
                    refine x_iload (pc' := 119) K dX6_move_117 4 rfl rfl ?_
                    refine x_iload (pc' := 121) K dX6_move_119 5 rfl rfl ?_
                    obtain ⟨z121s, h⟩ := h
                    obtain ⟨z121d, h⟩ := h
                    obtain ⟨z121n, h⟩ := h
                    obtain ⟨z121p, h⟩ := h
                    obtain ⟨z121q, h⟩ := h
                    refine x_copy (pc' := 124) (w' := w6 cI cO a E94 (va_up H94 67 (va_cpy (H94 68) (H94 67) x2.toNatClampNeg x4.toNatClampNeg x5.toNatClampNeg))) K uX6_move_m246 uX6_move_cn uX6_move_cs uX6_move_ci 102 100 (f := H94 68) (g := H94 67) (n0 := 24) (n1 := 24) (cA := cI) rfl rfl rfl z121s z121d z121n z121p z121q rfl (by decide +kernel) (by decide +kernel) dX6_move_121 rfl ?_
                    obtain ⟨G121, eG121⟩ : ∃ x : xA, x = va_up H94 67 (va_cpy (H94 68) (H94 67) x2.toNatClampNeg x4.toNatClampNeg x5.toNatClampNeg) := ⟨_, rfl⟩
                    refine x_weq (w' := w6 cI cO a E94 G121) (by subst eG121; rfl) ?_
                    replace h := h G121 eG121
                    refine x_iload (pc' := 126) K dX6_move_124 5 rfl rfl ?_
                    exact x_iret (wf := w6 cI cO a) K h dX6_move_126
                  · replace h := h.2 c97
                    refine x_aload_n (pc' := 101) K dX6_move_100 0 rfl rfl ?_
                    refine x_iconst (pc' := 102) (v := 1) K dX6_move_101 (by decide) rfl ?_
                    refine x_callI (pc' := 105) K (mX6_error l D cI cO a _) rfl gX6_move_X6_error rfl dsX6_error ⟨rfl, rfl, ⟨Nat.le_of_ble_eq_true rfl, Nat.le_of_ble_eq_true rfl⟩, Nat.le_of_ble_eq_true rfl, Nat.le_of_ble_eq_true rfl⟩ h 6 0 rfl rfl (st := []) rfl rfl (Nat.le_of_ble_eq_true rfl) dX6_move_102 rfl (fun r102 F102 G102 h => ?_)
                    exact x_iret (wf := w6 cI cO a) K h dX6_move_105
              · replace h := h.2 c68
                refine x_aload_n (pc' := 72) K dX6_move_71 0 rfl rfl ?_
                refine x_iconst (pc' := 73) (v := 5) K dX6_move_72 (by decide) rfl ?_
                refine x_callI (pc' := 76) K (mX6_error l D cI cO a _) rfl gX6_move_X6_error rfl dsX6_error ⟨rfl, rfl, ⟨Nat.le_of_ble_eq_true rfl, Nat.le_of_ble_eq_true rfl⟩, Nat.le_of_ble_eq_true rfl, Nat.le_of_ble_eq_true rfl⟩ h 6 0 rfl rfl (st := []) rfl rfl (Nat.le_of_ble_eq_true rfl) dX6_move_73 rfl (fun r73 F73 G73 h => ?_)
                exact x_iret (wf := w6 cI cO a) K h dX6_move_76
            · replace h := h.2 c49
              refine x_aload_n (pc' := 53) K dX6_move_52 0 rfl rfl ?_
              refine x_iconst (pc' := 54) (v := 2) K dX6_move_53 (by decide) rfl ?_
              refine x_callI (pc' := 57) K (mX6_error l D cI cO a _) rfl gX6_move_X6_error rfl dsX6_error ⟨rfl, rfl, ⟨Nat.le_of_ble_eq_true rfl, Nat.le_of_ble_eq_true rfl⟩, Nat.le_of_ble_eq_true rfl, Nat.le_of_ble_eq_true rfl⟩ h 6 0 rfl rfl (st := []) rfl rfl (Nat.le_of_ble_eq_true rfl) dX6_move_54 rfl (fun r54 F54 G54 h => ?_)
              exact x_iret (wf := w6 cI cO a) K h dX6_move_57
        · replace h := h.2.2.1 e33
          refine xw6_96q2 (pc' := 34) K i33 e33 dX6_move_33 rfl ?_
          refine x_astore (pc' := 36) (i := 7) K dX6_move_34 (by decide) [1, 2, 3, 4, 5, 6, 7, 0] (L' := [(0, .ref (a 0)), (1, .int _), (2, .int _), (3, .int _), (4, .int _), (5, .int _), (6, .ref (a 101)), (7, .ref (a 101))]) rfl rfl ?_
          refine x_aload (pc' := 38) K dX6_move_36 6 rfl rfl ?_
          refine x_subI (pc' := 41) (wn := fun F' G' => w6 cI cO a (xspl F 46 2 F') (xspl G 68 1 G')) K (mX2_isMissing l D cI cO (xsub a 101)) rfl gX6_move_X2_isMissing rfl dsX2_isMissing ⟨rfl, rfl, ⟨Nat.le_of_ble_eq_true rfl, Nat.le_of_ble_eq_true rfl⟩, Nat.le_of_ble_eq_true rfl, Nat.le_of_ble_eq_true rfl⟩ h 2 0 rfl rfl (xpl33 cI cO a _ _) (fun F' G' => xpr33 cI cO a _ _ F' G') (st := []) rfl rfl (Nat.le_of_ble_eq_true rfl) dX6_move_38 rfl (fun r38 F38 G38 h => ?_)
          obtain ⟨E38, eE38⟩ : ∃ x : xF, x = (xspl F 46 2 F38) := ⟨_, rfl⟩
          obtain ⟨H38, eH38⟩ : ∃ x : xA, x = (xspl G 68 1 G38) := ⟨_, rfl⟩
          refine x_weq (w' := w6 cI cO a E38 H38) (by subst eE38; subst eH38; rfl) ?_
          replace h := h E38 eE38
          replace h := h H38 eH38
          refine x_if_ne (tgt := 52) (pc' := 44) K dX6_move_41 rfl rfl (fun c41 => ?_) (fun c41 => ?_)
          · replace h := h.1 c41
            refine x_aload_n (pc' := 53) K dX6_move_52 0 rfl rfl ?_
            refine x_iconst (pc' := 54) (v := 2) K dX6_move_53 (by decide) rfl ?_
            refine x_callI (pc' := 57) K (mX6_error l D cI cO a _) rfl gX6_move_X6_error rfl dsX6_error ⟨rfl, rfl, ⟨Nat.le_of_ble_eq_true rfl, Nat.le_of_ble_eq_true rfl⟩, Nat.le_of_ble_eq_true rfl, Nat.le_of_ble_eq_true rfl⟩ h 6 0 rfl rfl (st := []) rfl rfl (Nat.le_of_ble_eq_true rfl) dX6_move_54 rfl (fun r54 F54 G54 h => ?_)
            exact x_iret (wf := w6 cI cO a) K h dX6_move_57
          · replace h := h.2 c41
            refine x_aload (pc' := 46) K dX6_move_44 7 rfl rfl ?_
            refine x_subI (pc' := 49) (wn := fun F' G' => w6 cI cO a (xspl E38 46 2 F') (xspl H38 68 1 G')) K (mX2_isMissing l D cI cO (xsub a 101)) rfl gX6_move_X2_isMissing rfl dsX2_isMissing ⟨rfl, rfl, ⟨Nat.le_of_ble_eq_true rfl, Nat.le_of_ble_eq_true rfl⟩, Nat.le_of_ble_eq_true rfl, Nat.le_of_ble_eq_true rfl⟩ h 2 0 rfl rfl (xpl33 cI cO a _ _) (fun F' G' => xpr33 cI cO a _ _ F' G') (st := []) rfl rfl (Nat.le_of_ble_eq_true rfl) dX6_move_46 rfl (fun r46 F46 G46 h => ?_)
            obtain ⟨E46, eE46⟩ : ∃ x : xF, x = (xspl E38 46 2 F46) := ⟨_, rfl⟩
            obtain ⟨H46, eH46⟩ : ∃ x : xA, x = (xspl H38 68 1 G46) := ⟨_, rfl⟩
            refine x_weq (w' := w6 cI cO a E46 H46) (by subst eE46; subst eH46; rfl) ?_
            replace h := h E46 eE46
            replace h := h H46 eH46
            refine x_if_eq (tgt := 58) (pc' := 52) K dX6_move_49 rfl rfl (fun c49 => ?_) (fun c49 => ?_)
            · replace h := h.1 c49
              refine x_aload (pc' := 60) K dX6_move_58 6 rfl rfl ?_
              refine xw6_101g_bits (pc' := 63) K hinX6_move_X2 uX6_move_f237 dX6_move_60 rfl ?_
              refine x_aload (pc' := 65) K dX6_move_63 7 rfl rfl ?_
              refine xw6_101g_bits (pc' := 68) K hinX6_move_X2 uX6_move_f237 dX6_move_65 rfl ?_
              refine x_icmp_eq (tgt := 77) (pc' := 71) K dX6_move_68 rfl rfl (fun c68 => ?_) (fun c68 => ?_)
              · replace h := h.1 c68
                refine x_aload (pc' := 79) K dX6_move_77 6 rfl rfl ?_
                refine x_iload_n (pc' := 80) K dX6_move_79 2 rfl rfl ?_
                refine x_iload (pc' := 82) K dX6_move_80 5 rfl rfl ?_
                refine x_subI (pc' := 85) (wn := fun F' G' => w6 cI cO a (xspl E46 46 2 F') (xspl H46 68 1 G')) K (mX2_holdsPart l D cI cO (xsub a 101) _ _) rfl gX6_move_X2_holdsPart rfl dsX2_holdsPart ⟨rfl, rfl, ⟨Nat.le_of_ble_eq_true rfl, Nat.le_of_ble_eq_true rfl⟩, Nat.le_of_ble_eq_true rfl, Nat.le_of_ble_eq_true rfl⟩ h 2 0 rfl rfl (xpl33 cI cO a _ _) (fun F' G' => xpr33 cI cO a _ _ F' G') (st := []) rfl rfl (Nat.le_of_ble_eq_true rfl) dX6_move_82 rfl (fun r82 F82 G82 h => ?_)
                obtain ⟨E82, eE82⟩ : ∃ x : xF, x = (xspl E46 46 2 F82) := ⟨_, rfl⟩
                obtain ⟨H82, eH82⟩ : ∃ x : xA, x = (xspl H46 68 1 G82) := ⟨_, rfl⟩
                refine x_weq (w' := w6 cI cO a E82 H82) (by subst eE82; subst eH82; rfl) ?_
                replace h := h E82 eE82
                replace h := h H82 eH82
                refine x_if_eq (tgt := 100) (pc' := 88) K dX6_move_85 rfl rfl (fun c85 => ?_) (fun c85 => ?_)
                · replace h := h.1 c85
                  refine x_aload_n (pc' := 101) K dX6_move_100 0 rfl rfl ?_
                  refine x_iconst (pc' := 102) (v := 1) K dX6_move_101 (by decide) rfl ?_
                  refine x_callI (pc' := 105) K (mX6_error l D cI cO a _) rfl gX6_move_X6_error rfl dsX6_error ⟨rfl, rfl, ⟨Nat.le_of_ble_eq_true rfl, Nat.le_of_ble_eq_true rfl⟩, Nat.le_of_ble_eq_true rfl, Nat.le_of_ble_eq_true rfl⟩ h 6 0 rfl rfl (st := []) rfl rfl (Nat.le_of_ble_eq_true rfl) dX6_move_102 rfl (fun r102 F102 G102 h => ?_)
                  exact x_iret (wf := w6 cI cO a) K h dX6_move_105
                · replace h := h.2 c85
                  refine x_aload (pc' := 90) K dX6_move_88 7 rfl rfl ?_
                  refine x_iload (pc' := 92) K dX6_move_90 4 rfl rfl ?_
                  refine x_iload (pc' := 94) K dX6_move_92 5 rfl rfl ?_
                  refine x_subI (pc' := 97) (wn := fun F' G' => w6 cI cO a (xspl E82 46 2 F') (xspl H82 68 1 G')) K (mX2_holdsPart l D cI cO (xsub a 101) _ _) rfl gX6_move_X2_holdsPart rfl dsX2_holdsPart ⟨rfl, rfl, ⟨Nat.le_of_ble_eq_true rfl, Nat.le_of_ble_eq_true rfl⟩, Nat.le_of_ble_eq_true rfl, Nat.le_of_ble_eq_true rfl⟩ h 2 0 rfl rfl (xpl33 cI cO a _ _) (fun F' G' => xpr33 cI cO a _ _ F' G') (st := []) rfl rfl (Nat.le_of_ble_eq_true rfl) dX6_move_94 rfl (fun r94 F94 G94 h => ?_)
                  obtain ⟨E94, eE94⟩ : ∃ x : xF, x = (xspl E82 46 2 F94) := ⟨_, rfl⟩
                  obtain ⟨H94, eH94⟩ : ∃ x : xA, x = (xspl H82 68 1 G94) := ⟨_, rfl⟩
                  refine x_weq (w' := w6 cI cO a E94 H94) (by subst eE94; subst eH94; rfl) ?_
                  replace h := h E94 eE94
                  replace h := h H94 eH94
                  refine x_if_ne (tgt := 106) (pc' := 100) K dX6_move_97 rfl rfl (fun c97 => ?_) (fun c97 => ?_)
                  · replace h := h.1 c97
                    refine x_aload (pc' := 108) K dX6_move_106 6 rfl rfl ?_
                    refine xw6_101g_numbers (pc' := 111) K hinX6_move_X2 uX6_move_f243 dX6_move_108 rfl ?_
                    refine x_iload_n (pc' := 112) K dX6_move_111 2 rfl rfl ?_
                    refine x_aload (pc' := 114) K dX6_move_112 7 rfl rfl ?_
                    refine xw6_101g_numbers (pc' := 117) K hinX6_move_X2 uX6_move_f243 dX6_move_114 rfl ?_
                    refine x_iload (pc' := 119) K dX6_move_117 4 rfl rfl ?_
                    refine x_iload (pc' := 121) K dX6_move_119 5 rfl rfl ?_
                    obtain ⟨z121s, h⟩ := h
                    obtain ⟨z121d, h⟩ := h
                    obtain ⟨z121n, h⟩ := h
                    obtain ⟨z121p, h⟩ := h
                    obtain ⟨z121q, h⟩ := h
                    refine x_copy (pc' := 124) (w' := w6 cI cO a E94 (va_up H94 68 (va_cpy (H94 68) (H94 68) x2.toNatClampNeg x4.toNatClampNeg x5.toNatClampNeg))) K uX6_move_m246 uX6_move_cn uX6_move_cs uX6_move_ci 102 102 (f := H94 68) (g := H94 68) (n0 := 24) (n1 := 24) (cA := cI) rfl rfl rfl z121s z121d z121n z121p z121q rfl (by decide +kernel) (by decide +kernel) dX6_move_121 rfl ?_
                    obtain ⟨G121, eG121⟩ : ∃ x : xA, x = va_up H94 68 (va_cpy (H94 68) (H94 68) x2.toNatClampNeg x4.toNatClampNeg x5.toNatClampNeg) := ⟨_, rfl⟩
                    refine x_weq (w' := w6 cI cO a E94 G121) (by subst eG121; rfl) ?_
                    replace h := h G121 eG121
                    refine x_iload (pc' := 126) K dX6_move_124 5 rfl rfl ?_
                    exact x_iret (wf := w6 cI cO a) K h dX6_move_126
                  · replace h := h.2 c97
                    refine x_aload_n (pc' := 101) K dX6_move_100 0 rfl rfl ?_
                    refine x_iconst (pc' := 102) (v := 1) K dX6_move_101 (by decide) rfl ?_
                    refine x_callI (pc' := 105) K (mX6_error l D cI cO a _) rfl gX6_move_X6_error rfl dsX6_error ⟨rfl, rfl, ⟨Nat.le_of_ble_eq_true rfl, Nat.le_of_ble_eq_true rfl⟩, Nat.le_of_ble_eq_true rfl, Nat.le_of_ble_eq_true rfl⟩ h 6 0 rfl rfl (st := []) rfl rfl (Nat.le_of_ble_eq_true rfl) dX6_move_102 rfl (fun r102 F102 G102 h => ?_)
                    exact x_iret (wf := w6 cI cO a) K h dX6_move_105
              · replace h := h.2 c68
                refine x_aload_n (pc' := 72) K dX6_move_71 0 rfl rfl ?_
                refine x_iconst (pc' := 73) (v := 5) K dX6_move_72 (by decide) rfl ?_
                refine x_callI (pc' := 76) K (mX6_error l D cI cO a _) rfl gX6_move_X6_error rfl dsX6_error ⟨rfl, rfl, ⟨Nat.le_of_ble_eq_true rfl, Nat.le_of_ble_eq_true rfl⟩, Nat.le_of_ble_eq_true rfl, Nat.le_of_ble_eq_true rfl⟩ h 6 0 rfl rfl (st := []) rfl rfl (Nat.le_of_ble_eq_true rfl) dX6_move_73 rfl (fun r73 F73 G73 h => ?_)
                exact x_iret (wf := w6 cI cO a) K h dX6_move_76
            · replace h := h.2 c49
              refine x_aload_n (pc' := 53) K dX6_move_52 0 rfl rfl ?_
              refine x_iconst (pc' := 54) (v := 2) K dX6_move_53 (by decide) rfl ?_
              refine x_callI (pc' := 57) K (mX6_error l D cI cO a _) rfl gX6_move_X6_error rfl dsX6_error ⟨rfl, rfl, ⟨Nat.le_of_ble_eq_true rfl, Nat.le_of_ble_eq_true rfl⟩, Nat.le_of_ble_eq_true rfl, Nat.le_of_ble_eq_true rfl⟩ h 6 0 rfl rfl (st := []) rfl rfl (Nat.le_of_ble_eq_true rfl) dX6_move_54 rfl (fun r54 F54 G54 h => ?_)
              exact x_iret (wf := w6 cI cO a) K h dX6_move_57
        · replace h := h.2.2.2 e33
          refine xw6_96q3 (pc' := 34) K i33 e33 dX6_move_33 rfl ?_
          refine x_astore (pc' := 36) (i := 7) K dX6_move_34 (by decide) [1, 2, 3, 4, 5, 6, 7, 0] (L' := [(0, .ref (a 0)), (1, .int _), (2, .int _), (3, .int _), (4, .int _), (5, .int _), (6, .ref (a 101)), (7, .ref (a 103))]) rfl rfl ?_
          refine x_aload (pc' := 38) K dX6_move_36 6 rfl rfl ?_
          refine x_subI (pc' := 41) (wn := fun F' G' => w6 cI cO a (xspl F 46 2 F') (xspl G 68 1 G')) K (mX2_isMissing l D cI cO (xsub a 101)) rfl gX6_move_X2_isMissing rfl dsX2_isMissing ⟨rfl, rfl, ⟨Nat.le_of_ble_eq_true rfl, Nat.le_of_ble_eq_true rfl⟩, Nat.le_of_ble_eq_true rfl, Nat.le_of_ble_eq_true rfl⟩ h 2 0 rfl rfl (xpl33 cI cO a _ _) (fun F' G' => xpr33 cI cO a _ _ F' G') (st := []) rfl rfl (Nat.le_of_ble_eq_true rfl) dX6_move_38 rfl (fun r38 F38 G38 h => ?_)
          obtain ⟨E38, eE38⟩ : ∃ x : xF, x = (xspl F 46 2 F38) := ⟨_, rfl⟩
          obtain ⟨H38, eH38⟩ : ∃ x : xA, x = (xspl G 68 1 G38) := ⟨_, rfl⟩
          refine x_weq (w' := w6 cI cO a E38 H38) (by subst eE38; subst eH38; rfl) ?_
          replace h := h E38 eE38
          replace h := h H38 eH38
          refine x_if_ne (tgt := 52) (pc' := 44) K dX6_move_41 rfl rfl (fun c41 => ?_) (fun c41 => ?_)
          · replace h := h.1 c41
            refine x_aload_n (pc' := 53) K dX6_move_52 0 rfl rfl ?_
            refine x_iconst (pc' := 54) (v := 2) K dX6_move_53 (by decide) rfl ?_
            refine x_callI (pc' := 57) K (mX6_error l D cI cO a _) rfl gX6_move_X6_error rfl dsX6_error ⟨rfl, rfl, ⟨Nat.le_of_ble_eq_true rfl, Nat.le_of_ble_eq_true rfl⟩, Nat.le_of_ble_eq_true rfl, Nat.le_of_ble_eq_true rfl⟩ h 6 0 rfl rfl (st := []) rfl rfl (Nat.le_of_ble_eq_true rfl) dX6_move_54 rfl (fun r54 F54 G54 h => ?_)
            exact x_iret (wf := w6 cI cO a) K h dX6_move_57
          · replace h := h.2 c41
            refine x_aload (pc' := 46) K dX6_move_44 7 rfl rfl ?_
            refine x_subI (pc' := 49) (wn := fun F' G' => w6 cI cO a (xspl E38 48 2 F') (xspl H38 69 1 G')) K (mX2_isMissing l D cI cO (xsub a 103)) rfl gX6_move_X2_isMissing rfl dsX2_isMissing ⟨rfl, rfl, ⟨Nat.le_of_ble_eq_true rfl, Nat.le_of_ble_eq_true rfl⟩, Nat.le_of_ble_eq_true rfl, Nat.le_of_ble_eq_true rfl⟩ h 2 0 rfl rfl (xpl34 cI cO a _ _) (fun F' G' => xpr34 cI cO a _ _ F' G') (st := []) rfl rfl (Nat.le_of_ble_eq_true rfl) dX6_move_46 rfl (fun r46 F46 G46 h => ?_)
            obtain ⟨E46, eE46⟩ : ∃ x : xF, x = (xspl E38 48 2 F46) := ⟨_, rfl⟩
            obtain ⟨H46, eH46⟩ : ∃ x : xA, x = (xspl H38 69 1 G46) := ⟨_, rfl⟩
            refine x_weq (w' := w6 cI cO a E46 H46) (by subst eE46; subst eH46; rfl) ?_
            replace h := h E46 eE46
            replace h := h H46 eH46
            refine x_if_eq (tgt := 58) (pc' := 52) K dX6_move_49 rfl rfl (fun c49 => ?_) (fun c49 => ?_)
            · replace h := h.1 c49
              refine x_aload (pc' := 60) K dX6_move_58 6 rfl rfl ?_
              refine xw6_101g_bits (pc' := 63) K hinX6_move_X2 uX6_move_f237 dX6_move_60 rfl ?_
              refine x_aload (pc' := 65) K dX6_move_63 7 rfl rfl ?_
              refine xw6_103g_bits (pc' := 68) K hinX6_move_X2 uX6_move_f237 dX6_move_65 rfl ?_
              refine x_icmp_eq (tgt := 77) (pc' := 71) K dX6_move_68 rfl rfl (fun c68 => ?_) (fun c68 => ?_)
              · replace h := h.1 c68
                refine x_aload (pc' := 79) K dX6_move_77 6 rfl rfl ?_
                refine x_iload_n (pc' := 80) K dX6_move_79 2 rfl rfl ?_
                refine x_iload (pc' := 82) K dX6_move_80 5 rfl rfl ?_
                refine x_subI (pc' := 85) (wn := fun F' G' => w6 cI cO a (xspl E46 46 2 F') (xspl H46 68 1 G')) K (mX2_holdsPart l D cI cO (xsub a 101) _ _) rfl gX6_move_X2_holdsPart rfl dsX2_holdsPart ⟨rfl, rfl, ⟨Nat.le_of_ble_eq_true rfl, Nat.le_of_ble_eq_true rfl⟩, Nat.le_of_ble_eq_true rfl, Nat.le_of_ble_eq_true rfl⟩ h 2 0 rfl rfl (xpl33 cI cO a _ _) (fun F' G' => xpr33 cI cO a _ _ F' G') (st := []) rfl rfl (Nat.le_of_ble_eq_true rfl) dX6_move_82 rfl (fun r82 F82 G82 h => ?_)
                obtain ⟨E82, eE82⟩ : ∃ x : xF, x = (xspl E46 46 2 F82) := ⟨_, rfl⟩
                obtain ⟨H82, eH82⟩ : ∃ x : xA, x = (xspl H46 68 1 G82) := ⟨_, rfl⟩
                refine x_weq (w' := w6 cI cO a E82 H82) (by subst eE82; subst eH82; rfl) ?_
                replace h := h E82 eE82
                replace h := h H82 eH82
                refine x_if_eq (tgt := 100) (pc' := 88) K dX6_move_85 rfl rfl (fun c85 => ?_) (fun c85 => ?_)
                · replace h := h.1 c85
                  refine x_aload_n (pc' := 101) K dX6_move_100 0 rfl rfl ?_
                  refine x_iconst (pc' := 102) (v := 1) K dX6_move_101 (by decide) rfl ?_
                  refine x_callI (pc' := 105) K (mX6_error l D cI cO a _) rfl gX6_move_X6_error rfl dsX6_error ⟨rfl, rfl, ⟨Nat.le_of_ble_eq_true rfl, Nat.le_of_ble_eq_true rfl⟩, Nat.le_of_ble_eq_true rfl, Nat.le_of_ble_eq_true rfl⟩ h 6 0 rfl rfl (st := []) rfl rfl (Nat.le_of_ble_eq_true rfl) dX6_move_102 rfl (fun r102 F102 G102 h => ?_)
                  exact x_iret (wf := w6 cI cO a) K h dX6_move_105
                · replace h := h.2 c85
                  refine x_aload (pc' := 90) K dX6_move_88 7 rfl rfl ?_
                  refine x_iload (pc' := 92) K dX6_move_90 4 rfl rfl ?_
                  refine x_iload (pc' := 94) K dX6_move_92 5 rfl rfl ?_
                  refine x_subI (pc' := 97) (wn := fun F' G' => w6 cI cO a (xspl E82 48 2 F') (xspl H82 69 1 G')) K (mX2_holdsPart l D cI cO (xsub a 103) _ _) rfl gX6_move_X2_holdsPart rfl dsX2_holdsPart ⟨rfl, rfl, ⟨Nat.le_of_ble_eq_true rfl, Nat.le_of_ble_eq_true rfl⟩, Nat.le_of_ble_eq_true rfl, Nat.le_of_ble_eq_true rfl⟩ h 2 0 rfl rfl (xpl34 cI cO a _ _) (fun F' G' => xpr34 cI cO a _ _ F' G') (st := []) rfl rfl (Nat.le_of_ble_eq_true rfl) dX6_move_94 rfl (fun r94 F94 G94 h => ?_)
                  obtain ⟨E94, eE94⟩ : ∃ x : xF, x = (xspl E82 48 2 F94) := ⟨_, rfl⟩
                  obtain ⟨H94, eH94⟩ : ∃ x : xA, x = (xspl H82 69 1 G94) := ⟨_, rfl⟩
                  refine x_weq (w' := w6 cI cO a E94 H94) (by subst eE94; subst eH94; rfl) ?_
                  replace h := h E94 eE94
                  replace h := h H94 eH94
                  refine x_if_ne (tgt := 106) (pc' := 100) K dX6_move_97 rfl rfl (fun c97 => ?_) (fun c97 => ?_)
                  · replace h := h.1 c97
                    refine x_aload (pc' := 108) K dX6_move_106 6 rfl rfl ?_
                    refine xw6_101g_numbers (pc' := 111) K hinX6_move_X2 uX6_move_f243 dX6_move_108 rfl ?_
                    refine x_iload_n (pc' := 112) K dX6_move_111 2 rfl rfl ?_
                    refine x_aload (pc' := 114) K dX6_move_112 7 rfl rfl ?_
                    refine xw6_103g_numbers (pc' := 117) K hinX6_move_X2 uX6_move_f243 dX6_move_114 rfl ?_
                    refine x_iload (pc' := 119) K dX6_move_117 4 rfl rfl ?_
                    refine x_iload (pc' := 121) K dX6_move_119 5 rfl rfl ?_
                    obtain ⟨z121s, h⟩ := h
                    obtain ⟨z121d, h⟩ := h
                    obtain ⟨z121n, h⟩ := h
                    obtain ⟨z121p, h⟩ := h
                    obtain ⟨z121q, h⟩ := h
                    refine x_copy (pc' := 124) (w' := w6 cI cO a E94 (va_up H94 69 (va_cpy (H94 68) (H94 69) x2.toNatClampNeg x4.toNatClampNeg x5.toNatClampNeg))) K uX6_move_m246 uX6_move_cn uX6_move_cs uX6_move_ci 102 104 (f := H94 68) (g := H94 69) (n0 := 24) (n1 := 24) (cA := cI) rfl rfl rfl z121s z121d z121n z121p z121q rfl (by decide +kernel) (by decide +kernel) dX6_move_121 rfl ?_
                    obtain ⟨G121, eG121⟩ : ∃ x : xA, x = va_up H94 69 (va_cpy (H94 68) (H94 69) x2.toNatClampNeg x4.toNatClampNeg x5.toNatClampNeg) := ⟨_, rfl⟩
                    refine x_weq (w' := w6 cI cO a E94 G121) (by subst eG121; rfl) ?_
                    replace h := h G121 eG121
                    refine x_iload (pc' := 126) K dX6_move_124 5 rfl rfl ?_
                    exact x_iret (wf := w6 cI cO a) K h dX6_move_126
                  · replace h := h.2 c97
                    refine x_aload_n (pc' := 101) K dX6_move_100 0 rfl rfl ?_
                    refine x_iconst (pc' := 102) (v := 1) K dX6_move_101 (by decide) rfl ?_
                    refine x_callI (pc' := 105) K (mX6_error l D cI cO a _) rfl gX6_move_X6_error rfl dsX6_error ⟨rfl, rfl, ⟨Nat.le_of_ble_eq_true rfl, Nat.le_of_ble_eq_true rfl⟩, Nat.le_of_ble_eq_true rfl, Nat.le_of_ble_eq_true rfl⟩ h 6 0 rfl rfl (st := []) rfl rfl (Nat.le_of_ble_eq_true rfl) dX6_move_102 rfl (fun r102 F102 G102 h => ?_)
                    exact x_iret (wf := w6 cI cO a) K h dX6_move_105
              · replace h := h.2 c68
                refine x_aload_n (pc' := 72) K dX6_move_71 0 rfl rfl ?_
                refine x_iconst (pc' := 73) (v := 5) K dX6_move_72 (by decide) rfl ?_
                refine x_callI (pc' := 76) K (mX6_error l D cI cO a _) rfl gX6_move_X6_error rfl dsX6_error ⟨rfl, rfl, ⟨Nat.le_of_ble_eq_true rfl, Nat.le_of_ble_eq_true rfl⟩, Nat.le_of_ble_eq_true rfl, Nat.le_of_ble_eq_true rfl⟩ h 6 0 rfl rfl (st := []) rfl rfl (Nat.le_of_ble_eq_true rfl) dX6_move_73 rfl (fun r73 F73 G73 h => ?_)
                exact x_iret (wf := w6 cI cO a) K h dX6_move_76
            · replace h := h.2 c49
              refine x_aload_n (pc' := 53) K dX6_move_52 0 rfl rfl ?_
              refine x_iconst (pc' := 54) (v := 2) K dX6_move_53 (by decide) rfl ?_
              refine x_callI (pc' := 57) K (mX6_error l D cI cO a _) rfl gX6_move_X6_error rfl dsX6_error ⟨rfl, rfl, ⟨Nat.le_of_ble_eq_true rfl, Nat.le_of_ble_eq_true rfl⟩, Nat.le_of_ble_eq_true rfl, Nat.le_of_ble_eq_true rfl⟩ h 6 0 rfl rfl (st := []) rfl rfl (Nat.le_of_ble_eq_true rfl) dX6_move_54 rfl (fun r54 F54 G54 h => ?_)
              exact x_iret (wf := w6 cI cO a) K h dX6_move_57
      · replace h := h.2.2.2 e25
        refine xw6_96q3 (pc' := 26) K i25 e25 dX6_move_25 rfl ?_
        refine x_astore (pc' := 28) (i := 6) K dX6_move_26 (by decide) [1, 2, 3, 4, 5, 6, 0] (L' := [(0, .ref (a 0)), (1, .int _), (2, .int _), (3, .int _), (4, .int _), (5, .int _), (6, .ref (a 103))]) rfl rfl ?_
        refine x_aload_n (pc' := 29) K dX6_move_28 0 rfl rfl ?_
        refine xw6_0g_sheets (pc' := 32) K hinX6_move_X6 uX6_move_f70 dX6_move_29 rfl ?_
        refine x_iload_n (pc' := 33) K dX6_move_32 3 rfl rfl ?_
        obtain ⟨i33, h⟩ := h
        rcases xin4 i33 with e33 | e33 | e33 | e33
        · replace h := h.1 e33
          refine xw6_96q0 (pc' := 34) K i33 e33 dX6_move_33 rfl ?_
          refine x_astore (pc' := 36) (i := 7) K dX6_move_34 (by decide) [1, 2, 3, 4, 5, 6, 7, 0] (L' := [(0, .ref (a 0)), (1, .int _), (2, .int _), (3, .int _), (4, .int _), (5, .int _), (6, .ref (a 103)), (7, .ref (a 97))]) rfl rfl ?_
          refine x_aload (pc' := 38) K dX6_move_36 6 rfl rfl ?_
          refine x_subI (pc' := 41) (wn := fun F' G' => w6 cI cO a (xspl F 48 2 F') (xspl G 69 1 G')) K (mX2_isMissing l D cI cO (xsub a 103)) rfl gX6_move_X2_isMissing rfl dsX2_isMissing ⟨rfl, rfl, ⟨Nat.le_of_ble_eq_true rfl, Nat.le_of_ble_eq_true rfl⟩, Nat.le_of_ble_eq_true rfl, Nat.le_of_ble_eq_true rfl⟩ h 2 0 rfl rfl (xpl34 cI cO a _ _) (fun F' G' => xpr34 cI cO a _ _ F' G') (st := []) rfl rfl (Nat.le_of_ble_eq_true rfl) dX6_move_38 rfl (fun r38 F38 G38 h => ?_)
          obtain ⟨E38, eE38⟩ : ∃ x : xF, x = (xspl F 48 2 F38) := ⟨_, rfl⟩
          obtain ⟨H38, eH38⟩ : ∃ x : xA, x = (xspl G 69 1 G38) := ⟨_, rfl⟩
          refine x_weq (w' := w6 cI cO a E38 H38) (by subst eE38; subst eH38; rfl) ?_
          replace h := h E38 eE38
          replace h := h H38 eH38
          refine x_if_ne (tgt := 52) (pc' := 44) K dX6_move_41 rfl rfl (fun c41 => ?_) (fun c41 => ?_)
          · replace h := h.1 c41
            refine x_aload_n (pc' := 53) K dX6_move_52 0 rfl rfl ?_
            refine x_iconst (pc' := 54) (v := 2) K dX6_move_53 (by decide) rfl ?_
            refine x_callI (pc' := 57) K (mX6_error l D cI cO a _) rfl gX6_move_X6_error rfl dsX6_error ⟨rfl, rfl, ⟨Nat.le_of_ble_eq_true rfl, Nat.le_of_ble_eq_true rfl⟩, Nat.le_of_ble_eq_true rfl, Nat.le_of_ble_eq_true rfl⟩ h 6 0 rfl rfl (st := []) rfl rfl (Nat.le_of_ble_eq_true rfl) dX6_move_54 rfl (fun r54 F54 G54 h => ?_)
            exact x_iret (wf := w6 cI cO a) K h dX6_move_57
          · replace h := h.2 c41
            refine x_aload (pc' := 46) K dX6_move_44 7 rfl rfl ?_
            refine x_subI (pc' := 49) (wn := fun F' G' => w6 cI cO a (xspl E38 42 2 F') (xspl H38 66 1 G')) K (mX2_isMissing l D cI cO (xsub a 97)) rfl gX6_move_X2_isMissing rfl dsX2_isMissing ⟨rfl, rfl, ⟨Nat.le_of_ble_eq_true rfl, Nat.le_of_ble_eq_true rfl⟩, Nat.le_of_ble_eq_true rfl, Nat.le_of_ble_eq_true rfl⟩ h 2 0 rfl rfl (xpl31 cI cO a _ _) (fun F' G' => xpr31 cI cO a _ _ F' G') (st := []) rfl rfl (Nat.le_of_ble_eq_true rfl) dX6_move_46 rfl (fun r46 F46 G46 h => ?_)
            obtain ⟨E46, eE46⟩ : ∃ x : xF, x = (xspl E38 42 2 F46) := ⟨_, rfl⟩
            obtain ⟨H46, eH46⟩ : ∃ x : xA, x = (xspl H38 66 1 G46) := ⟨_, rfl⟩
            refine x_weq (w' := w6 cI cO a E46 H46) (by subst eE46; subst eH46; rfl) ?_
            replace h := h E46 eE46
            replace h := h H46 eH46
            refine x_if_eq (tgt := 58) (pc' := 52) K dX6_move_49 rfl rfl (fun c49 => ?_) (fun c49 => ?_)
            · replace h := h.1 c49
              refine x_aload (pc' := 60) K dX6_move_58 6 rfl rfl ?_
              refine xw6_103g_bits (pc' := 63) K hinX6_move_X2 uX6_move_f237 dX6_move_60 rfl ?_
              refine x_aload (pc' := 65) K dX6_move_63 7 rfl rfl ?_
              refine xw6_97g_bits (pc' := 68) K hinX6_move_X2 uX6_move_f237 dX6_move_65 rfl ?_
              refine x_icmp_eq (tgt := 77) (pc' := 71) K dX6_move_68 rfl rfl (fun c68 => ?_) (fun c68 => ?_)
              · replace h := h.1 c68
                refine x_aload (pc' := 79) K dX6_move_77 6 rfl rfl ?_
                refine x_iload_n (pc' := 80) K dX6_move_79 2 rfl rfl ?_
                refine x_iload (pc' := 82) K dX6_move_80 5 rfl rfl ?_
                refine x_subI (pc' := 85) (wn := fun F' G' => w6 cI cO a (xspl E46 48 2 F') (xspl H46 69 1 G')) K (mX2_holdsPart l D cI cO (xsub a 103) _ _) rfl gX6_move_X2_holdsPart rfl dsX2_holdsPart ⟨rfl, rfl, ⟨Nat.le_of_ble_eq_true rfl, Nat.le_of_ble_eq_true rfl⟩, Nat.le_of_ble_eq_true rfl, Nat.le_of_ble_eq_true rfl⟩ h 2 0 rfl rfl (xpl34 cI cO a _ _) (fun F' G' => xpr34 cI cO a _ _ F' G') (st := []) rfl rfl (Nat.le_of_ble_eq_true rfl) dX6_move_82 rfl (fun r82 F82 G82 h => ?_)
                obtain ⟨E82, eE82⟩ : ∃ x : xF, x = (xspl E46 48 2 F82) := ⟨_, rfl⟩
                obtain ⟨H82, eH82⟩ : ∃ x : xA, x = (xspl H46 69 1 G82) := ⟨_, rfl⟩
                refine x_weq (w' := w6 cI cO a E82 H82) (by subst eE82; subst eH82; rfl) ?_
                replace h := h E82 eE82
                replace h := h H82 eH82
                refine x_if_eq (tgt := 100) (pc' := 88) K dX6_move_85 rfl rfl (fun c85 => ?_) (fun c85 => ?_)
                · replace h := h.1 c85
                  refine x_aload_n (pc' := 101) K dX6_move_100 0 rfl rfl ?_
                  refine x_iconst (pc' := 102) (v := 1) K dX6_move_101 (by decide) rfl ?_
                  refine x_callI (pc' := 105) K (mX6_error l D cI cO a _) rfl gX6_move_X6_error rfl dsX6_error ⟨rfl, rfl, ⟨Nat.le_of_ble_eq_true rfl, Nat.le_of_ble_eq_true rfl⟩, Nat.le_of_ble_eq_true rfl, Nat.le_of_ble_eq_true rfl⟩ h 6 0 rfl rfl (st := []) rfl rfl (Nat.le_of_ble_eq_true rfl) dX6_move_102 rfl (fun r102 F102 G102 h => ?_)
                  exact x_iret (wf := w6 cI cO a) K h dX6_move_105
                · replace h := h.2 c85
                  refine x_aload (pc' := 90) K dX6_move_88 7 rfl rfl ?_
                  refine x_iload (pc' := 92) K dX6_move_90 4 rfl rfl ?_
                  refine x_iload (pc' := 94) K dX6_move_92 5 rfl rfl ?_
                  refine x_subI (pc' := 97) (wn := fun F' G' => w6 cI cO a (xspl E82 42 2 F') (xspl H82 66 1 G')) K (mX2_holdsPart l D cI cO (xsub a 97) _ _) rfl gX6_move_X2_holdsPart rfl dsX2_holdsPart ⟨rfl, rfl, ⟨Nat.le_of_ble_eq_true rfl, Nat.le_of_ble_eq_true rfl⟩, Nat.le_of_ble_eq_true rfl, Nat.le_of_ble_eq_true rfl⟩ h 2 0 rfl rfl (xpl31 cI cO a _ _) (fun F' G' => xpr31 cI cO a _ _ F' G') (st := []) rfl rfl (Nat.le_of_ble_eq_true rfl) dX6_move_94 rfl (fun r94 F94 G94 h => ?_)
                  obtain ⟨E94, eE94⟩ : ∃ x : xF, x = (xspl E82 42 2 F94) := ⟨_, rfl⟩
                  obtain ⟨H94, eH94⟩ : ∃ x : xA, x = (xspl H82 66 1 G94) := ⟨_, rfl⟩
                  refine x_weq (w' := w6 cI cO a E94 H94) (by subst eE94; subst eH94; rfl) ?_
                  replace h := h E94 eE94
                  replace h := h H94 eH94
                  refine x_if_ne (tgt := 106) (pc' := 100) K dX6_move_97 rfl rfl (fun c97 => ?_) (fun c97 => ?_)
                  · replace h := h.1 c97
                    refine x_aload (pc' := 108) K dX6_move_106 6 rfl rfl ?_
                    refine xw6_103g_numbers (pc' := 111) K hinX6_move_X2 uX6_move_f243 dX6_move_108 rfl ?_
                    refine x_iload_n (pc' := 112) K dX6_move_111 2 rfl rfl ?_
                    refine x_aload (pc' := 114) K dX6_move_112 7 rfl rfl ?_
                    refine xw6_97g_numbers (pc' := 117) K hinX6_move_X2 uX6_move_f243 dX6_move_114 rfl ?_
                    refine x_iload (pc' := 119) K dX6_move_117 4 rfl rfl ?_
                    refine x_iload (pc' := 121) K dX6_move_119 5 rfl rfl ?_
                    obtain ⟨z121s, h⟩ := h
                    obtain ⟨z121d, h⟩ := h
                    obtain ⟨z121n, h⟩ := h
                    obtain ⟨z121p, h⟩ := h
                    obtain ⟨z121q, h⟩ := h
                    refine x_copy (pc' := 124) (w' := w6 cI cO a E94 (va_up H94 66 (va_cpy (H94 69) (H94 66) x2.toNatClampNeg x4.toNatClampNeg x5.toNatClampNeg))) K uX6_move_m246 uX6_move_cn uX6_move_cs uX6_move_ci 104 98 (f := H94 69) (g := H94 66) (n0 := 24) (n1 := 24) (cA := cI) rfl rfl rfl z121s z121d z121n z121p z121q rfl (by decide +kernel) (by decide +kernel) dX6_move_121 rfl ?_
                    obtain ⟨G121, eG121⟩ : ∃ x : xA, x = va_up H94 66 (va_cpy (H94 69) (H94 66) x2.toNatClampNeg x4.toNatClampNeg x5.toNatClampNeg) := ⟨_, rfl⟩
                    refine x_weq (w' := w6 cI cO a E94 G121) (by subst eG121; rfl) ?_
                    replace h := h G121 eG121
                    refine x_iload (pc' := 126) K dX6_move_124 5 rfl rfl ?_
                    exact x_iret (wf := w6 cI cO a) K h dX6_move_126
                  · replace h := h.2 c97
                    refine x_aload_n (pc' := 101) K dX6_move_100 0 rfl rfl ?_
                    refine x_iconst (pc' := 102) (v := 1) K dX6_move_101 (by decide) rfl ?_
                    refine x_callI (pc' := 105) K (mX6_error l D cI cO a _) rfl gX6_move_X6_error rfl dsX6_error ⟨rfl, rfl, ⟨Nat.le_of_ble_eq_true rfl, Nat.le_of_ble_eq_true rfl⟩, Nat.le_of_ble_eq_true rfl, Nat.le_of_ble_eq_true rfl⟩ h 6 0 rfl rfl (st := []) rfl rfl (Nat.le_of_ble_eq_true rfl) dX6_move_102 rfl (fun r102 F102 G102 h => ?_)
                    exact x_iret (wf := w6 cI cO a) K h dX6_move_105
              · replace h := h.2 c68
                refine x_aload_n (pc' := 72) K dX6_move_71 0 rfl rfl ?_
                refine x_iconst (pc' := 73) (v := 5) K dX6_move_72 (by decide) rfl ?_
                refine x_callI (pc' := 76) K (mX6_error l D cI cO a _) rfl gX6_move_X6_error rfl dsX6_error ⟨rfl, rfl, ⟨Nat.le_of_ble_eq_true rfl, Nat.le_of_ble_eq_true rfl⟩, Nat.le_of_ble_eq_true rfl, Nat.le_of_ble_eq_true rfl⟩ h 6 0 rfl rfl (st := []) rfl rfl (Nat.le_of_ble_eq_true rfl) dX6_move_73 rfl (fun r73 F73 G73 h => ?_)
                exact x_iret (wf := w6 cI cO a) K h dX6_move_76
            · replace h := h.2 c49
              refine x_aload_n (pc' := 53) K dX6_move_52 0 rfl rfl ?_
              refine x_iconst (pc' := 54) (v := 2) K dX6_move_53 (by decide) rfl ?_
              refine x_callI (pc' := 57) K (mX6_error l D cI cO a _) rfl gX6_move_X6_error rfl dsX6_error ⟨rfl, rfl, ⟨Nat.le_of_ble_eq_true rfl, Nat.le_of_ble_eq_true rfl⟩, Nat.le_of_ble_eq_true rfl, Nat.le_of_ble_eq_true rfl⟩ h 6 0 rfl rfl (st := []) rfl rfl (Nat.le_of_ble_eq_true rfl) dX6_move_54 rfl (fun r54 F54 G54 h => ?_)
              exact x_iret (wf := w6 cI cO a) K h dX6_move_57
        · replace h := h.2.1 e33
          refine xw6_96q1 (pc' := 34) K i33 e33 dX6_move_33 rfl ?_
          refine x_astore (pc' := 36) (i := 7) K dX6_move_34 (by decide) [1, 2, 3, 4, 5, 6, 7, 0] (L' := [(0, .ref (a 0)), (1, .int _), (2, .int _), (3, .int _), (4, .int _), (5, .int _), (6, .ref (a 103)), (7, .ref (a 99))]) rfl rfl ?_
          refine x_aload (pc' := 38) K dX6_move_36 6 rfl rfl ?_
          refine x_subI (pc' := 41) (wn := fun F' G' => w6 cI cO a (xspl F 48 2 F') (xspl G 69 1 G')) K (mX2_isMissing l D cI cO (xsub a 103)) rfl gX6_move_X2_isMissing rfl dsX2_isMissing ⟨rfl, rfl, ⟨Nat.le_of_ble_eq_true rfl, Nat.le_of_ble_eq_true rfl⟩, Nat.le_of_ble_eq_true rfl, Nat.le_of_ble_eq_true rfl⟩ h 2 0 rfl rfl (xpl34 cI cO a _ _) (fun F' G' => xpr34 cI cO a _ _ F' G') (st := []) rfl rfl (Nat.le_of_ble_eq_true rfl) dX6_move_38 rfl (fun r38 F38 G38 h => ?_)
          obtain ⟨E38, eE38⟩ : ∃ x : xF, x = (xspl F 48 2 F38) := ⟨_, rfl⟩
          obtain ⟨H38, eH38⟩ : ∃ x : xA, x = (xspl G 69 1 G38) := ⟨_, rfl⟩
          refine x_weq (w' := w6 cI cO a E38 H38) (by subst eE38; subst eH38; rfl) ?_
          replace h := h E38 eE38
          replace h := h H38 eH38
          refine x_if_ne (tgt := 52) (pc' := 44) K dX6_move_41 rfl rfl (fun c41 => ?_) (fun c41 => ?_)
          · replace h := h.1 c41
            refine x_aload_n (pc' := 53) K dX6_move_52 0 rfl rfl ?_
            refine x_iconst (pc' := 54) (v := 2) K dX6_move_53 (by decide) rfl ?_
            refine x_callI (pc' := 57) K (mX6_error l D cI cO a _) rfl gX6_move_X6_error rfl dsX6_error ⟨rfl, rfl, ⟨Nat.le_of_ble_eq_true rfl, Nat.le_of_ble_eq_true rfl⟩, Nat.le_of_ble_eq_true rfl, Nat.le_of_ble_eq_true rfl⟩ h 6 0 rfl rfl (st := []) rfl rfl (Nat.le_of_ble_eq_true rfl) dX6_move_54 rfl (fun r54 F54 G54 h => ?_)
            exact x_iret (wf := w6 cI cO a) K h dX6_move_57
          · replace h := h.2 c41
            refine x_aload (pc' := 46) K dX6_move_44 7 rfl rfl ?_
            refine x_subI (pc' := 49) (wn := fun F' G' => w6 cI cO a (xspl E38 44 2 F') (xspl H38 67 1 G')) K (mX2_isMissing l D cI cO (xsub a 99)) rfl gX6_move_X2_isMissing rfl dsX2_isMissing ⟨rfl, rfl, ⟨Nat.le_of_ble_eq_true rfl, Nat.le_of_ble_eq_true rfl⟩, Nat.le_of_ble_eq_true rfl, Nat.le_of_ble_eq_true rfl⟩ h 2 0 rfl rfl (xpl32 cI cO a _ _) (fun F' G' => xpr32 cI cO a _ _ F' G') (st := []) rfl rfl (Nat.le_of_ble_eq_true rfl) dX6_move_46 rfl (fun r46 F46 G46 h => ?_)
            obtain ⟨E46, eE46⟩ : ∃ x : xF, x = (xspl E38 44 2 F46) := ⟨_, rfl⟩
            obtain ⟨H46, eH46⟩ : ∃ x : xA, x = (xspl H38 67 1 G46) := ⟨_, rfl⟩
            refine x_weq (w' := w6 cI cO a E46 H46) (by subst eE46; subst eH46; rfl) ?_
            replace h := h E46 eE46
            replace h := h H46 eH46
            refine x_if_eq (tgt := 58) (pc' := 52) K dX6_move_49 rfl rfl (fun c49 => ?_) (fun c49 => ?_)
            · replace h := h.1 c49
              refine x_aload (pc' := 60) K dX6_move_58 6 rfl rfl ?_
              refine xw6_103g_bits (pc' := 63) K hinX6_move_X2 uX6_move_f237 dX6_move_60 rfl ?_
              refine x_aload (pc' := 65) K dX6_move_63 7 rfl rfl ?_
              refine xw6_99g_bits (pc' := 68) K hinX6_move_X2 uX6_move_f237 dX6_move_65 rfl ?_
              refine x_icmp_eq (tgt := 77) (pc' := 71) K dX6_move_68 rfl rfl (fun c68 => ?_) (fun c68 => ?_)
              · replace h := h.1 c68
                refine x_aload (pc' := 79) K dX6_move_77 6 rfl rfl ?_
                refine x_iload_n (pc' := 80) K dX6_move_79 2 rfl rfl ?_
                refine x_iload (pc' := 82) K dX6_move_80 5 rfl rfl ?_
                refine x_subI (pc' := 85) (wn := fun F' G' => w6 cI cO a (xspl E46 48 2 F') (xspl H46 69 1 G')) K (mX2_holdsPart l D cI cO (xsub a 103) _ _) rfl gX6_move_X2_holdsPart rfl dsX2_holdsPart ⟨rfl, rfl, ⟨Nat.le_of_ble_eq_true rfl, Nat.le_of_ble_eq_true rfl⟩, Nat.le_of_ble_eq_true rfl, Nat.le_of_ble_eq_true rfl⟩ h 2 0 rfl rfl (xpl34 cI cO a _ _) (fun F' G' => xpr34 cI cO a _ _ F' G') (st := []) rfl rfl (Nat.le_of_ble_eq_true rfl) dX6_move_82 rfl (fun r82 F82 G82 h => ?_)
                obtain ⟨E82, eE82⟩ : ∃ x : xF, x = (xspl E46 48 2 F82) := ⟨_, rfl⟩
                obtain ⟨H82, eH82⟩ : ∃ x : xA, x = (xspl H46 69 1 G82) := ⟨_, rfl⟩
                refine x_weq (w' := w6 cI cO a E82 H82) (by subst eE82; subst eH82; rfl) ?_
                replace h := h E82 eE82
                replace h := h H82 eH82
                refine x_if_eq (tgt := 100) (pc' := 88) K dX6_move_85 rfl rfl (fun c85 => ?_) (fun c85 => ?_)
                · replace h := h.1 c85
                  refine x_aload_n (pc' := 101) K dX6_move_100 0 rfl rfl ?_
                  refine x_iconst (pc' := 102) (v := 1) K dX6_move_101 (by decide) rfl ?_
                  refine x_callI (pc' := 105) K (mX6_error l D cI cO a _) rfl gX6_move_X6_error rfl dsX6_error ⟨rfl, rfl, ⟨Nat.le_of_ble_eq_true rfl, Nat.le_of_ble_eq_true rfl⟩, Nat.le_of_ble_eq_true rfl, Nat.le_of_ble_eq_true rfl⟩ h 6 0 rfl rfl (st := []) rfl rfl (Nat.le_of_ble_eq_true rfl) dX6_move_102 rfl (fun r102 F102 G102 h => ?_)
                  exact x_iret (wf := w6 cI cO a) K h dX6_move_105
                · replace h := h.2 c85
                  refine x_aload (pc' := 90) K dX6_move_88 7 rfl rfl ?_
                  refine x_iload (pc' := 92) K dX6_move_90 4 rfl rfl ?_
                  refine x_iload (pc' := 94) K dX6_move_92 5 rfl rfl ?_
                  refine x_subI (pc' := 97) (wn := fun F' G' => w6 cI cO a (xspl E82 44 2 F') (xspl H82 67 1 G')) K (mX2_holdsPart l D cI cO (xsub a 99) _ _) rfl gX6_move_X2_holdsPart rfl dsX2_holdsPart ⟨rfl, rfl, ⟨Nat.le_of_ble_eq_true rfl, Nat.le_of_ble_eq_true rfl⟩, Nat.le_of_ble_eq_true rfl, Nat.le_of_ble_eq_true rfl⟩ h 2 0 rfl rfl (xpl32 cI cO a _ _) (fun F' G' => xpr32 cI cO a _ _ F' G') (st := []) rfl rfl (Nat.le_of_ble_eq_true rfl) dX6_move_94 rfl (fun r94 F94 G94 h => ?_)
                  obtain ⟨E94, eE94⟩ : ∃ x : xF, x = (xspl E82 44 2 F94) := ⟨_, rfl⟩
                  obtain ⟨H94, eH94⟩ : ∃ x : xA, x = (xspl H82 67 1 G94) := ⟨_, rfl⟩
                  refine x_weq (w' := w6 cI cO a E94 H94) (by subst eE94; subst eH94; rfl) ?_
                  replace h := h E94 eE94
                  replace h := h H94 eH94
                  refine x_if_ne (tgt := 106) (pc' := 100) K dX6_move_97 rfl rfl (fun c97 => ?_) (fun c97 => ?_)
                  · replace h := h.1 c97
                    refine x_aload (pc' := 108) K dX6_move_106 6 rfl rfl ?_
                    refine xw6_103g_numbers (pc' := 111) K hinX6_move_X2 uX6_move_f243 dX6_move_108 rfl ?_
                    refine x_iload_n (pc' := 112) K dX6_move_111 2 rfl rfl ?_
                    refine x_aload (pc' := 114) K dX6_move_112 7 rfl rfl ?_
                    refine xw6_99g_numbers (pc' := 117) K hinX6_move_X2 uX6_move_f243 dX6_move_114 rfl ?_
                    refine x_iload (pc' := 119) K dX6_move_117 4 rfl rfl ?_
                    refine x_iload (pc' := 121) K dX6_move_119 5 rfl rfl ?_
                    obtain ⟨z121s, h⟩ := h
                    obtain ⟨z121d, h⟩ := h
                    obtain ⟨z121n, h⟩ := h
                    obtain ⟨z121p, h⟩ := h
                    obtain ⟨z121q, h⟩ := h
                    refine x_copy (pc' := 124) (w' := w6 cI cO a E94 (va_up H94 67 (va_cpy (H94 69) (H94 67) x2.toNatClampNeg x4.toNatClampNeg x5.toNatClampNeg))) K uX6_move_m246 uX6_move_cn uX6_move_cs uX6_move_ci 104 100 (f := H94 69) (g := H94 67) (n0 := 24) (n1 := 24) (cA := cI) rfl rfl rfl z121s z121d z121n z121p z121q rfl (by decide +kernel) (by decide +kernel) dX6_move_121 rfl ?_
                    obtain ⟨G121, eG121⟩ : ∃ x : xA, x = va_up H94 67 (va_cpy (H94 69) (H94 67) x2.toNatClampNeg x4.toNatClampNeg x5.toNatClampNeg) := ⟨_, rfl⟩
                    refine x_weq (w' := w6 cI cO a E94 G121) (by subst eG121; rfl) ?_
                    replace h := h G121 eG121
                    refine x_iload (pc' := 126) K dX6_move_124 5 rfl rfl ?_
                    exact x_iret (wf := w6 cI cO a) K h dX6_move_126
                  · replace h := h.2 c97
                    refine x_aload_n (pc' := 101) K dX6_move_100 0 rfl rfl ?_
                    refine x_iconst (pc' := 102) (v := 1) K dX6_move_101 (by decide) rfl ?_
                    refine x_callI (pc' := 105) K (mX6_error l D cI cO a _) rfl gX6_move_X6_error rfl dsX6_error ⟨rfl, rfl, ⟨Nat.le_of_ble_eq_true rfl, Nat.le_of_ble_eq_true rfl⟩, Nat.le_of_ble_eq_true rfl, Nat.le_of_ble_eq_true rfl⟩ h 6 0 rfl rfl (st := []) rfl rfl (Nat.le_of_ble_eq_true rfl) dX6_move_102 rfl (fun r102 F102 G102 h => ?_)
                    exact x_iret (wf := w6 cI cO a) K h dX6_move_105
              · replace h := h.2 c68
                refine x_aload_n (pc' := 72) K dX6_move_71 0 rfl rfl ?_
                refine x_iconst (pc' := 73) (v := 5) K dX6_move_72 (by decide) rfl ?_
                refine x_callI (pc' := 76) K (mX6_error l D cI cO a _) rfl gX6_move_X6_error rfl dsX6_error ⟨rfl, rfl, ⟨Nat.le_of_ble_eq_true rfl, Nat.le_of_ble_eq_true rfl⟩, Nat.le_of_ble_eq_true rfl, Nat.le_of_ble_eq_true rfl⟩ h 6 0 rfl rfl (st := []) rfl rfl (Nat.le_of_ble_eq_true rfl) dX6_move_73 rfl (fun r73 F73 G73 h => ?_)
                exact x_iret (wf := w6 cI cO a) K h dX6_move_76
            · replace h := h.2 c49
              refine x_aload_n (pc' := 53) K dX6_move_52 0 rfl rfl ?_
              refine x_iconst (pc' := 54) (v := 2) K dX6_move_53 (by decide) rfl ?_
              refine x_callI (pc' := 57) K (mX6_error l D cI cO a _) rfl gX6_move_X6_error rfl dsX6_error ⟨rfl, rfl, ⟨Nat.le_of_ble_eq_true rfl, Nat.le_of_ble_eq_true rfl⟩, Nat.le_of_ble_eq_true rfl, Nat.le_of_ble_eq_true rfl⟩ h 6 0 rfl rfl (st := []) rfl rfl (Nat.le_of_ble_eq_true rfl) dX6_move_54 rfl (fun r54 F54 G54 h => ?_)
              exact x_iret (wf := w6 cI cO a) K h dX6_move_57
        · replace h := h.2.2.1 e33
          refine xw6_96q2 (pc' := 34) K i33 e33 dX6_move_33 rfl ?_
          refine x_astore (pc' := 36) (i := 7) K dX6_move_34 (by decide) [1, 2, 3, 4, 5, 6, 7, 0] (L' := [(0, .ref (a 0)), (1, .int _), (2, .int _), (3, .int _), (4, .int _), (5, .int _), (6, .ref (a 103)), (7, .ref (a 101))]) rfl rfl ?_
          refine x_aload (pc' := 38) K dX6_move_36 6 rfl rfl ?_
          refine x_subI (pc' := 41) (wn := fun F' G' => w6 cI cO a (xspl F 48 2 F') (xspl G 69 1 G')) K (mX2_isMissing l D cI cO (xsub a 103)) rfl gX6_move_X2_isMissing rfl dsX2_isMissing ⟨rfl, rfl, ⟨Nat.le_of_ble_eq_true rfl, Nat.le_of_ble_eq_true rfl⟩, Nat.le_of_ble_eq_true rfl, Nat.le_of_ble_eq_true rfl⟩ h 2 0 rfl rfl (xpl34 cI cO a _ _) (fun F' G' => xpr34 cI cO a _ _ F' G') (st := []) rfl rfl (Nat.le_of_ble_eq_true rfl) dX6_move_38 rfl (fun r38 F38 G38 h => ?_)
          obtain ⟨E38, eE38⟩ : ∃ x : xF, x = (xspl F 48 2 F38) := ⟨_, rfl⟩
          obtain ⟨H38, eH38⟩ : ∃ x : xA, x = (xspl G 69 1 G38) := ⟨_, rfl⟩
          refine x_weq (w' := w6 cI cO a E38 H38) (by subst eE38; subst eH38; rfl) ?_
          replace h := h E38 eE38
          replace h := h H38 eH38
          refine x_if_ne (tgt := 52) (pc' := 44) K dX6_move_41 rfl rfl (fun c41 => ?_) (fun c41 => ?_)
          · replace h := h.1 c41
            refine x_aload_n (pc' := 53) K dX6_move_52 0 rfl rfl ?_
            refine x_iconst (pc' := 54) (v := 2) K dX6_move_53 (by decide) rfl ?_
            refine x_callI (pc' := 57) K (mX6_error l D cI cO a _) rfl gX6_move_X6_error rfl dsX6_error ⟨rfl, rfl, ⟨Nat.le_of_ble_eq_true rfl, Nat.le_of_ble_eq_true rfl⟩, Nat.le_of_ble_eq_true rfl, Nat.le_of_ble_eq_true rfl⟩ h 6 0 rfl rfl (st := []) rfl rfl (Nat.le_of_ble_eq_true rfl) dX6_move_54 rfl (fun r54 F54 G54 h => ?_)
            exact x_iret (wf := w6 cI cO a) K h dX6_move_57
          · replace h := h.2 c41
            refine x_aload (pc' := 46) K dX6_move_44 7 rfl rfl ?_
            refine x_subI (pc' := 49) (wn := fun F' G' => w6 cI cO a (xspl E38 46 2 F') (xspl H38 68 1 G')) K (mX2_isMissing l D cI cO (xsub a 101)) rfl gX6_move_X2_isMissing rfl dsX2_isMissing ⟨rfl, rfl, ⟨Nat.le_of_ble_eq_true rfl, Nat.le_of_ble_eq_true rfl⟩, Nat.le_of_ble_eq_true rfl, Nat.le_of_ble_eq_true rfl⟩ h 2 0 rfl rfl (xpl33 cI cO a _ _) (fun F' G' => xpr33 cI cO a _ _ F' G') (st := []) rfl rfl (Nat.le_of_ble_eq_true rfl) dX6_move_46 rfl (fun r46 F46 G46 h => ?_)
            obtain ⟨E46, eE46⟩ : ∃ x : xF, x = (xspl E38 46 2 F46) := ⟨_, rfl⟩
            obtain ⟨H46, eH46⟩ : ∃ x : xA, x = (xspl H38 68 1 G46) := ⟨_, rfl⟩
            refine x_weq (w' := w6 cI cO a E46 H46) (by subst eE46; subst eH46; rfl) ?_
            replace h := h E46 eE46
            replace h := h H46 eH46
            refine x_if_eq (tgt := 58) (pc' := 52) K dX6_move_49 rfl rfl (fun c49 => ?_) (fun c49 => ?_)
            · replace h := h.1 c49
              refine x_aload (pc' := 60) K dX6_move_58 6 rfl rfl ?_
              refine xw6_103g_bits (pc' := 63) K hinX6_move_X2 uX6_move_f237 dX6_move_60 rfl ?_
              refine x_aload (pc' := 65) K dX6_move_63 7 rfl rfl ?_
              refine xw6_101g_bits (pc' := 68) K hinX6_move_X2 uX6_move_f237 dX6_move_65 rfl ?_
              refine x_icmp_eq (tgt := 77) (pc' := 71) K dX6_move_68 rfl rfl (fun c68 => ?_) (fun c68 => ?_)
              · replace h := h.1 c68
                refine x_aload (pc' := 79) K dX6_move_77 6 rfl rfl ?_
                refine x_iload_n (pc' := 80) K dX6_move_79 2 rfl rfl ?_
                refine x_iload (pc' := 82) K dX6_move_80 5 rfl rfl ?_
                refine x_subI (pc' := 85) (wn := fun F' G' => w6 cI cO a (xspl E46 48 2 F') (xspl H46 69 1 G')) K (mX2_holdsPart l D cI cO (xsub a 103) _ _) rfl gX6_move_X2_holdsPart rfl dsX2_holdsPart ⟨rfl, rfl, ⟨Nat.le_of_ble_eq_true rfl, Nat.le_of_ble_eq_true rfl⟩, Nat.le_of_ble_eq_true rfl, Nat.le_of_ble_eq_true rfl⟩ h 2 0 rfl rfl (xpl34 cI cO a _ _) (fun F' G' => xpr34 cI cO a _ _ F' G') (st := []) rfl rfl (Nat.le_of_ble_eq_true rfl) dX6_move_82 rfl (fun r82 F82 G82 h => ?_)
                obtain ⟨E82, eE82⟩ : ∃ x : xF, x = (xspl E46 48 2 F82) := ⟨_, rfl⟩
                obtain ⟨H82, eH82⟩ : ∃ x : xA, x = (xspl H46 69 1 G82) := ⟨_, rfl⟩
                refine x_weq (w' := w6 cI cO a E82 H82) (by subst eE82; subst eH82; rfl) ?_
                replace h := h E82 eE82
                replace h := h H82 eH82
                refine x_if_eq (tgt := 100) (pc' := 88) K dX6_move_85 rfl rfl (fun c85 => ?_) (fun c85 => ?_)
                · replace h := h.1 c85
                  refine x_aload_n (pc' := 101) K dX6_move_100 0 rfl rfl ?_
                  refine x_iconst (pc' := 102) (v := 1) K dX6_move_101 (by decide) rfl ?_
                  refine x_callI (pc' := 105) K (mX6_error l D cI cO a _) rfl gX6_move_X6_error rfl dsX6_error ⟨rfl, rfl, ⟨Nat.le_of_ble_eq_true rfl, Nat.le_of_ble_eq_true rfl⟩, Nat.le_of_ble_eq_true rfl, Nat.le_of_ble_eq_true rfl⟩ h 6 0 rfl rfl (st := []) rfl rfl (Nat.le_of_ble_eq_true rfl) dX6_move_102 rfl (fun r102 F102 G102 h => ?_)
                  exact x_iret (wf := w6 cI cO a) K h dX6_move_105
                · replace h := h.2 c85
                  refine x_aload (pc' := 90) K dX6_move_88 7 rfl rfl ?_
                  refine x_iload (pc' := 92) K dX6_move_90 4 rfl rfl ?_
                  refine x_iload (pc' := 94) K dX6_move_92 5 rfl rfl ?_
                  refine x_subI (pc' := 97) (wn := fun F' G' => w6 cI cO a (xspl E82 46 2 F') (xspl H82 68 1 G')) K (mX2_holdsPart l D cI cO (xsub a 101) _ _) rfl gX6_move_X2_holdsPart rfl dsX2_holdsPart ⟨rfl, rfl, ⟨Nat.le_of_ble_eq_true rfl, Nat.le_of_ble_eq_true rfl⟩, Nat.le_of_ble_eq_true rfl, Nat.le_of_ble_eq_true rfl⟩ h 2 0 rfl rfl (xpl33 cI cO a _ _) (fun F' G' => xpr33 cI cO a _ _ F' G') (st := []) rfl rfl (Nat.le_of_ble_eq_true rfl) dX6_move_94 rfl (fun r94 F94 G94 h => ?_)
                  obtain ⟨E94, eE94⟩ : ∃ x : xF, x = (xspl E82 46 2 F94) := ⟨_, rfl⟩
                  obtain ⟨H94, eH94⟩ : ∃ x : xA, x = (xspl H82 68 1 G94) := ⟨_, rfl⟩
                  refine x_weq (w' := w6 cI cO a E94 H94) (by subst eE94; subst eH94; rfl) ?_
                  replace h := h E94 eE94
                  replace h := h H94 eH94
                  refine x_if_ne (tgt := 106) (pc' := 100) K dX6_move_97 rfl rfl (fun c97 => ?_) (fun c97 => ?_)
                  · replace h := h.1 c97
                    refine x_aload (pc' := 108) K dX6_move_106 6 rfl rfl ?_
                    refine xw6_103g_numbers (pc' := 111) K hinX6_move_X2 uX6_move_f243 dX6_move_108 rfl ?_
                    refine x_iload_n (pc' := 112) K dX6_move_111 2 rfl rfl ?_
                    refine x_aload (pc' := 114) K dX6_move_112 7 rfl rfl ?_
                    refine xw6_101g_numbers (pc' := 117) K hinX6_move_X2 uX6_move_f243 dX6_move_114 rfl ?_
                    refine x_iload (pc' := 119) K dX6_move_117 4 rfl rfl ?_
                    refine x_iload (pc' := 121) K dX6_move_119 5 rfl rfl ?_
                    obtain ⟨z121s, h⟩ := h
                    obtain ⟨z121d, h⟩ := h
                    obtain ⟨z121n, h⟩ := h
                    obtain ⟨z121p, h⟩ := h
                    obtain ⟨z121q, h⟩ := h
                    refine x_copy (pc' := 124) (w' := w6 cI cO a E94 (va_up H94 68 (va_cpy (H94 69) (H94 68) x2.toNatClampNeg x4.toNatClampNeg x5.toNatClampNeg))) K uX6_move_m246 uX6_move_cn uX6_move_cs uX6_move_ci 104 102 (f := H94 69) (g := H94 68) (n0 := 24) (n1 := 24) (cA := cI) rfl rfl rfl z121s z121d z121n z121p z121q rfl (by decide +kernel) (by decide +kernel) dX6_move_121 rfl ?_
                    obtain ⟨G121, eG121⟩ : ∃ x : xA, x = va_up H94 68 (va_cpy (H94 69) (H94 68) x2.toNatClampNeg x4.toNatClampNeg x5.toNatClampNeg) := ⟨_, rfl⟩
                    refine x_weq (w' := w6 cI cO a E94 G121) (by subst eG121; rfl) ?_
                    replace h := h G121 eG121
                    refine x_iload (pc' := 126) K dX6_move_124 5 rfl rfl ?_
                    exact x_iret (wf := w6 cI cO a) K h dX6_move_126
                  · replace h := h.2 c97
                    refine x_aload_n (pc' := 101) K dX6_move_100 0 rfl rfl ?_
                    refine x_iconst (pc' := 102) (v := 1) K dX6_move_101 (by decide) rfl ?_
                    refine x_callI (pc' := 105) K (mX6_error l D cI cO a _) rfl gX6_move_X6_error rfl dsX6_error ⟨rfl, rfl, ⟨Nat.le_of_ble_eq_true rfl, Nat.le_of_ble_eq_true rfl⟩, Nat.le_of_ble_eq_true rfl, Nat.le_of_ble_eq_true rfl⟩ h 6 0 rfl rfl (st := []) rfl rfl (Nat.le_of_ble_eq_true rfl) dX6_move_102 rfl (fun r102 F102 G102 h => ?_)
                    exact x_iret (wf := w6 cI cO a) K h dX6_move_105
              · replace h := h.2 c68
                refine x_aload_n (pc' := 72) K dX6_move_71 0 rfl rfl ?_
                refine x_iconst (pc' := 73) (v := 5) K dX6_move_72 (by decide) rfl ?_
                refine x_callI (pc' := 76) K (mX6_error l D cI cO a _) rfl gX6_move_X6_error rfl dsX6_error ⟨rfl, rfl, ⟨Nat.le_of_ble_eq_true rfl, Nat.le_of_ble_eq_true rfl⟩, Nat.le_of_ble_eq_true rfl, Nat.le_of_ble_eq_true rfl⟩ h 6 0 rfl rfl (st := []) rfl rfl (Nat.le_of_ble_eq_true rfl) dX6_move_73 rfl (fun r73 F73 G73 h => ?_)
                exact x_iret (wf := w6 cI cO a) K h dX6_move_76
            · replace h := h.2 c49
              refine x_aload_n (pc' := 53) K dX6_move_52 0 rfl rfl ?_
              refine x_iconst (pc' := 54) (v := 2) K dX6_move_53 (by decide) rfl ?_
              refine x_callI (pc' := 57) K (mX6_error l D cI cO a _) rfl gX6_move_X6_error rfl dsX6_error ⟨rfl, rfl, ⟨Nat.le_of_ble_eq_true rfl, Nat.le_of_ble_eq_true rfl⟩, Nat.le_of_ble_eq_true rfl, Nat.le_of_ble_eq_true rfl⟩ h 6 0 rfl rfl (st := []) rfl rfl (Nat.le_of_ble_eq_true rfl) dX6_move_54 rfl (fun r54 F54 G54 h => ?_)
              exact x_iret (wf := w6 cI cO a) K h dX6_move_57
        · replace h := h.2.2.2 e33
          refine xw6_96q3 (pc' := 34) K i33 e33 dX6_move_33 rfl ?_
          refine x_astore (pc' := 36) (i := 7) K dX6_move_34 (by decide) [1, 2, 3, 4, 5, 6, 7, 0] (L' := [(0, .ref (a 0)), (1, .int _), (2, .int _), (3, .int _), (4, .int _), (5, .int _), (6, .ref (a 103)), (7, .ref (a 103))]) rfl rfl ?_
          refine x_aload (pc' := 38) K dX6_move_36 6 rfl rfl ?_
          refine x_subI (pc' := 41) (wn := fun F' G' => w6 cI cO a (xspl F 48 2 F') (xspl G 69 1 G')) K (mX2_isMissing l D cI cO (xsub a 103)) rfl gX6_move_X2_isMissing rfl dsX2_isMissing ⟨rfl, rfl, ⟨Nat.le_of_ble_eq_true rfl, Nat.le_of_ble_eq_true rfl⟩, Nat.le_of_ble_eq_true rfl, Nat.le_of_ble_eq_true rfl⟩ h 2 0 rfl rfl (xpl34 cI cO a _ _) (fun F' G' => xpr34 cI cO a _ _ F' G') (st := []) rfl rfl (Nat.le_of_ble_eq_true rfl) dX6_move_38 rfl (fun r38 F38 G38 h => ?_)
          obtain ⟨E38, eE38⟩ : ∃ x : xF, x = (xspl F 48 2 F38) := ⟨_, rfl⟩
          obtain ⟨H38, eH38⟩ : ∃ x : xA, x = (xspl G 69 1 G38) := ⟨_, rfl⟩
          refine x_weq (w' := w6 cI cO a E38 H38) (by subst eE38; subst eH38; rfl) ?_
          replace h := h E38 eE38
          replace h := h H38 eH38
          refine x_if_ne (tgt := 52) (pc' := 44) K dX6_move_41 rfl rfl (fun c41 => ?_) (fun c41 => ?_)
          · replace h := h.1 c41
            refine x_aload_n (pc' := 53) K dX6_move_52 0 rfl rfl ?_
            refine x_iconst (pc' := 54) (v := 2) K dX6_move_53 (by decide) rfl ?_
            refine x_callI (pc' := 57) K (mX6_error l D cI cO a _) rfl gX6_move_X6_error rfl dsX6_error ⟨rfl, rfl, ⟨Nat.le_of_ble_eq_true rfl, Nat.le_of_ble_eq_true rfl⟩, Nat.le_of_ble_eq_true rfl, Nat.le_of_ble_eq_true rfl⟩ h 6 0 rfl rfl (st := []) rfl rfl (Nat.le_of_ble_eq_true rfl) dX6_move_54 rfl (fun r54 F54 G54 h => ?_)
            exact x_iret (wf := w6 cI cO a) K h dX6_move_57
          · replace h := h.2 c41
            refine x_aload (pc' := 46) K dX6_move_44 7 rfl rfl ?_
            refine x_subI (pc' := 49) (wn := fun F' G' => w6 cI cO a (xspl E38 48 2 F') (xspl H38 69 1 G')) K (mX2_isMissing l D cI cO (xsub a 103)) rfl gX6_move_X2_isMissing rfl dsX2_isMissing ⟨rfl, rfl, ⟨Nat.le_of_ble_eq_true rfl, Nat.le_of_ble_eq_true rfl⟩, Nat.le_of_ble_eq_true rfl, Nat.le_of_ble_eq_true rfl⟩ h 2 0 rfl rfl (xpl34 cI cO a _ _) (fun F' G' => xpr34 cI cO a _ _ F' G') (st := []) rfl rfl (Nat.le_of_ble_eq_true rfl) dX6_move_46 rfl (fun r46 F46 G46 h => ?_)
            obtain ⟨E46, eE46⟩ : ∃ x : xF, x = (xspl E38 48 2 F46) := ⟨_, rfl⟩
            obtain ⟨H46, eH46⟩ : ∃ x : xA, x = (xspl H38 69 1 G46) := ⟨_, rfl⟩
            refine x_weq (w' := w6 cI cO a E46 H46) (by subst eE46; subst eH46; rfl) ?_
            replace h := h E46 eE46
            replace h := h H46 eH46
            refine x_if_eq (tgt := 58) (pc' := 52) K dX6_move_49 rfl rfl (fun c49 => ?_) (fun c49 => ?_)
            · replace h := h.1 c49
              refine x_aload (pc' := 60) K dX6_move_58 6 rfl rfl ?_
              refine xw6_103g_bits (pc' := 63) K hinX6_move_X2 uX6_move_f237 dX6_move_60 rfl ?_
              refine x_aload (pc' := 65) K dX6_move_63 7 rfl rfl ?_
              refine xw6_103g_bits (pc' := 68) K hinX6_move_X2 uX6_move_f237 dX6_move_65 rfl ?_
              refine x_icmp_eq (tgt := 77) (pc' := 71) K dX6_move_68 rfl rfl (fun c68 => ?_) (fun c68 => ?_)
              · replace h := h.1 c68
                refine x_aload (pc' := 79) K dX6_move_77 6 rfl rfl ?_
                refine x_iload_n (pc' := 80) K dX6_move_79 2 rfl rfl ?_
                refine x_iload (pc' := 82) K dX6_move_80 5 rfl rfl ?_
                refine x_subI (pc' := 85) (wn := fun F' G' => w6 cI cO a (xspl E46 48 2 F') (xspl H46 69 1 G')) K (mX2_holdsPart l D cI cO (xsub a 103) _ _) rfl gX6_move_X2_holdsPart rfl dsX2_holdsPart ⟨rfl, rfl, ⟨Nat.le_of_ble_eq_true rfl, Nat.le_of_ble_eq_true rfl⟩, Nat.le_of_ble_eq_true rfl, Nat.le_of_ble_eq_true rfl⟩ h 2 0 rfl rfl (xpl34 cI cO a _ _) (fun F' G' => xpr34 cI cO a _ _ F' G') (st := []) rfl rfl (Nat.le_of_ble_eq_true rfl) dX6_move_82 rfl (fun r82 F82 G82 h => ?_)
                obtain ⟨E82, eE82⟩ : ∃ x : xF, x = (xspl E46 48 2 F82) := ⟨_, rfl⟩
                obtain ⟨H82, eH82⟩ : ∃ x : xA, x = (xspl H46 69 1 G82) := ⟨_, rfl⟩
                refine x_weq (w' := w6 cI cO a E82 H82) (by subst eE82; subst eH82; rfl) ?_
                replace h := h E82 eE82
                replace h := h H82 eH82
                refine x_if_eq (tgt := 100) (pc' := 88) K dX6_move_85 rfl rfl (fun c85 => ?_) (fun c85 => ?_)
                · replace h := h.1 c85
                  refine x_aload_n (pc' := 101) K dX6_move_100 0 rfl rfl ?_
                  refine x_iconst (pc' := 102) (v := 1) K dX6_move_101 (by decide) rfl ?_
                  refine x_callI (pc' := 105) K (mX6_error l D cI cO a _) rfl gX6_move_X6_error rfl dsX6_error ⟨rfl, rfl, ⟨Nat.le_of_ble_eq_true rfl, Nat.le_of_ble_eq_true rfl⟩, Nat.le_of_ble_eq_true rfl, Nat.le_of_ble_eq_true rfl⟩ h 6 0 rfl rfl (st := []) rfl rfl (Nat.le_of_ble_eq_true rfl) dX6_move_102 rfl (fun r102 F102 G102 h => ?_)
                  exact x_iret (wf := w6 cI cO a) K h dX6_move_105
                · replace h := h.2 c85
                  refine x_aload (pc' := 90) K dX6_move_88 7 rfl rfl ?_
                  refine x_iload (pc' := 92) K dX6_move_90 4 rfl rfl ?_
                  refine x_iload (pc' := 94) K dX6_move_92 5 rfl rfl ?_
                  refine x_subI (pc' := 97) (wn := fun F' G' => w6 cI cO a (xspl E82 48 2 F') (xspl H82 69 1 G')) K (mX2_holdsPart l D cI cO (xsub a 103) _ _) rfl gX6_move_X2_holdsPart rfl dsX2_holdsPart ⟨rfl, rfl, ⟨Nat.le_of_ble_eq_true rfl, Nat.le_of_ble_eq_true rfl⟩, Nat.le_of_ble_eq_true rfl, Nat.le_of_ble_eq_true rfl⟩ h 2 0 rfl rfl (xpl34 cI cO a _ _) (fun F' G' => xpr34 cI cO a _ _ F' G') (st := []) rfl rfl (Nat.le_of_ble_eq_true rfl) dX6_move_94 rfl (fun r94 F94 G94 h => ?_)
                  obtain ⟨E94, eE94⟩ : ∃ x : xF, x = (xspl E82 48 2 F94) := ⟨_, rfl⟩
                  obtain ⟨H94, eH94⟩ : ∃ x : xA, x = (xspl H82 69 1 G94) := ⟨_, rfl⟩
                  refine x_weq (w' := w6 cI cO a E94 H94) (by subst eE94; subst eH94; rfl) ?_
                  replace h := h E94 eE94
                  replace h := h H94 eH94
                  refine x_if_ne (tgt := 106) (pc' := 100) K dX6_move_97 rfl rfl (fun c97 => ?_) (fun c97 => ?_)
                  · replace h := h.1 c97
                    refine x_aload (pc' := 108) K dX6_move_106 6 rfl rfl ?_
                    refine xw6_103g_numbers (pc' := 111) K hinX6_move_X2 uX6_move_f243 dX6_move_108 rfl ?_
                    refine x_iload_n (pc' := 112) K dX6_move_111 2 rfl rfl ?_
                    refine x_aload (pc' := 114) K dX6_move_112 7 rfl rfl ?_
                    refine xw6_103g_numbers (pc' := 117) K hinX6_move_X2 uX6_move_f243 dX6_move_114 rfl ?_
                    refine x_iload (pc' := 119) K dX6_move_117 4 rfl rfl ?_
                    refine x_iload (pc' := 121) K dX6_move_119 5 rfl rfl ?_
                    obtain ⟨z121s, h⟩ := h
                    obtain ⟨z121d, h⟩ := h
                    obtain ⟨z121n, h⟩ := h
                    obtain ⟨z121p, h⟩ := h
                    obtain ⟨z121q, h⟩ := h
                    refine x_copy (pc' := 124) (w' := w6 cI cO a E94 (va_up H94 69 (va_cpy (H94 69) (H94 69) x2.toNatClampNeg x4.toNatClampNeg x5.toNatClampNeg))) K uX6_move_m246 uX6_move_cn uX6_move_cs uX6_move_ci 104 104 (f := H94 69) (g := H94 69) (n0 := 24) (n1 := 24) (cA := cI) rfl rfl rfl z121s z121d z121n z121p z121q rfl (by decide +kernel) (by decide +kernel) dX6_move_121 rfl ?_
                    obtain ⟨G121, eG121⟩ : ∃ x : xA, x = va_up H94 69 (va_cpy (H94 69) (H94 69) x2.toNatClampNeg x4.toNatClampNeg x5.toNatClampNeg) := ⟨_, rfl⟩
                    refine x_weq (w' := w6 cI cO a E94 G121) (by subst eG121; rfl) ?_
                    replace h := h G121 eG121
                    refine x_iload (pc' := 126) K dX6_move_124 5 rfl rfl ?_
                    exact x_iret (wf := w6 cI cO a) K h dX6_move_126
                  · replace h := h.2 c97
                    refine x_aload_n (pc' := 101) K dX6_move_100 0 rfl rfl ?_
                    refine x_iconst (pc' := 102) (v := 1) K dX6_move_101 (by decide) rfl ?_
                    refine x_callI (pc' := 105) K (mX6_error l D cI cO a _) rfl gX6_move_X6_error rfl dsX6_error ⟨rfl, rfl, ⟨Nat.le_of_ble_eq_true rfl, Nat.le_of_ble_eq_true rfl⟩, Nat.le_of_ble_eq_true rfl, Nat.le_of_ble_eq_true rfl⟩ h 6 0 rfl rfl (st := []) rfl rfl (Nat.le_of_ble_eq_true rfl) dX6_move_102 rfl (fun r102 F102 G102 h => ?_)
                    exact x_iret (wf := w6 cI cO a) K h dX6_move_105
              · replace h := h.2 c68
                refine x_aload_n (pc' := 72) K dX6_move_71 0 rfl rfl ?_
                refine x_iconst (pc' := 73) (v := 5) K dX6_move_72 (by decide) rfl ?_
                refine x_callI (pc' := 76) K (mX6_error l D cI cO a _) rfl gX6_move_X6_error rfl dsX6_error ⟨rfl, rfl, ⟨Nat.le_of_ble_eq_true rfl, Nat.le_of_ble_eq_true rfl⟩, Nat.le_of_ble_eq_true rfl, Nat.le_of_ble_eq_true rfl⟩ h 6 0 rfl rfl (st := []) rfl rfl (Nat.le_of_ble_eq_true rfl) dX6_move_73 rfl (fun r73 F73 G73 h => ?_)
                exact x_iret (wf := w6 cI cO a) K h dX6_move_76
            · replace h := h.2 c49
              refine x_aload_n (pc' := 53) K dX6_move_52 0 rfl rfl ?_
              refine x_iconst (pc' := 54) (v := 2) K dX6_move_53 (by decide) rfl ?_
              refine x_callI (pc' := 57) K (mX6_error l D cI cO a _) rfl gX6_move_X6_error rfl dsX6_error ⟨rfl, rfl, ⟨Nat.le_of_ble_eq_true rfl, Nat.le_of_ble_eq_true rfl⟩, Nat.le_of_ble_eq_true rfl, Nat.le_of_ble_eq_true rfl⟩ h 6 0 rfl rfl (st := []) rfl rfl (Nat.le_of_ble_eq_true rfl) dX6_move_54 rfl (fun r54 F54 G54 h => ?_)
              exact x_iret (wf := w6 cI cO a) K h dX6_move_57
    · replace h := h.2 c11
      refine x_aload_n (pc' := 15) K dX6_move_14 0 rfl rfl ?_
      refine x_iconst (pc' := 16) (v := 1) K dX6_move_15 (by decide) rfl ?_
      refine x_callI (pc' := 19) K (mX6_error l D cI cO a _) rfl gX6_move_X6_error rfl dsX6_error ⟨rfl, rfl, ⟨Nat.le_of_ble_eq_true rfl, Nat.le_of_ble_eq_true rfl⟩, Nat.le_of_ble_eq_true rfl, Nat.le_of_ble_eq_true rfl⟩ h 6 0 rfl rfl (st := []) rfl rfl (Nat.le_of_ble_eq_true rfl) dX6_move_16 rfl (fun r16 F16 G16 h => ?_)
      exact x_iret (wf := w6 cI cO a) K h dX6_move_19
end
