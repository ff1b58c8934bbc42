section
variable {p : Program} {l : Launch} {e : Env} {s : State} {m : MethodId} {args : Array Value} {below : List Frame} {meth : Method} {c : Code} {D : va_G} {cI cO : ClassId} {A : Nat → Prop} {a : Nat → Nat} {d : Nat}
/-! X6_gain -/
abbrev rmX6_gain : Room := { frames := 8, cells := 0, slots := 0, locals := 242 }
theorem dsX6_gain : xDesc yX6_gain 2 := by decide +kernel
theorem uX6_gain_f41 : Cond.fieldLink RX6 41 "PigNinths" "side" "LPigNinths$World;" ∈ wsX6_gain := by decide +kernel
theorem hinX6_gain_X6 : ∀ w ∈ wsX60, w ∈ wsX6_gain := by decide +kernel
theorem uX6_gain_f10 : Cond.fieldLink RX6 10 "PigNinths" "now" "LPigNinths$World;" ∈ wsX6_gain := by decide +kernel
theorem uX6_gain_f44 : Cond.fieldLink RX6 44 "PigNinths" "trial" "LPigNinths$World;" ∈ wsX6_gain := by decide +kernel
theorem uX6_gain_f195 : Cond.fieldLink RX6 195 "PigNinths$World" "purse" "[I" ∈ wsX6_gain := by decide +kernel
theorem hinX6_gain_X5 : ∀ w ∈ wsX50, w ∈ wsX6_gain := by decide +kernel
def qX6_gain (x1 : Int32) (x2 : Int32) (F : xF) (G : xA) (Q : Int32 → xF → xA → Prop) : Prop := qX6_isFarmer x1 (fun r1 => ((r1 = 0 → qX6_error (1 : Int32) F G (fun r21 F21 G21 => Q r21 F21 G21)) ∧ (¬ r1 = 0 → qX6_isFarmer x2 (fun r8 => ((r8 = 0 → qX6_error (1 : Int32) F G (fun r21 F21 G21 => Q r21 F21 G21)) ∧ (¬ r8 = 0 → ((¬ x1 = x2 → qX5_takeFrom  (xcat 7 (xsub F 14) (xsub F 0)) (xcat 14 (xsub G 28) (xsub G 0)) (fun F33 G33 => (∀ E33 : xF, E33 = (xspl (xspl F 14 7 F33) 0 7 (xsub F33 7)) → (∀ H33 : xA, H33 = (xspl (xspl G 28 14 G33) 0 14 (xsub G33 14)) → qX5_goOn (18 : Int32) (xsub E33 14) (xsub H33 28) (fun r42 F42 G42 => (∀ E42 : xF, E42 = (xspl E33 14 7 F42) → (∀ H42 : xA, H42 = (xspl H33 28 14 G42) → qX5_takeFrom  (xcat 7 (xsub E42 21) (xsub E42 0)) (xcat 14 (xsub H42 42) (xsub H42 0)) (fun F54 G54 => (∀ E54 : xF, E54 = (xspl (xspl E42 21 7 F54) 0 7 (xsub F54 7)) → (∀ H54 : xA, H54 = (xspl (xspl H42 42 14 G54) 0 14 (xsub G54 14)) → qX5_changeTurns x1 x2 (xsub E54 21) (xsub H54 42) (fun F63 G63 => (∀ E63 : xF, E63 = (xspl E54 21 7 F63) → (∀ H63 : xA, H63 = (xspl H54 42 14 G63) → qX5_goOn (18 : Int32) (xsub E63 21) (xsub H63 42) (fun r72 F72 G72 => (∀ E72 : xF, E72 = (xspl E63 21 7 F72) → (∀ H72 : xA, H72 = (xspl H63 42 14 G72) → (vp_in x1 9) ∧ (vp_in x1 9) ∧ Q ((H72 46 x1.toNatClampNeg) - (H72 32 x1.toNatClampNeg)) E72 H72)))))))))))))))) ∧ (x1 = x2 → qX6_error (1 : Int32) F G (fun r21 F21 G21 => Q r21 F21 G21)))))))))
set_option maxHeartbeats 4000000 in
set_option maxRecDepth 100000 in
theorem mX6_gain (l : Launch) (D : va_G) (cI cO : ClassId) (a : Nat → Nat)  (x1 : Int32) (x2 : Int32) : MI l yX6_gain wsX6_gain rmX6_gain D (xtys cI cO) [.ref (a 0), .int x1, .int x2] (w6 cI cO a) (qX6_gain x1 x2) := by
  refine MI_of (cc := cX6_gain) (maxL := 3) (own := RX6) (by decide) rfl rfl (Nat.le_of_ble_eq_true rfl) ?_
  intro p e s m args below meth c A F G Q h K
  refine x_locals [0, 1, 2] (L' := [(0, .ref (a 0)), (1, .int _), (2, .int _)]) rfl ?_
  refine x_iload_n (pc' := 1) K dX6_gain_0 1 rfl rfl ?_
  refine x_callS (pc' := 4) K (mX6_isFarmer l D cI cO a _) rfl gX6_gain_X6_isFarmer dsX6_isFarmer ⟨rfl, rfl, ⟨Nat.le_of_ble_eq_true rfl, Nat.le_of_ble_eq_true rfl⟩, Nat.le_of_ble_eq_true rfl, Nat.le_of_ble_eq_true rfl⟩ h (st := []) rfl rfl (Nat.le_of_ble_eq_true rfl) dX6_gain_1 rfl (fun r1 h => ?_)
  refine x_if_eq (tgt := 19) (pc' := 7) K dX6_gain_4 rfl rfl (fun c4 => ?_) (fun c4 => ?_)
  · replace h := h.1 c4
    refine x_aload_n (pc' := 20) K dX6_gain_19 0 rfl rfl ?_
    refine x_iconst (pc' := 21) (v := 1) K dX6_gain_20 (by decide) rfl ?_
    refine x_callI (pc' := 24) K (mX6_error l D cI cO a _) rfl gX6_gain_X6_error rfl dsX6_error ⟨rfl, rfl, ⟨Nat.le_of_ble_eq_true rfl, Nat.le_of_ble_eq_true rfl⟩, Nat.le_of_ble_eq_true rfl, Nat.le_of_ble_eq_true rfl⟩ h 6 0 rfl rfl (st := []) rfl rfl (Nat.le_of_ble_eq_true rfl) dX6_gain_21 rfl (fun r21 F21 G21 h => ?_)
    exact x_iret (wf := w6 cI cO a) K h dX6_gain_24
  · replace h := h.2 c4
    refine x_iload_n (pc' := 8) K dX6_gain_7 2 rfl rfl ?_
    refine x_callS (pc' := 11) K (mX6_isFarmer l D cI cO a _) rfl gX6_gain_X6_isFarmer dsX6_isFarmer ⟨rfl, rfl, ⟨Nat.le_of_ble_eq_true rfl, Nat.le_of_ble_eq_true rfl⟩, Nat.le_of_ble_eq_true rfl, Nat.le_of_ble_eq_true rfl⟩ h (st := []) rfl rfl (Nat.le_of_ble_eq_true rfl) dX6_gain_8 rfl (fun r8 h => ?_)
    refine x_if_eq (tgt := 19) (pc' := 14) K dX6_gain_11 rfl rfl (fun c11 => ?_) (fun c11 => ?_)
    · replace h := h.1 c11
      refine x_aload_n (pc' := 20) K dX6_gain_19 0 rfl rfl ?_
      refine x_iconst (pc' := 21) (v := 1) K dX6_gain_20 (by decide) rfl ?_
      refine x_callI (pc' := 24) K (mX6_error l D cI cO a _) rfl gX6_gain_X6_error rfl dsX6_error ⟨rfl, rfl, ⟨Nat.le_of_ble_eq_true rfl, Nat.le_of_ble_eq_true rfl⟩, Nat.le_of_ble_eq_true rfl, Nat.le_of_ble_eq_true rfl⟩ h 6 0 rfl rfl (st := []) rfl rfl (Nat.le_of_ble_eq_true rfl) dX6_gain_21 rfl (fun r21 F21 G21 h => ?_)
      exact x_iret (wf := w6 cI cO a) K h dX6_gain_24
    · replace h := h.2 c11
      refine x_iload_n (pc' := 15) K dX6_gain_14 1 rfl rfl ?_
      refine x_iload_n (pc' := 16) K dX6_gain_15 2 rfl rfl ?_
      refine x_icmp_ne (tgt := 25) (pc' := 19) K dX6_gain_16 rfl rfl (fun c16 => ?_) (fun c16 => ?_)
      · replace h := h.1 c16
        refine x_aload_n (pc' := 26) K dX6_gain_25 0 rfl rfl ?_
        refine xw6_0g_side (pc' := 29) K hinX6_gain_X6 uX6_gain_f41 dX6_gain_26 rfl ?_
        refine x_aload_n (pc' := 30) K dX6_gain_29 0 rfl rfl ?_
        refine xw6_0g_now (pc' := 33) K hinX6_gain_X6 uX6_gain_f10 dX6_gain_30 rfl ?_
        refine x_subV (pc' := 36) (wn := fun F' G' => w6 cI cO a (xspl (xspl F 14 7 F') 0 7 (xsub F' 7)) (xspl (xspl G 28 14 G') 0 14 (xsub G' 14))) K (mX5_takeFrom l D cI cO (xcat 19 (xsub a 39) (xsub a 1))) rfl gX6_gain_X5_takeFrom rfl dsX5_takeFrom ⟨rfl, rfl, ⟨Nat.le_of_ble_eq_true rfl, Nat.le_of_ble_eq_true rfl⟩, Nat.le_of_ble_eq_true rfl, Nat.le_of_ble_eq_true rfl⟩ h 5 0 rfl rfl (xpl15 cI cO a _ _) (fun F' G' => xpr15 cI cO a _ _ F' G') (st := []) rfl rfl (Nat.le_of_ble_eq_true rfl) dX6_gain_33 rfl (fun F33 G33 h => ?_)
        obtain ⟨E33, eE33⟩ : ∃ x : xF, x = (xspl (xspl F 14 7 F33) 0 7 (xsub F33 7)) := ⟨_, rfl⟩
        obtain ⟨H33, eH33⟩ : ∃ x : xA, x = (xspl (xspl G 28 14 G33) 0 14 (xsub G33 14)) := ⟨_, rfl⟩
        refine x_weq (w' := w6 cI cO a E33 H33) (by subst eE33; subst eH33; rfl) ?_
        replace h := h E33 eE33
        replace h := h H33 eH33
        refine x_aload_n (pc' := 37) K dX6_gain_36 0 rfl rfl ?_
        refine xw6_0g_side (pc' := 40) K hinX6_gain_X6 uX6_gain_f41 dX6_gain_37 rfl ?_
        refine x_bipush (pc' := 42) (v := 18) K dX6_gain_40 (by decide) rfl ?_
        refine x_subI (pc' := 45) (wn := fun F' G' => w6 cI cO a (xspl E33 14 7 F') (xspl H33 28 14 G')) K (mX5_goOn l D cI cO (xsub a 39) _) rfl gX6_gain_X5_goOn rfl dsX5_goOn ⟨rfl, rfl, ⟨Nat.le_of_ble_eq_true rfl, Nat.le_of_ble_eq_true rfl⟩, Nat.le_of_ble_eq_true rfl, Nat.le_of_ble_eq_true rfl⟩ h 5 0 rfl rfl (xpl16 cI cO a _ _) (fun F' G' => xpr16 cI cO a _ _ F' G') (st := []) rfl rfl (Nat.le_of_ble_eq_true rfl) dX6_gain_42 rfl (fun r42 F42 G42 h => ?_)
        obtain ⟨E42, eE42⟩ : ∃ x : xF, x = (xspl E33 14 7 F42) := ⟨_, rfl⟩
        obtain ⟨H42, eH42⟩ : ∃ x : xA, x = (xspl H33 28 14 G42) := ⟨_, rfl⟩
        refine x_weq (w' := w6 cI cO a E42 H42) (by subst eE42; subst eH42; rfl) ?_
        replace h := h E42 eE42
        replace h := h H42 eH42
        refine x_pop (pc' := 46) K dX6_gain_45 rfl rfl ?_
        refine x_aload_n (pc' := 47) K dX6_gain_46 0 rfl rfl ?_
        refine xw6_0g_trial (pc' := 50) K hinX6_gain_X6 uX6_gain_f44 dX6_gain_47 rfl ?_
        refine x_aload_n (pc' := 51) K dX6_gain_50 0 rfl rfl ?_
        refine xw6_0g_now (pc' := 54) K hinX6_gain_X6 uX6_gain_f10 dX6_gain_51 rfl ?_
        refine x_subV (pc' := 57) (wn := fun F' G' => w6 cI cO a (xspl (xspl E42 21 7 F') 0 7 (xsub F' 7)) (xspl (xspl H42 42 14 G') 0 14 (xsub G' 14))) K (mX5_takeFrom l D cI cO (xcat 19 (xsub a 58) (xsub a 1))) rfl gX6_gain_X5_takeFrom rfl dsX5_takeFrom ⟨rfl, rfl, ⟨Nat.le_of_ble_eq_true rfl, Nat.le_of_ble_eq_true rfl⟩, Nat.le_of_ble_eq_true rfl, Nat.le_of_ble_eq_true rfl⟩ h 5 0 rfl rfl (xpl19 cI cO a _ _) (fun F' G' => xpr19 cI cO a _ _ F' G') (st := []) rfl rfl (Nat.le_of_ble_eq_true rfl) dX6_gain_54 rfl (fun F54 G54 h => ?_)
        obtain ⟨E54, eE54⟩ : ∃ x : xF, x = (xspl (xspl E42 21 7 F54) 0 7 (xsub F54 7)) := ⟨_, rfl⟩
        obtain ⟨H54, eH54⟩ : ∃ x : xA, x = (xspl (xspl H42 42 14 G54) 0 14 (xsub G54 14)) := ⟨_, rfl⟩
        refine x_weq (w' := w6 cI cO a E54 H54) (by subst eE54; subst eH54; rfl) ?_
        replace h := h E54 eE54
        replace h := h H54 eH54
        refine x_aload_n (pc' := 58) K dX6_gain_57 0 rfl rfl ?_
        refine xw6_0g_trial (pc' := 61) K hinX6_gain_X6 uX6_gain_f44 dX6_gain_58 rfl ?_
        refine x_iload_n (pc' := 62) K dX6_gain_61 1 rfl rfl ?_
        refine x_iload_n (pc' := 63) K dX6_gain_62 2 rfl rfl ?_
        refine x_subV (pc' := 66) (wn := fun F' G' => w6 cI cO a (xspl E54 21 7 F') (xspl H54 42 14 G')) K (mX5_changeTurns l D cI cO (xsub a 58) _ _) rfl gX6_gain_X5_changeTurns rfl dsX5_changeTurns ⟨rfl, rfl, ⟨Nat.le_of_ble_eq_true rfl, Nat.le_of_ble_eq_true rfl⟩, Nat.le_of_ble_eq_true rfl, Nat.le_of_ble_eq_true rfl⟩ h 5 0 rfl rfl (xpl18 cI cO a _ _) (fun F' G' => xpr18 cI cO a _ _ F' G') (st := []) rfl rfl (Nat.le_of_ble_eq_true rfl) dX6_gain_63 rfl (fun F63 G63 h => ?_)
        obtain ⟨E63, eE63⟩ : ∃ x : xF, x = (xspl E54 21 7 F63) := ⟨_, rfl⟩
        obtain ⟨H63, eH63⟩ : ∃ x : xA, x = (xspl H54 42 14 G63) := ⟨_, rfl⟩
        refine x_weq (w' := w6 cI cO a E63 H63) (by subst eE63; subst eH63; rfl) ?_
        replace h := h E63 eE63
        replace h := h H63 eH63
        refine x_aload_n (pc' := 67) K dX6_gain_66 0 rfl rfl ?_
        refine xw6_0g_trial (pc' := 70) K hinX6_gain_X6 uX6_gain_f44 dX6_gain_67 rfl ?_
        refine x_bipush (pc' := 72) (v := 18) K dX6_gain_70 (by decide) rfl ?_
        refine x_subI (pc' := 75) (wn := fun F' G' => w6 cI cO a (xspl E63 21 7 F') (xspl H63 42 14 G')) K (mX5_goOn l D cI cO (xsub a 58) _) rfl gX6_gain_X5_goOn rfl dsX5_goOn ⟨rfl, rfl, ⟨Nat.le_of_ble_eq_true rfl, Nat.le_of_ble_eq_true rfl⟩, Nat.le_of_ble_eq_true rfl, Nat.le_of_ble_eq_true rfl⟩ h 5 0 rfl rfl (xpl18 cI cO a _ _) (fun F' G' => xpr18 cI cO a _ _ F' G') (st := []) rfl rfl (Nat.le_of_ble_eq_true rfl) dX6_gain_72 rfl (fun r72 F72 G72 h => ?_)
        obtain ⟨E72, eE72⟩ : ∃ x : xF, x = (xspl E63 21 7 F72) := ⟨_, rfl⟩
        obtain ⟨H72, eH72⟩ : ∃ x : xA, x = (xspl H63 42 14 G72) := ⟨_, rfl⟩
        refine x_weq (w' := w6 cI cO a E72 H72) (by subst eE72; subst eH72; rfl) ?_
        replace h := h E72 eE72
        replace h := h H72 eH72
        refine x_pop (pc' := 76) K dX6_gain_75 rfl rfl ?_
        refine x_aload_n (pc' := 77) K dX6_gain_76 0 rfl rfl ?_
        refine xw6_0g_trial (pc' := 80) K hinX6_gain_X6 uX6_gain_f44 dX6_gain_77 rfl ?_
        refine xw6_58g_purse (pc' := 83) K hinX6_gain_X5 uX6_gain_f195 dX6_gain_80 rfl ?_
        refine x_iload_n (pc' := 84) K dX6_gain_83 1 rfl rfl ?_
        obtain ⟨i84, h⟩ := h
        refine xw6_63l (pc' := 85) K i84 rfl dX6_gain_84 rfl ?_
        refine x_aload_n (pc' := 86) K dX6_gain_85 0 rfl rfl ?_
        refine xw6_0g_side (pc' := 89) K hinX6_gain_X6 uX6_gain_f41 dX6_gain_86 rfl ?_
        refine xw6_39g_purse (pc' := 92) K hinX6_gain_X5 uX6_gain_f195 dX6_gain_89 rfl ?_
        refine x_iload_n (pc' := 93) K dX6_gain_92 1 rfl rfl ?_
        obtain ⟨i93, h⟩ := h
        refine xw6_44l (pc' := 94) K i93 rfl dX6_gain_93 rfl ?_
        refine x_isub (pc' := 95) K dX6_gain_94 rfl ?_
        exact x_iret (wf := w6 cI cO a) K h dX6_gain_95
      · replace h := h.2 c16
        refine x_aload_n (pc' := 20) K dX6_gain_19 0 rfl rfl ?_
        refine x_iconst (pc' := 21) (v := 1) K dX6_gain_20 (by decide) rfl ?_
        refine x_callI (pc' := 24) K (mX6_error l D cI cO a _) rfl gX6_gain_X6_error rfl dsX6_error ⟨rfl, rfl, ⟨Nat.le_of_ble_eq_true rfl, Nat.le_of_ble_eq_true rfl⟩, Nat.le_of_ble_eq_true rfl, Nat.le_of_ble_eq_true rfl⟩ h 6 0 rfl rfl (st := []) rfl rfl (Nat.le_of_ble_eq_true rfl) dX6_gain_21 rfl (fun r21 F21 G21 h => ?_)
        exact x_iret (wf := w6 cI cO a) K h dX6_gain_24
/-! X6_bestTrade -/
abbrev rmX6_bestTrade : Room := { frames := 8, cells := 0, slots := 0, locals := 242 }
theorem dsX6_bestTrade : xDesc yX6_bestTrade 0 := by decide +kernel
theorem uX6_bestTrade_f41 : Cond.fieldLink RX6 41 "PigNinths" "side" "LPigNinths$World;" ∈ wsX6_bestTrade := by decide +kernel
theorem hinX6_bestTrade_X6 : ∀ w ∈ wsX60, w ∈ wsX6_bestTrade := by decide +kernel
theorem uX6_bestTrade_f10 : Cond.fieldLink RX6 10 "PigNinths" "now" "LPigNinths$World;" ∈ wsX6_bestTrade := by decide +kernel
theorem uX6_bestTrade_f44 : Cond.fieldLink RX6 44 "PigNinths" "trial" "LPigNinths$World;" ∈ wsX6_bestTrade := by decide +kernel
theorem uX6_bestTrade_f195 : Cond.fieldLink RX6 195 "PigNinths$World" "purse" "[I" ∈ wsX6_bestTrade := by decide +kernel
theorem hinX6_bestTrade_X5 : ∀ w ∈ wsX50, w ∈ wsX6_bestTrade := by decide +kernel
def qX6_bestTrade_38 (Q : Int32 → xF → xA → Prop) (k27 : Int32 → Int32 → Int32 → xF → xA → Prop) : Nat → Int32 → Int32 → Int32 → Int32 → xF → xA → Prop
  | 0, _, _, _, _, _, _ => False
  | n + 1, x1, x2, x3, x4, F, G => (((9 : Int32) ≤ x4 → k27 x1 x2 (x3 + (1 : Int32)) F G) ∧ (¬ (9 : Int32) ≤ x4 → qX5_takeFrom  (xcat 7 (xsub F 21) (xsub F 0)) (xcat 14 (xsub G 42) (xsub G 0)) (fun F53 G53 => (∀ E53 : xF, E53 = (xspl (xspl F 21 7 F53) 0 7 (xsub F53 7)) → (∀ H53 : xA, H53 = (xspl (xspl G 42 14 G53) 0 14 (xsub G53 14)) → qX5_changeTurns x3 x4 (xsub E53 21) (xsub H53 42) (fun F63 G63 => (∀ E63 : xF, E63 = (xspl E53 21 7 F63) → (∀ H63 : xA, H63 = (xspl H53 42 14 G63) → qX5_goOn (18 : Int32) (xsub E63 21) (xsub H63 42) (fun r72 F72 G72 => (∀ E72 : xF, E72 = (xspl E63 21 7 F72) → (∀ H72 : xA, H72 = (xspl H63 42 14 G72) → (vp_in x3 9) ∧ (vp_in x3 9) ∧ (vp_in x4 9) ∧ (vp_in x4 9) ∧ ((((H72 46 x3.toNatClampNeg) - (H72 32 x3.toNatClampNeg)) ≤ 0 → qX6_bestTrade_38 Q k27 n x1 x2 x3 (x4 + (1 : Int32)) E72 H72) ∧ (¬ ((H72 46 x3.toNatClampNeg) - (H72 32 x3.toNatClampNeg)) ≤ 0 → ((((H72 46 x4.toNatClampNeg) - (H72 32 x4.toNatClampNeg)) ≤ 0 → qX6_bestTrade_38 Q k27 n x1 x2 x3 (x4 + (1 : Int32)) E72 H72) ∧ (¬ ((H72 46 x4.toNatClampNeg) - (H72 32 x4.toNatClampNeg)) ≤ 0 → (((((H72 46 x3.toNatClampNeg) - (H72 32 x3.toNatClampNeg)) + ((H72 46 x4.toNatClampNeg) - (H72 32 x4.toNatClampNeg))) ≤ x2 → qX6_bestTrade_38 Q k27 n x1 x2 x3 (x4 + (1 : Int32)) E72 H72) ∧ (¬ (((H72 46 x3.toNatClampNeg) - (H72 32 x3.toNatClampNeg)) + ((H72 46 x4.toNatClampNeg) - (H72 32 x4.toNatClampNeg))) ≤ x2 → qX6_bestTrade_38 Q k27 n (((10 : Int32) * x3) + x4) (((H72 46 x3.toNatClampNeg) - (H72 32 x3.toNatClampNeg)) + ((H72 46 x4.toNatClampNeg) - (H72 32 x4.toNatClampNeg))) x3 (x4 + (1 : Int32)) E72 H72)))))))))))))))))
def qX6_bestTrade_27 (Q : Int32 → xF → xA → Prop) : Nat → Int32 → Int32 → Int32 → xF → xA → Prop
  | 0, _, _, _, _, _ => False
  | n + 1, x1, x2, x3, F, G => (((9 : Int32) ≤ x3 → ((0 ≤ x1 → Q x1 F G) ∧ (¬ 0 ≤ x1 → qX6_error (2 : Int32) F G (fun r171 F171 G171 => Q r171 F171 G171)))) ∧ (¬ (9 : Int32) ≤ x3 → ∃ j38, qX6_bestTrade_38 Q (fun x1 x2 x3 F G => qX6_bestTrade_27 Q n x1 x2 x3 F G) j38 x1 x2 x3 (x3 + (1 : Int32)) F G))
def qX6_bestTrade  (F : xF) (G : xA) (Q : Int32 → xF → xA → Prop) : Prop := qX5_takeFrom  (xcat 7 (xsub F 14) (xsub F 0)) (xcat 14 (xsub G 28) (xsub G 0)) (fun F8 G8 => (∀ E8 : xF, E8 = (xspl (xspl F 14 7 F8) 0 7 (xsub F8 7)) → (∀ H8 : xA, H8 = (xspl (xspl G 28 14 G8) 0 14 (xsub G8 14)) → qX5_goOn (18 : Int32) (xsub E8 14) (xsub H8 28) (fun r17 F17 G17 => (∀ E17 : xF, E17 = (xspl E8 14 7 F17) → (∀ H17 : xA, H17 = (xspl H8 28 14 G17) → ∃ j27, qX6_bestTrade_27 Q j27 (-1 : Int32) (0 : Int32) (0 : Int32) E17 H17))))))
set_option maxHeartbeats 4000000 in
set_option maxRecDepth 100000 in
theorem tX6_bestTrade_38 (K : XK p m c cX6_bestTrade 7 s args wsX6_bestTrade RX6 D (xtys cI cO) A meth (some .int)) {Q : Int32 → xF → xA → Prop} {k27 : Int32 → Int32 → Int32 → xF → xA → Prop} (hk27 : ∀ (x1 : Int32) (x2 : Int32) (x3 : Int32) (F : xF) (G : xA), k27 x1 x2 x3 F G → XJ p l e rmX6_bestTrade s m args below meth c 0 0 (MQ below (xQi D (w6 cI cO a) A Q) args s 0 0 A) D (xtys cI cO) A 7 (w6 cI cO a F G) 27 [(0, .ref (a 0)), (1, .int x1), (2, .int x2), (3, .int x3)] []) : ∀ (n : Nat), ∀ (x1 : Int32) (x2 : Int32) (x3 : Int32) (x4 : Int32) (F : xF) (G : xA), qX6_bestTrade_38 Q k27 n x1 x2 x3 x4 F G → XJ p l e rmX6_bestTrade s m args below meth c 0 0 (MQ below (xQi D (w6 cI cO a) A Q) args s 0 0 A) D (xtys cI cO) A 7 (w6 cI cO a F G) 38 [(0, .ref (a 0)), (1, .int x1), (2, .int x2), (3, .int x3), (4, .int x4)] [] := by
  intro n
  induction n with
  | zero =>
    intro x1 x2 x3 x4 F G h
    exact False.elim h
  | succ n ih =>
    intro x1 x2 x3 x4 F G h
    refine x_iload (pc' := 40) K dX6_bestTrade_38 4 rfl rfl ?_
    refine x_bipush (pc' := 42) (v := 9) K dX6_bestTrade_40 (by decide) rfl ?_
    refine x_icmp_ge (tgt := 159) (pc' := 45) K dX6_bestTrade_42 rfl rfl (fun c42 => ?_) (fun c42 => ?_)
    · replace h := h.1 c42
      refine x_iinc (pc' := 162) (v := _ + (1 : Int32)) K dX6_bestTrade_159 3 rfl rfl (by decide) [1, 2, 3, 0, 4] (L' := [(0, .ref (a 0)), (1, .int _), (2, .int _), (3, .int _), (4, .int _)]) rfl rfl ?_
      refine x_goto (tgt := 27) K dX6_bestTrade_162 rfl ?_
      refine x_locals [0, 1, 2, 3] (L' := [(0, .ref (a 0)), (1, .int _), (2, .int _), (3, .int _)]) rfl ?_
      exact hk27 _ _ _ _ _ h
    · replace h := h.2 c42
      refine x_aload_n (pc' := 46) K dX6_bestTrade_45 0 rfl rfl ?_
      refine xw6_0g_trial (pc' := 49) K hinX6_bestTrade_X6 uX6_bestTrade_f44 dX6_bestTrade_46 rfl ?_
      refine x_aload_n (pc' := 50) K dX6_bestTrade_49 0 rfl rfl ?_
      refine xw6_0g_now (pc' := 53) K hinX6_bestTrade_X6 uX6_bestTrade_f10 dX6_bestTrade_50 rfl ?_
      refine x_subV (pc' := 56) (wn := fun F' G' => w6 cI cO a (xspl (xspl F 21 7 F') 0 7 (xsub F' 7)) (xspl (xspl G 42 14 G') 0 14 (xsub G' 14))) K (mX5_takeFrom l D cI cO (xcat 19 (xsub a 58) (xsub a 1))) rfl gX6_bestTrade_X5_takeFrom rfl dsX5_takeFrom ⟨rfl, rfl, ⟨Nat.le_of_ble_eq_true rfl, Nat.le_of_ble_eq_true rfl⟩, Nat.le_of_ble_eq_true rfl, Nat.le_of_ble_eq_true rfl⟩ h 5 0 rfl rfl (xpl19 cI cO a _ _) (fun F' G' => xpr19 cI cO a _ _ F' G') (st := []) rfl rfl (Nat.le_of_ble_eq_true rfl) dX6_bestTrade_53 rfl (fun F53 G53 h => ?_)
      obtain ⟨E53, eE53⟩ : ∃ x : xF, x = (xspl (xspl F 21 7 F53) 0 7 (xsub F53 7)) := ⟨_, rfl⟩
      obtain ⟨H53, eH53⟩ : ∃ x : xA, x = (xspl (xspl G 42 14 G53) 0 14 (xsub G53 14)) := ⟨_, rfl⟩
      refine x_weq (w' := w6 cI cO a E53 H53) (by subst eE53; subst eH53; rfl) ?_
      replace h := h E53 eE53
      replace h := h H53 eH53
      refine x_aload_n (pc' := 57) K dX6_bestTrade_56 0 rfl rfl ?_
      refine xw6_0g_trial (pc' := 60) K hinX6_bestTrade_X6 uX6_bestTrade_f44 dX6_bestTrade_57 rfl ?_
      refine x_iload_n (pc' := 61) K dX6_bestTrade_60 3 rfl rfl ?_
      refine x_iload (pc' := 63) K dX6_bestTrade_61 4 rfl rfl ?_
      refine x_subV (pc' := 66) (wn := fun F' G' => w6 cI cO a (xspl E53 21 7 F') (xspl H53 42 14 G')) K (mX5_changeTurns l D cI cO (xsub a 58) _ _) rfl gX6_bestTrade_X5_changeTurns rfl dsX5_changeTurns ⟨rfl, rfl, ⟨Nat.le_of_ble_eq_true rfl, Nat.le_of_ble_eq_true rfl⟩, Nat.le_of_ble_eq_true rfl, Nat.le_of_ble_eq_true rfl⟩ h 5 0 rfl rfl (xpl18 cI cO a _ _) (fun F' G' => xpr18 cI cO a _ _ F' G') (st := []) rfl rfl (Nat.le_of_ble_eq_true rfl) dX6_bestTrade_63 rfl (fun F63 G63 h => ?_)
      obtain ⟨E63, eE63⟩ : ∃ x : xF, x = (xspl E53 21 7 F63) := ⟨_, rfl⟩
      obtain ⟨H63, eH63⟩ : ∃ x : xA, x = (xspl H53 42 14 G63) := ⟨_, rfl⟩
      refine x_weq (w' := w6 cI cO a E63 H63) (by subst eE63; subst eH63; rfl) ?_
      replace h := h E63 eE63
      replace h := h H63 eH63
      refine x_aload_n (pc' := 67) K dX6_bestTrade_66 0 rfl rfl ?_
      refine xw6_0g_trial (pc' := 70) K hinX6_bestTrade_X6 uX6_bestTrade_f44 dX6_bestTrade_67 rfl ?_
      refine x_bipush (pc' := 72) (v := 18) K dX6_bestTrade_70 (by decide) rfl ?_
      refine x_subI (pc' := 75) (wn := fun F' G' => w6 cI cO a (xspl E63 21 7 F') (xspl H63 42 14 G')) K (mX5_goOn l D cI cO (xsub a 58) _) rfl gX6_bestTrade_X5_goOn rfl dsX5_goOn ⟨rfl, rfl, ⟨Nat.le_of_ble_eq_true rfl, Nat.le_of_ble_eq_true rfl⟩, Nat.le_of_ble_eq_true rfl, Nat.le_of_ble_eq_true rfl⟩ h 5 0 rfl rfl (xpl18 cI cO a _ _) (fun F' G' => xpr18 cI cO a _ _ F' G') (st := []) rfl rfl (Nat.le_of_ble_eq_true rfl) dX6_bestTrade_72 rfl (fun r72 F72 G72 h => ?_)
      obtain ⟨E72, eE72⟩ : ∃ x : xF, x = (xspl E63 21 7 F72) := ⟨_, rfl⟩
      obtain ⟨H72, eH72⟩ : ∃ x : xA, x = (xspl H63 42 14 G72) := ⟨_, rfl⟩
      refine x_weq (w' := w6 cI cO a E72 H72) (by subst eE72; subst eH72; rfl) ?_
      replace h := h E72 eE72
      replace h := h H72 eH72
      refine x_pop (pc' := 76) K dX6_bestTrade_75 rfl rfl ?_
      refine x_aload_n (pc' := 77) K dX6_bestTrade_76 0 rfl rfl ?_
      refine xw6_0g_trial (pc' := 80) K hinX6_bestTrade_X6 uX6_bestTrade_f44 dX6_bestTrade_77 rfl ?_
      refine xw6_58g_purse (pc' := 83) K hinX6_bestTrade_X5 uX6_bestTrade_f195 dX6_bestTrade_80 rfl ?_
      refine x_iload_n (pc' := 84) K dX6_bestTrade_83 3 rfl rfl ?_
      obtain ⟨i84, h⟩ := h
      refine xw6_63l (pc' := 85) K i84 rfl dX6_bestTrade_84 rfl ?_
      refine x_aload_n (pc' := 86) K dX6_bestTrade_85 0 rfl rfl ?_
      refine xw6_0g_side (pc' := 89) K hinX6_bestTrade_X6 uX6_bestTrade_f41 dX6_bestTrade_86 rfl ?_
      refine xw6_39g_purse (pc' := 92) K hinX6_bestTrade_X5 uX6_bestTrade_f195 dX6_bestTrade_89 rfl ?_
      refine x_iload_n (pc' := 93) K dX6_bestTrade_92 3 rfl rfl ?_
      obtain ⟨i93, h⟩ := h
      refine xw6_44l (pc' := 94) K i93 rfl dX6_bestTrade_93 rfl ?_
      refine x_isub (pc' := 95) K dX6_bestTrade_94 rfl ?_
      refine x_istore (pc' := 97) (i := 5) K dX6_bestTrade_95 (by decide) [1, 2, 3, 4, 5, 0] (L' := [(0, .ref (a 0)), (1, .int _), (2, .int _), (3, .int _), (4, .int _), (5, .int _)]) rfl rfl ?_
      refine x_aload_n (pc' := 98) K dX6_bestTrade_97 0 rfl rfl ?_
      refine xw6_0g_trial (pc' := 101) K hinX6_bestTrade_X6 uX6_bestTrade_f44 dX6_bestTrade_98 rfl ?_
      refine xw6_58g_purse (pc' := 104) K hinX6_bestTrade_X5 uX6_bestTrade_f195 dX6_bestTrade_101 rfl ?_
      refine x_iload (pc' := 106) K dX6_bestTrade_104 4 rfl rfl ?_
      obtain ⟨i106, h⟩ := h
      refine xw6_63l (pc' := 107) K i106 rfl dX6_bestTrade_106 rfl ?_
      refine x_aload_n (pc' := 108) K dX6_bestTrade_107 0 rfl rfl ?_
      refine xw6_0g_side (pc' := 111) K hinX6_bestTrade_X6 uX6_bestTrade_f41 dX6_bestTrade_108 rfl ?_
      refine xw6_39g_purse (pc' := 114) K hinX6_bestTrade_X5 uX6_bestTrade_f195 dX6_bestTrade_111 rfl ?_
      refine x_iload (pc' := 116) K dX6_bestTrade_114 4 rfl rfl ?_
      obtain ⟨i116, h⟩ := h
      refine xw6_44l (pc' := 117) K i116 rfl dX6_bestTrade_116 rfl ?_
      refine x_isub (pc' := 118) K dX6_bestTrade_117 rfl ?_
      refine x_istore (pc' := 120) (i := 6) K dX6_bestTrade_118 (by decide) [1, 2, 3, 4, 5, 6, 0] (L' := [(0, .ref (a 0)), (1, .int _), (2, .int _), (3, .int _), (4, .int _), (5, .int _), (6, .int _)]) rfl rfl ?_
      refine x_iload (pc' := 122) K dX6_bestTrade_120 5 rfl rfl ?_
      refine x_if_le (tgt := 153) (pc' := 125) K dX6_bestTrade_122 rfl rfl (fun c122 => ?_) (fun c122 => ?_)
      · replace h := h.1 c122
        refine x_iinc (pc' := 156) (v := _ + (1 : Int32)) K dX6_bestTrade_153 4 rfl rfl (by decide) [1, 2, 3, 4, 0, 5, 6] (L' := [(0, .ref (a 0)), (1, .int _), (2, .int _), (3, .int _), (4, .int _), (5, .int _), (6, .int _)]) rfl rfl ?_
        refine x_goto (tgt := 38) K dX6_bestTrade_156 rfl ?_
        refine x_locals [0, 1, 2, 3, 4] (L' := [(0, .ref (a 0)), (1, .int _), (2, .int _), (3, .int _), (4, .int _)]) rfl ?_
        exact ih _ _ _ _ _ _ h
      · replace h := h.2 c122
        refine x_iload (pc' := 127) K dX6_bestTrade_125 6 rfl rfl ?_
        refine x_if_le (tgt := 153) (pc' := 130) K dX6_bestTrade_127 rfl rfl (fun c127 => ?_) (fun c127 => ?_)
        · replace h := h.1 c127
          refine x_iinc (pc' := 156) (v := _ + (1 : Int32)) K dX6_bestTrade_153 4 rfl rfl (by decide) [1, 2, 3, 4, 0, 5, 6] (L' := [(0, .ref (a 0)), (1, .int _), (2, .int _), (3, .int _), (4, .int _), (5, .int _), (6, .int _)]) rfl rfl ?_
          refine x_goto (tgt := 38) K dX6_bestTrade_156 rfl ?_
          refine x_locals [0, 1, 2, 3, 4] (L' := [(0, .ref (a 0)), (1, .int _), (2, .int _), (3, .int _), (4, .int _)]) rfl ?_
          exact ih _ _ _ _ _ _ h
        · replace h := h.2 c127
          refine x_iload (pc' := 132) K dX6_bestTrade_130 5 rfl rfl ?_
          refine x_iload (pc' := 134) K dX6_bestTrade_132 6 rfl rfl ?_
          refine x_iadd (pc' := 135) K dX6_bestTrade_134 rfl ?_
          refine x_iload_n (pc' := 136) K dX6_bestTrade_135 2 rfl rfl ?_
          refine x_icmp_le (tgt := 153) (pc' := 139) K dX6_bestTrade_136 rfl rfl (fun c136 => ?_) (fun c136 => ?_)
          · replace h := h.1 c136
            refine x_iinc (pc' := 156) (v := _ + (1 : Int32)) K dX6_bestTrade_153 4 rfl rfl (by decide) [1, 2, 3, 4, 0, 5, 6] (L' := [(0, .ref (a 0)), (1, .int _), (2, .int _), (3, .int _), (4, .int _), (5, .int _), (6, .int _)]) rfl rfl ?_
            refine x_goto (tgt := 38) K dX6_bestTrade_156 rfl ?_
            refine x_locals [0, 1, 2, 3, 4] (L' := [(0, .ref (a 0)), (1, .int _), (2, .int _), (3, .int _), (4, .int _)]) rfl ?_
            exact ih _ _ _ _ _ _ h
          · replace h := h.2 c136
            refine x_iload (pc' := 141) K dX6_bestTrade_139 5 rfl rfl ?_
            refine x_iload (pc' := 143) K dX6_bestTrade_141 6 rfl rfl ?_
            refine x_iadd (pc' := 144) K dX6_bestTrade_143 rfl ?_
            refine x_istore_n (pc' := 145) (i := 2) K dX6_bestTrade_144 rfl (by decide) [1, 2, 0, 3, 4, 5, 6] (L' := [(0, .ref (a 0)), (1, .int _), (2, .int _), (3, .int _), (4, .int _), (5, .int _), (6, .int _)]) rfl rfl ?_
            refine x_bipush (pc' := 147) (v := 10) K dX6_bestTrade_145 (by decide) rfl ?_
            refine x_iload_n (pc' := 148) K dX6_bestTrade_147 3 rfl rfl ?_
            refine x_imul (pc' := 149) K dX6_bestTrade_148 rfl ?_
            refine x_iload (pc' := 151) K dX6_bestTrade_149 4 rfl rfl ?_
            refine x_iadd (pc' := 152) K dX6_bestTrade_151 rfl ?_
            refine x_istore_n (pc' := 153) (i := 1) K dX6_bestTrade_152 rfl (by decide) [1, 0, 2, 3, 4, 5, 6] (L' := [(0, .ref (a 0)), (1, .int _), (2, .int _), (3, .int _), (4, .int _), (5, .int _), (6, .int _)]) rfl rfl ?_
            refine x_iinc (pc' := 156) (v := _ + (1 : Int32)) K dX6_bestTrade_153 4 rfl rfl (by decide) [1, 2, 3, 4, 0, 5, 6] (L' := [(0, .ref (a 0)), (1, .int _), (2, .int _), (3, .int _), (4, .int _), (5, .int _), (6, .int _)]) rfl rfl ?_
            refine x_goto (tgt := 38) K dX6_bestTrade_156 rfl ?_
            refine x_locals [0, 1, 2, 3, 4] (L' := [(0, .ref (a 0)), (1, .int _), (2, .int _), (3, .int _), (4, .int _)]) rfl ?_
            exact ih _ _ _ _ _ _ h
set_option maxHeartbeats 4000000 in
set_option maxRecDepth 100000 in
theorem tX6_bestTrade_27 (K : XK p m c cX6_bestTrade 7 s args wsX6_bestTrade RX6 D (xtys cI cO) A meth (some .int)) {Q : Int32 → xF → xA → Prop} : ∀ (n : Nat), ∀ (x1 : Int32) (x2 : Int32) (x3 : Int32) (F : xF) (G : xA), qX6_bestTrade_27 Q n x1 x2 x3 F G → XJ p l e rmX6_bestTrade s m args below meth c 0 0 (MQ below (xQi D (w6 cI cO a) A Q) args s 0 0 A) D (xtys cI cO) A 7 (w6 cI cO a F G) 27 [(0, .ref (a 0)), (1, .int x1), (2, .int x2), (3, .int x3)] [] := by
  intro n
  induction n with
  | zero =>
    intro x1 x2 x3 F G h
    exact False.elim h
  | succ n ih =>
    intro x1 x2 x3 F G h
    refine x_iload_n (pc' := 28) K dX6_bestTrade_27 3 rfl rfl ?_
    refine x_bipush (pc' := 30) (v := 9) K dX6_bestTrade_28 (by decide) rfl ?_
    refine x_icmp_ge (tgt := 165) (pc' := 33) K dX6_bestTrade_30 rfl rfl (fun c30 => ?_) (fun c30 => ?_)
    · replace h := h.1 c30
      refine x_iload_n (pc' := 166) K dX6_bestTrade_165 1 rfl rfl ?_
      refine x_if_ge (tgt := 177) (pc' := 169) K dX6_bestTrade_166 rfl rfl (fun c166 => ?_) (fun c166 => ?_)
      · replace h := h.1 c166
        refine x_iload_n (pc' := 178) K dX6_bestTrade_177 1 rfl rfl ?_
        exact x_iret (wf := w6 cI cO a) K h dX6_bestTrade_178
      · replace h := h.2 c166
        refine x_aload_n (pc' := 170) K dX6_bestTrade_169 0 rfl rfl ?_
        refine x_iconst (pc' := 171) (v := 2) K dX6_bestTrade_170 (by decide) rfl ?_
        refine x_callI (pc' := 174) K (mX6_error l D cI cO a _) rfl gX6_bestTrade_X6_error rfl dsX6_error ⟨rfl, rfl, ⟨Nat.le_of_ble_eq_true rfl, Nat.le_of_ble_eq_true rfl⟩, Nat.le_of_ble_eq_true rfl, Nat.le_of_ble_eq_true rfl⟩ h 6 0 rfl rfl (st := []) rfl rfl (Nat.le_of_ble_eq_true rfl) dX6_bestTrade_171 rfl (fun r171 F171 G171 h => ?_)
        refine x_goto (tgt := 178) K dX6_bestTrade_174 rfl ?_
        exact x_iret (wf := w6 cI cO a) K h dX6_bestTrade_178
    · replace h := h.2 c30
      refine x_iload_n (pc' := 34) K dX6_bestTrade_33 3 rfl rfl ?_
      refine x_iconst (pc' := 35) (v := 1) K dX6_bestTrade_34 (by decide) rfl ?_
      refine x_iadd (pc' := 36) K dX6_bestTrade_35 rfl ?_
      refine x_istore (pc' := 38) (i := 4) K dX6_bestTrade_36 (by decide) [1, 2, 3, 4, 0] (L' := [(0, .ref (a 0)), (1, .int _), (2, .int _), (3, .int _), (4, .int _)]) rfl rfl ?_
      obtain ⟨n38, h⟩ := h
      exact tX6_bestTrade_38 K (fun x1 x2 x3 F G h => ih x1 x2 x3 F G h) n38 _ _ _ _ _ _ h
set_option maxHeartbeats 4000000 in
set_option maxRecDepth 100000 in
theorem mX6_bestTrade (l : Launch) (D : va_G) (cI cO : ClassId) (a : Nat → Nat)   : MI l yX6_bestTrade wsX6_bestTrade rmX6_bestTrade D (xtys cI cO) [.ref (a 0)] (w6 cI cO a) qX6_bestTrade := by
  refine MI_of (cc := cX6_bestTrade) (maxL := 7) (own := RX6) (by decide) rfl rfl (Nat.le_of_ble_eq_true rfl) ?_
  intro p e s m args below meth c A F G Q h K
  refine x_locals [0] (L' := [(0, .ref (a 0))]) rfl ?_
  refine x_aload_n (pc' := 1) K dX6_bestTrade_0 0 rfl rfl ?_
  refine xw6_0g_side (pc' := 4) K hinX6_bestTrade_X6 uX6_bestTrade_f41 dX6_bestTrade_1 rfl ?_
  refine x_aload_n (pc' := 5) K dX6_bestTrade_4 0 rfl rfl ?_
  refine xw6_0g_now (pc' := 8) K hinX6_bestTrade_X6 uX6_bestTrade_f10 dX6_bestTrade_5 rfl ?_
  refine x_subV (pc' := 11) (wn := fun F' G' => w6 cI cO a (xspl (xspl F 14 7 F') 0 7 (xsub F' 7)) (xspl (xspl G 28 14 G') 0 14 (xsub G' 14))) K (mX5_takeFrom l D cI cO (xcat 19 (xsub a 39) (xsub a 1))) rfl gX6_bestTrade_X5_takeFrom rfl dsX5_takeFrom ⟨rfl, rfl, ⟨Nat.le_of_ble_eq_true rfl, Nat.le_of_ble_eq_true rfl⟩, Nat.le_of_ble_eq_true rfl, Nat.le_of_ble_eq_true rfl⟩ h 5 0 rfl rfl (xpl15 cI cO a _ _) (fun F' G' => xpr15 cI cO a _ _ F' G') (st := []) rfl rfl (Nat.le_of_ble_eq_true rfl) dX6_bestTrade_8 rfl (fun F8 G8 h => ?_)
  obtain ⟨E8, eE8⟩ : ∃ x : xF, x = (xspl (xspl F 14 7 F8) 0 7 (xsub F8 7)) := ⟨_, rfl⟩
  obtain ⟨H8, eH8⟩ : ∃ x : xA, x = (xspl (xspl G 28 14 G8) 0 14 (xsub G8 14)) := ⟨_, rfl⟩
  refine x_weq (w' := w6 cI cO a E8 H8) (by subst eE8; subst eH8; rfl) ?_
  replace h := h E8 eE8
  replace h := h H8 eH8
  refine x_aload_n (pc' := 12) K dX6_bestTrade_11 0 rfl rfl ?_
  refine xw6_0g_side (pc' := 15) K hinX6_bestTrade_X6 uX6_bestTrade_f41 dX6_bestTrade_12 rfl ?_
  refine x_bipush (pc' := 17) (v := 18) K dX6_bestTrade_15 (by decide) rfl ?_
  refine x_subI (pc' := 20) (wn := fun F' G' => w6 cI cO a (xspl E8 14 7 F') (xspl H8 28 14 G')) K (mX5_goOn l D cI cO (xsub a 39) _) rfl gX6_bestTrade_X5_goOn rfl dsX5_goOn ⟨rfl, rfl, ⟨Nat.le_of_ble_eq_true rfl, Nat.le_of_ble_eq_true rfl⟩, Nat.le_of_ble_eq_true rfl, Nat.le_of_ble_eq_true rfl⟩ h 5 0 rfl rfl (xpl16 cI cO a _ _) (fun F' G' => xpr16 cI cO a _ _ F' G') (st := []) rfl rfl (Nat.le_of_ble_eq_true rfl) dX6_bestTrade_17 rfl (fun r17 F17 G17 h => ?_)
  obtain ⟨E17, eE17⟩ : ∃ x : xF, x = (xspl E8 14 7 F17) := ⟨_, rfl⟩
  obtain ⟨H17, eH17⟩ : ∃ x : xA, x = (xspl H8 28 14 G17) := ⟨_, rfl⟩
  refine x_weq (w' := w6 cI cO a E17 H17) (by subst eE17; subst eH17; rfl) ?_
  replace h := h E17 eE17
  replace h := h H17 eH17
  refine x_pop (pc' := 21) K dX6_bestTrade_20 rfl rfl ?_
  refine x_iconst (pc' := 22) (v := -1) K dX6_bestTrade_21 (by decide) rfl ?_
  refine x_istore_n (pc' := 23) (i := 1) K dX6_bestTrade_22 rfl (by decide) [1, 0] (L' := [(0, .ref (a 0)), (1, .int _)]) rfl rfl ?_
  refine x_iconst (pc' := 24) (v := 0) K dX6_bestTrade_23 (by decide) rfl ?_
  refine x_istore_n (pc' := 25) (i := 2) K dX6_bestTrade_24 rfl (by decide) [1, 2, 0] (L' := [(0, .ref (a 0)), (1, .int _), (2, .int _)]) rfl rfl ?_
  refine x_iconst (pc' := 26) (v := 0) K dX6_bestTrade_25 (by decide) rfl ?_
  refine x_istore_n (pc' := 27) (i := 3) K dX6_bestTrade_26 rfl (by decide) [1, 2, 3, 0] (L' := [(0, .ref (a 0)), (1, .int _), (2, .int _), (3, .int _)]) rfl rfl ?_
  obtain ⟨n27, h⟩ := h
  exact tX6_bestTrade_27 K n27 _ _ _ _ _ h
/-! X6_share -/
abbrev rmX6_share : Room := { frames := 7, cells := 0, slots := 0, locals := 242 }
theorem dsX6_share : xDesc yX6_share 3 := by decide +kernel
theorem uX6_share_f41 : Cond.fieldLink RX6 41 "PigNinths" "side" "LPigNinths$World;" ∈ wsX6_share := by decide +kernel
theorem hinX6_share_X6 : ∀ w ∈ wsX60, w ∈ wsX6_share := by decide +kernel
theorem uX6_share_f10 : Cond.fieldLink RX6 10 "PigNinths" "now" "LPigNinths$World;" ∈ wsX6_share := by decide +kernel
theorem uX6_share_f195 : Cond.fieldLink RX6 195 "PigNinths$World" "purse" "[I" ∈ wsX6_share := by decide +kernel
theorem hinX6_share_X5 : ∀ w ∈ wsX50, w ∈ wsX6_share := by decide +kernel
def qX6_share_52 (Q : Int32 → xF → xA → Prop) : Nat → Int32 → Int32 → Int32 → Int32 → Int32 → Int32 → xF → xA → Prop
  | 0, _, _, _, _, _, _, _, _ => False
  | n + 1, x1, x2, x3, x4, x5, x6, F, G => ((x3 ≤ x6 → ((¬ x2 = 0 → ((¬ x2 = (1 : Int32) → Q x5 F G) ∧ (x2 = (1 : Int32) → Q x4 F G))) ∧ (x2 = 0 → (vp_in x1 9) ∧ (vp_in x1 9) ∧ Q ((G 32 x1.toNatClampNeg) - (G 4 x1.toNatClampNeg)) F G))) ∧ (¬ x3 ≤ x6 → qX5_whoHasIt  (xsub F 14) (xsub G 28) (fun r62 F62 G62 => (∀ E62 : xF, E62 = (xspl F 14 7 F62) → (∀ H62 : xA, H62 = (xspl G 28 14 G62) → qX5_oneDay (-1 : Int32) (xsub E62 14) (xsub H62 28) (fun r72 F72 G72 => (∀ E72 : xF, E72 = (xspl E62 14 7 F72) → (∀ H72 : xA, H72 = (xspl H62 28 14 G72) → ((¬ r62 = x1 → qX5_dugFor x1 (xsub E72 14) (xsub H72 28) (fun r101 F101 G101 => (∀ E101 : xF, E101 = (xspl E72 14 7 F101) → (∀ H101 : xA, H101 = (xspl H72 28 14 G101) → qX6_share_52 Q n x1 x2 x3 (x4 + (0 : Int32)) (x5 + r101) (x6 + (1 : Int32)) E101 H101)))) ∧ (r62 = x1 → qX5_dugFor x1 (xsub E72 14) (xsub H72 28) (fun r101 F101 G101 => (∀ E101 : xF, E101 = (xspl E72 14 7 F101) → (∀ H101 : xA, H101 = (xspl H72 28 14 G101) → qX6_share_52 Q n x1 x2 x3 (x4 + r72) (x5 + r101) (x6 + (1 : Int32)) E101 H101)))))))))))))
def qX6_share (x1 : Int32) (x2 : Int32) (x3 : Int32) (F : xF) (G : xA) (Q : Int32 → xF → xA → Prop) : Prop := qX6_isFarmer x1 (fun r1 => ((r1 = 0 → qX6_error (1 : Int32) F G (fun r28 F28 G28 => Q r28 F28 G28)) ∧ (¬ r1 = 0 → qX6_within x2 (0 : Int32) (2 : Int32) (fun r10 => ((r10 = 0 → qX6_error (1 : Int32) F G (fun r28 F28 G28 => Q r28 F28 G28)) ∧ (¬ r10 = 0 → qX6_within x3 (1 : Int32) (45 : Int32) (fun r20 => ((¬ r20 = 0 → qX5_takeFrom  (xcat 7 (xsub F 14) (xsub F 0)) (xcat 14 (xsub G 28) (xsub G 0)) (fun F40 G40 => (∀ E40 : xF, E40 = (xspl (xspl F 14 7 F40) 0 7 (xsub F40 7)) → (∀ H40 : xA, H40 = (xspl (xspl G 28 14 G40) 0 14 (xsub G40 14)) → ∃ j52, qX6_share_52 Q j52 x1 x2 x3 (0 : Int32) (0 : Int32) (0 : Int32) E40 H40)))) ∧ (r20 = 0 → qX6_error (1 : Int32) F G (fun r28 F28 G28 => Q r28 F28 G28))))))))))
set_option maxHeartbeats 4000000 in
set_option maxRecDepth 100000 in
theorem tX6_share_52 (K : XK p m c cX6_share 9 s args wsX6_share RX6 D (xtys cI cO) A meth (some .int)) {Q : Int32 → xF → xA → Prop} : ∀ (n : Nat), ∀ (x1 : Int32) (x2 : Int32) (x3 : Int32) (x4 : Int32) (x5 : Int32) (x6 : Int32) (F : xF) (G : xA), qX6_share_52 Q n x1 x2 x3 x4 x5 x6 F G → XJ p l e rmX6_share s m args below meth c 0 0 (MQ below (xQi D (w6 cI cO a) A Q) args s 0 0 A) D (xtys cI cO) A 9 (w6 cI cO a F G) 52 [(0, .ref (a 0)), (1, .int x1), (2, .int x2), (3, .int x3), (4, .int x4), (5, .int x5), (6, .int x6)] [] := by
  intro n
  induction n with
  | zero =>
    intro x1 x2 x3 x4 x5 x6 F G h
    exact False.elim h
  | succ n ih =>
    intro x1 x2 x3 x4 x5 x6 F G h
    refine x_iload (pc' := 54) K dX6_share_52 6 rfl rfl ?_
    refine x_iload_n (pc' := 55) K dX6_share_54 3 rfl rfl ?_
    refine x_icmp_ge (tgt := 113) (pc' := 58) K dX6_share_55 rfl rfl (fun c55 => ?_) (fun c55 => ?_)
    · replace h := h.1 c55
      refine x_iload_n (pc' := 114) K dX6_share_113 2 rfl rfl ?_
      refine x_if_ne (tgt := 137) (pc' := 117) K dX6_share_114 rfl rfl (fun c114 => ?_) (fun c114 => ?_)
      · replace h := h.1 c114
        refine x_iload_n (pc' := 138) K dX6_share_137 2 rfl rfl ?_
        refine x_iconst (pc' := 139) (v := 1) K dX6_share_138 (by decide) rfl ?_
        refine x_icmp_ne (tgt := 147) (pc' := 142) K dX6_share_139 rfl rfl (fun c139 => ?_) (fun c139 => ?_)
        · replace h := h.1 c139
          refine x_iload (pc' := 149) K dX6_share_147 5 rfl rfl ?_
          exact x_iret (wf := w6 cI cO a) K h dX6_share_149
        · replace h := h.2 c139
          refine x_iload (pc' := 144) K dX6_share_142 4 rfl rfl ?_
          refine x_goto (tgt := 149) K dX6_share_144 rfl ?_
          exact x_iret (wf := w6 cI cO a) K h dX6_share_149
      · replace h := h.2 c114
        refine x_aload_n (pc' := 118) K dX6_share_117 0 rfl rfl ?_
        refine xw6_0g_side (pc' := 121) K hinX6_share_X6 uX6_share_f41 dX6_share_118 rfl ?_
        refine xw6_39g_purse (pc' := 124) K hinX6_share_X5 uX6_share_f195 dX6_share_121 rfl ?_
        refine x_iload_n (pc' := 125) K dX6_share_124 1 rfl rfl ?_
        obtain ⟨i125, h⟩ := h
        refine xw6_44l (pc' := 126) K i125 rfl dX6_share_125 rfl ?_
        refine x_aload_n (pc' := 127) K dX6_share_126 0 rfl rfl ?_
        refine xw6_0g_now (pc' := 130) K hinX6_share_X6 uX6_share_f10 dX6_share_127 rfl ?_
        refine xw6_1g_purse (pc' := 133) K hinX6_share_X5 uX6_share_f195 dX6_share_130 rfl ?_
        refine x_iload_n (pc' := 134) K dX6_share_133 1 rfl rfl ?_
        obtain ⟨i134, h⟩ := h
        refine xw6_6l (pc' := 135) K i134 rfl dX6_share_134 rfl ?_
        refine x_isub (pc' := 136) K dX6_share_135 rfl ?_
        exact x_iret (wf := w6 cI cO a) K h dX6_share_136
    · replace h := h.2 c55
      refine x_aload_n (pc' := 59) K dX6_share_58 0 rfl rfl ?_
      refine xw6_0g_side (pc' := 62) K hinX6_share_X6 uX6_share_f41 dX6_share_59 rfl ?_
      refine x_subI (pc' := 65) (wn := fun F' G' => w6 cI cO a (xspl F 14 7 F') (xspl G 28 14 G')) K (mX5_whoHasIt l D cI cO (xsub a 39)) rfl gX6_share_X5_whoHasIt rfl dsX5_whoHasIt ⟨rfl, rfl, ⟨Nat.le_of_ble_eq_true rfl, Nat.le_of_ble_eq_true rfl⟩, Nat.le_of_ble_eq_true rfl, Nat.le_of_ble_eq_true rfl⟩ h 5 0 rfl rfl (xpl16 cI cO a _ _) (fun F' G' => xpr16 cI cO a _ _ F' G') (st := []) rfl rfl (Nat.le_of_ble_eq_true rfl) dX6_share_62 rfl (fun r62 F62 G62 h => ?_)
      obtain ⟨E62, eE62⟩ : ∃ x : xF, x = (xspl F 14 7 F62) := ⟨_, rfl⟩
      obtain ⟨H62, eH62⟩ : ∃ x : xA, x = (xspl G 28 14 G62) := ⟨_, rfl⟩
      refine x_weq (w' := w6 cI cO a E62 H62) (by subst eE62; subst eH62; rfl) ?_
      replace h := h E62 eE62
      replace h := h H62 eH62
      refine x_istore (pc' := 67) (i := 7) K dX6_share_65 (by decide) [1, 2, 3, 4, 5, 6, 7, 0] (L' := [(0, .ref (a 0)), (1, .int _), (2, .int _), (3, .int _), (4, .int _), (5, .int _), (6, .int _), (7, .int _)]) rfl rfl ?_
      refine x_aload_n (pc' := 68) K dX6_share_67 0 rfl rfl ?_
      refine xw6_0g_side (pc' := 71) K hinX6_share_X6 uX6_share_f41 dX6_share_68 rfl ?_
      refine x_iconst (pc' := 72) (v := -1) K dX6_share_71 (by decide) rfl ?_
      refine x_subI (pc' := 75) (wn := fun F' G' => w6 cI cO a (xspl E62 14 7 F') (xspl H62 28 14 G')) K (mX5_oneDay l D cI cO (xsub a 39) _) rfl gX6_share_X5_oneDay rfl dsX5_oneDay ⟨rfl, rfl, ⟨Nat.le_of_ble_eq_true rfl, Nat.le_of_ble_eq_true rfl⟩, Nat.le_of_ble_eq_true rfl, Nat.le_of_ble_eq_true rfl⟩ h 5 0 rfl rfl (xpl16 cI cO a _ _) (fun F' G' => xpr16 cI cO a _ _ F' G') (st := []) rfl rfl (Nat.le_of_ble_eq_true rfl) dX6_share_72 rfl (fun r72 F72 G72 h => ?_)
      obtain ⟨E72, eE72⟩ : ∃ x : xF, x = (xspl E62 14 7 F72) := ⟨_, rfl⟩
      obtain ⟨H72, eH72⟩ : ∃ x : xA, x = (xspl H62 28 14 G72) := ⟨_, rfl⟩
      refine x_weq (w' := w6 cI cO a E72 H72) (by subst eE72; subst eH72; rfl) ?_
      replace h := h E72 eE72
      replace h := h H72 eH72
      refine x_istore (pc' := 77) (i := 8) K dX6_share_75 (by decide) [1, 2, 3, 4, 5, 6, 7, 8, 0] (L' := [(0, .ref (a 0)), (1, .int _), (2, .int _), (3, .int _), (4, .int _), (5, .int _), (6, .int _), (7, .int _), (8, .int _)]) rfl rfl ?_
      refine x_iload (pc' := 79) K dX6_share_77 4 rfl rfl ?_
      refine x_iload (pc' := 81) K dX6_share_79 7 rfl rfl ?_
      refine x_iload_n (pc' := 82) K dX6_share_81 1 rfl rfl ?_
      refine x_icmp_ne (tgt := 90) (pc' := 85) K dX6_share_82 rfl rfl (fun c82 => ?_) (fun c82 => ?_)
      · replace h := h.1 c82
        refine x_iconst (pc' := 91) (v := 0) K dX6_share_90 (by decide) rfl ?_
        refine x_iadd (pc' := 92) K dX6_share_91 rfl ?_
        refine x_istore (pc' := 94) (i := 4) K dX6_share_92 (by decide) [1, 2, 3, 4, 0, 5, 6, 7, 8] (L' := [(0, .ref (a 0)), (1, .int _), (2, .int _), (3, .int _), (4, .int _), (5, .int _), (6, .int _), (7, .int _), (8, .int _)]) rfl rfl ?_
        refine x_iload (pc' := 96) K dX6_share_94 5 rfl rfl ?_
        refine x_aload_n (pc' := 97) K dX6_share_96 0 rfl rfl ?_
        refine xw6_0g_side (pc' := 100) K hinX6_share_X6 uX6_share_f41 dX6_share_97 rfl ?_
        refine x_iload_n (pc' := 101) K dX6_share_100 1 rfl rfl ?_
        refine x_subI (pc' := 104) (wn := fun F' G' => w6 cI cO a (xspl E72 14 7 F') (xspl H72 28 14 G')) K (mX5_dugFor l D cI cO (xsub a 39) _) rfl gX6_share_X5_dugFor rfl dsX5_dugFor ⟨rfl, rfl, ⟨Nat.le_of_ble_eq_true rfl, Nat.le_of_ble_eq_true rfl⟩, Nat.le_of_ble_eq_true rfl, Nat.le_of_ble_eq_true rfl⟩ h 5 0 rfl rfl (xpl16 cI cO a _ _) (fun F' G' => xpr16 cI cO a _ _ F' G') (st := [.int _]) rfl rfl (Nat.le_of_ble_eq_true rfl) dX6_share_101 rfl (fun r101 F101 G101 h => ?_)
        obtain ⟨E101, eE101⟩ : ∃ x : xF, x = (xspl E72 14 7 F101) := ⟨_, rfl⟩
        obtain ⟨H101, eH101⟩ : ∃ x : xA, x = (xspl H72 28 14 G101) := ⟨_, rfl⟩
        refine x_weq (w' := w6 cI cO a E101 H101) (by subst eE101; subst eH101; rfl) ?_
        replace h := h E101 eE101
        replace h := h H101 eH101
        refine x_iadd (pc' := 105) K dX6_share_104 rfl ?_
        refine x_istore (pc' := 107) (i := 5) K dX6_share_105 (by decide) [1, 2, 3, 4, 5, 0, 6, 7, 8] (L' := [(0, .ref (a 0)), (1, .int _), (2, .int _), (3, .int _), (4, .int _), (5, .int _), (6, .int _), (7, .int _), (8, .int _)]) rfl rfl ?_
        refine x_iinc (pc' := 110) (v := _ + (1 : Int32)) K dX6_share_107 6 rfl rfl (by decide) [1, 2, 3, 4, 5, 6, 0, 7, 8] (L' := [(0, .ref (a 0)), (1, .int _), (2, .int _), (3, .int _), (4, .int _), (5, .int _), (6, .int _), (7, .int _), (8, .int _)]) rfl rfl ?_
        refine x_goto (tgt := 52) K dX6_share_110 rfl ?_
        refine x_locals [0, 1, 2, 3, 4, 5, 6] (L' := [(0, .ref (a 0)), (1, .int _), (2, .int _), (3, .int _), (4, .int _), (5, .int _), (6, .int _)]) rfl ?_
        exact ih _ _ _ _ _ _ _ _ h
      · replace h := h.2 c82
        refine x_iload (pc' := 87) K dX6_share_85 8 rfl rfl ?_
        refine x_goto (tgt := 91) K dX6_share_87 rfl ?_
        refine x_iadd (pc' := 92) K dX6_share_91 rfl ?_
        refine x_istore (pc' := 94) (i := 4) K dX6_share_92 (by decide) [1, 2, 3, 4, 0, 5, 6, 7, 8] (L' := [(0, .ref (a 0)), (1, .int _), (2, .int _), (3, .int _), (4, .int _), (5, .int _), (6, .int _), (7, .int _), (8, .int _)]) rfl rfl ?_
        refine x_iload (pc' := 96) K dX6_share_94 5 rfl rfl ?_
        refine x_aload_n (pc' := 97) K dX6_share_96 0 rfl rfl ?_
        refine xw6_0g_side (pc' := 100) K hinX6_share_X6 uX6_share_f41 dX6_share_97 rfl ?_
        refine x_iload_n (pc' := 101) K dX6_share_100 1 rfl rfl ?_
        refine x_subI (pc' := 104) (wn := fun F' G' => w6 cI cO a (xspl E72 14 7 F') (xspl H72 28 14 G')) K (mX5_dugFor l D cI cO (xsub a 39) _) rfl gX6_share_X5_dugFor rfl dsX5_dugFor ⟨rfl, rfl, ⟨Nat.le_of_ble_eq_true rfl, Nat.le_of_ble_eq_true rfl⟩, Nat.le_of_ble_eq_true rfl, Nat.le_of_ble_eq_true rfl⟩ h 5 0 rfl rfl (xpl16 cI cO a _ _) (fun F' G' => xpr16 cI cO a _ _ F' G') (st := [.int _]) rfl rfl (Nat.le_of_ble_eq_true rfl) dX6_share_101 rfl (fun r101 F101 G101 h => ?_)
        obtain ⟨E101, eE101⟩ : ∃ x : xF, x = (xspl E72 14 7 F101) := ⟨_, rfl⟩
        obtain ⟨H101, eH101⟩ : ∃ x : xA, x = (xspl H72 28 14 G101) := ⟨_, rfl⟩
        refine x_weq (w' := w6 cI cO a E101 H101) (by subst eE101; subst eH101; rfl) ?_
        replace h := h E101 eE101
        replace h := h H101 eH101
        refine x_iadd (pc' := 105) K dX6_share_104 rfl ?_
        refine x_istore (pc' := 107) (i := 5) K dX6_share_105 (by decide) [1, 2, 3, 4, 5, 0, 6, 7, 8] (L' := [(0, .ref (a 0)), (1, .int _), (2, .int _), (3, .int _), (4, .int _), (5, .int _), (6, .int _), (7, .int _), (8, .int _)]) rfl rfl ?_
        refine x_iinc (pc' := 110) (v := _ + (1 : Int32)) K dX6_share_107 6 rfl rfl (by decide) [1, 2, 3, 4, 5, 6, 0, 7, 8] (L' := [(0, .ref (a 0)), (1, .int _), (2, .int _), (3, .int _), (4, .int _), (5, .int _), (6, .int _), (7, .int _), (8, .int _)]) rfl rfl ?_
        refine x_goto (tgt := 52) K dX6_share_110 rfl ?_
        refine x_locals [0, 1, 2, 3, 4, 5, 6] (L' := [(0, .ref (a 0)), (1, .int _), (2, .int _), (3, .int _), (4, .int _), (5, .int _), (6, .int _)]) rfl ?_
        exact ih _ _ _ _ _ _ _ _ h
set_option maxHeartbeats 4000000 in
set_option maxRecDepth 100000 in
theorem mX6_share (l : Launch) (D : va_G) (cI cO : ClassId) (a : Nat → Nat)  (x1 : Int32) (x2 : Int32) (x3 : Int32) : MI l yX6_share wsX6_share rmX6_share D (xtys cI cO) [.ref (a 0), .int x1, .int x2, .int x3] (w6 cI cO a) (qX6_share x1 x2 x3) := by
  refine MI_of (cc := cX6_share) (maxL := 9) (own := RX6) (by decide) rfl rfl (Nat.le_of_ble_eq_true rfl) ?_
  intro p e s m args below meth c A F G Q h K
  refine x_locals [0, 1, 2, 3] (L' := [(0, .ref (a 0)), (1, .int _), (2, .int _), (3, .int _)]) rfl ?_
  refine x_iload_n (pc' := 1) K dX6_share_0 1 rfl rfl ?_
  refine x_callS (pc' := 4) K (mX6_isFarmer l D cI cO a _) rfl gX6_share_X6_isFarmer dsX6_isFarmer ⟨rfl, rfl, ⟨Nat.le_of_ble_eq_true rfl, Nat.le_of_ble_eq_true rfl⟩, Nat.le_of_ble_eq_true rfl, Nat.le_of_ble_eq_true rfl⟩ h (st := []) rfl rfl (Nat.le_of_ble_eq_true rfl) dX6_share_1 rfl (fun r1 h => ?_)
  refine x_if_eq (tgt := 26) (pc' := 7) K dX6_share_4 rfl rfl (fun c4 => ?_) (fun c4 => ?_)
  · replace h := h.1 c4
    refine x_aload_n (pc' := 27) K dX6_share_26 0 rfl rfl ?_
    refine x_iconst (pc' := 28) (v := 1) K dX6_share_27 (by decide) rfl ?_
    refine x_callI (pc' := 31) K (mX6_error l D cI cO a _) rfl gX6_share_X6_error rfl dsX6_error ⟨rfl, rfl, ⟨Nat.le_of_ble_eq_true rfl, Nat.le_of_ble_eq_true rfl⟩, Nat.le_of_ble_eq_true rfl, Nat.le_of_ble_eq_true rfl⟩ h 6 0 rfl rfl (st := []) rfl rfl (Nat.le_of_ble_eq_true rfl) dX6_share_28 rfl (fun r28 F28 G28 h => ?_)
    exact x_iret (wf := w6 cI cO a) K h dX6_share_31
  · replace h := h.2 c4
    refine x_iload_n (pc' := 8) K dX6_share_7 2 rfl rfl ?_
    refine x_iconst (pc' := 9) (v := 0) K dX6_share_8 (by decide) rfl ?_
    refine x_iconst (pc' := 10) (v := 2) K dX6_share_9 (by decide) rfl ?_
    refine x_callS (pc' := 13) K (mX6_within l D cI cO a _ _ _) rfl gX6_share_X6_within dsX6_within ⟨rfl, rfl, ⟨Nat.le_of_ble_eq_true rfl, Nat.le_of_ble_eq_true rfl⟩, Nat.le_of_ble_eq_true rfl, Nat.le_of_ble_eq_true rfl⟩ h (st := []) rfl rfl (Nat.le_of_ble_eq_true rfl) dX6_share_10 rfl (fun r10 h => ?_)
    refine x_if_eq (tgt := 26) (pc' := 16) K dX6_share_13 rfl rfl (fun c13 => ?_) (fun c13 => ?_)
    · replace h := h.1 c13
      refine x_aload_n (pc' := 27) K dX6_share_26 0 rfl rfl ?_
      refine x_iconst (pc' := 28) (v := 1) K dX6_share_27 (by decide) rfl ?_
      refine x_callI (pc' := 31) K (mX6_error l D cI cO a _) rfl gX6_share_X6_error rfl dsX6_error ⟨rfl, rfl, ⟨Nat.le_of_ble_eq_true rfl, Nat.le_of_ble_eq_true rfl⟩, Nat.le_of_ble_eq_true rfl, Nat.le_of_ble_eq_true rfl⟩ h 6 0 rfl rfl (st := []) rfl rfl (Nat.le_of_ble_eq_true rfl) dX6_share_28 rfl (fun r28 F28 G28 h => ?_)
      exact x_iret (wf := w6 cI cO a) K h dX6_share_31
    · replace h := h.2 c13
      refine x_iload_n (pc' := 17) K dX6_share_16 3 rfl rfl ?_
      refine x_iconst (pc' := 18) (v := 1) K dX6_share_17 (by decide) rfl ?_
      refine x_bipush (pc' := 20) (v := 45) K dX6_share_18 (by decide) rfl ?_
      refine x_callS (pc' := 23) K (mX6_within l D cI cO a _ _ _) rfl gX6_share_X6_within dsX6_within ⟨rfl, rfl, ⟨Nat.le_of_ble_eq_true rfl, Nat.le_of_ble_eq_true rfl⟩, Nat.le_of_ble_eq_true rfl, Nat.le_of_ble_eq_true rfl⟩ h (st := []) rfl rfl (Nat.le_of_ble_eq_true rfl) dX6_share_20 rfl (fun r20 h => ?_)
      refine x_if_ne (tgt := 32) (pc' := 26) K dX6_share_23 rfl rfl (fun c23 => ?_) (fun c23 => ?_)
      · replace h := h.1 c23
        refine x_aload_n (pc' := 33) K dX6_share_32 0 rfl rfl ?_
        refine xw6_0g_side (pc' := 36) K hinX6_share_X6 uX6_share_f41 dX6_share_33 rfl ?_
        refine x_aload_n (pc' := 37) K dX6_share_36 0 rfl rfl ?_
        refine xw6_0g_now (pc' := 40) K hinX6_share_X6 uX6_share_f10 dX6_share_37 rfl ?_
        refine x_subV (pc' := 43) (wn := fun F' G' => w6 cI cO a (xspl (xspl F 14 7 F') 0 7 (xsub F' 7)) (xspl (xspl G 28 14 G') 0 14 (xsub G' 14))) K (mX5_takeFrom l D cI cO (xcat 19 (xsub a 39) (xsub a 1))) rfl gX6_share_X5_takeFrom rfl dsX5_takeFrom ⟨rfl, rfl, ⟨Nat.le_of_ble_eq_true rfl, Nat.le_of_ble_eq_true rfl⟩, Nat.le_of_ble_eq_true rfl, Nat.le_of_ble_eq_true rfl⟩ h 5 0 rfl rfl (xpl15 cI cO a _ _) (fun F' G' => xpr15 cI cO a _ _ F' G') (st := []) rfl rfl (Nat.le_of_ble_eq_true rfl) dX6_share_40 rfl (fun F40 G40 h => ?_)
        obtain ⟨E40, eE40⟩ : ∃ x : xF, x = (xspl (xspl F 14 7 F40) 0 7 (xsub F40 7)) := ⟨_, rfl⟩
        obtain ⟨H40, eH40⟩ : ∃ x : xA, x = (xspl (xspl G 28 14 G40) 0 14 (xsub G40 14)) := ⟨_, rfl⟩
        refine x_weq (w' := w6 cI cO a E40 H40) (by subst eE40; subst eH40; rfl) ?_
        replace h := h E40 eE40
        replace h := h H40 eH40
        refine x_iconst (pc' := 44) (v := 0) K dX6_share_43 (by decide) rfl ?_
        refine x_istore (pc' := 46) (i := 4) K dX6_share_44 (by decide) [1, 2, 3, 4, 0] (L' := [(0, .ref (a 0)), (1, .int _), (2, .int _), (3, .int _), (4, .int _)]) rfl rfl ?_
        refine x_iconst (pc' := 47) (v := 0) K dX6_share_46 (by decide) rfl ?_
        refine x_istore (pc' := 49) (i := 5) K dX6_share_47 (by decide) [1, 2, 3, 4, 5, 0] (L' := [(0, .ref (a 0)), (1, .int _), (2, .int _), (3, .int _), (4, .int _), (5, .int _)]) rfl rfl ?_
        refine x_iconst (pc' := 50) (v := 0) K dX6_share_49 (by decide) rfl ?_
        refine x_istore (pc' := 52) (i := 6) K dX6_share_50 (by decide) [1, 2, 3, 4, 5, 6, 0] (L' := [(0, .ref (a 0)), (1, .int _), (2, .int _), (3, .int _), (4, .int _), (5, .int _), (6, .int _)]) rfl rfl ?_
        obtain ⟨n52, h⟩ := h
        exact tX6_share_52 K n52 _ _ _ _ _ _ _ _ h
      · replace h := h.2 c23
        refine x_aload_n (pc' := 27) K dX6_share_26 0 rfl rfl ?_
        refine x_iconst (pc' := 28) (v := 1) K dX6_share_27 (by decide) rfl ?_
        refine x_callI (pc' := 31) K (mX6_error l D cI cO a _) rfl gX6_share_X6_error rfl dsX6_error ⟨rfl, rfl, ⟨Nat.le_of_ble_eq_true rfl, Nat.le_of_ble_eq_true rfl⟩, Nat.le_of_ble_eq_true rfl, Nat.le_of_ble_eq_true rfl⟩ h 6 0 rfl rfl (st := []) rfl rfl (Nat.le_of_ble_eq_true rfl) dX6_share_28 rfl (fun r28 F28 G28 h => ?_)
        exact x_iret (wf := w6 cI cO a) K h dX6_share_31
/-! X6_whoHid -/
set_option maxHeartbeats 4000000 in
set_option maxRecDepth 100000 in
theorem xpl31 (cI : ClassId) (cO : ClassId) (a : Nat → Nat) (F : xF) (G : xA) : (w6 cI cO a F G).Perm (List.flatMap (bw6 cI cO a F G) [0, 1, 2, 3, 4, 5, 6, 7, 8, 9, 10, 11, 12, 13, 14, 15, 16, 17, 18, 19, 20, 21, 22, 23, 24, 25, 26, 27, 28, 29, 30, 31, 32, 33, 34, 35, 36, 37, 38, 39, 40, 41, 42, 43, 44, 45, 48, 49, 50, 51, 52, 53] ++ w2 cI (xsub a 97) (xsub F 42) (xsub G 66)) := xpermF (bf := bw6 cI cO a F G) (ns := [0, 1, 2, 3, 4, 5, 6, 7, 8, 9, 10, 11, 12, 13, 14, 15, 16, 17, 18, 19, 20, 21, 22, 23, 24, 25, 26, 27, 28, 29, 30, 31, 32, 33, 34, 35, 36, 37, 38, 39, 40, 41, 42, 43, 44, 45, 46, 47, 48, 49, 50, 51, 52, 53]) rfl [0, 1, 2, 3, 4, 5, 6, 7, 8, 9, 10, 11, 12, 13, 14, 15, 16, 17, 18, 19, 20, 21, 22, 23, 24, 25, 26, 27, 28, 29, 30, 31, 32, 33, 34, 35, 36, 37, 38, 39, 40, 41, 42, 43, 44, 45, 48, 49, 50, 51, 52, 53] [46, 47] (by decide +kernel) rfl rfl
set_option maxHeartbeats 4000000 in
set_option maxRecDepth 100000 in
theorem xpr31 (cI : ClassId) (cO : ClassId) (a : Nat → Nat) (F : xF) (G : xA) (F' : xF) (G' : xA) : (w6 cI cO a (xspl F 42 2 F') (xspl G 66 1 G')).Perm (List.flatMap (bw6 cI cO a F G) [0, 1, 2, 3, 4, 5, 6, 7, 8, 9, 10, 11, 12, 13, 14, 15, 16, 17, 18, 19, 20, 21, 22, 23, 24, 25, 26, 27, 28, 29, 30, 31, 32, 33, 34, 35, 36, 37, 38, 39, 40, 41, 42, 43, 44, 45, 48, 49, 50, 51, 52, 53] ++ w2 cI (xsub a 97) F' G') := xpermF (bf := bw6 cI cO a (xspl F 42 2 F') (xspl G 66 1 G')) (ns := [0, 1, 2, 3, 4, 5, 6, 7, 8, 9, 10, 11, 12, 13, 14, 15, 16, 17, 18, 19, 20, 21, 22, 23, 24, 25, 26, 27, 28, 29, 30, 31, 32, 33, 34, 35, 36, 37, 38, 39, 40, 41, 42, 43, 44, 45, 46, 47, 48, 49, 50, 51, 52, 53]) rfl [0, 1, 2, 3, 4, 5, 6, 7, 8, 9, 10, 11, 12, 13, 14, 15, 16, 17, 18, 19, 20, 21, 22, 23, 24, 25, 26, 27, 28, 29, 30, 31, 32, 33, 34, 35, 36, 37, 38, 39, 40, 41, 42, 43, 44, 45, 48, 49, 50, 51, 52, 53] [46, 47] (by decide +kernel) rfl rfl
set_option maxHeartbeats 4000000 in
set_option maxRecDepth 100000 in
theorem xpl32 (cI : ClassId) (cO : ClassId) (a : Nat → Nat) (F : xF) (G : xA) : (w6 cI cO a F G).Perm (List.flatMap (bw6 cI cO a F G) [0, 1, 2, 3, 4, 5, 6, 7, 8, 9, 10, 11, 12, 13, 14, 15, 16, 17, 18, 19, 20, 21, 22, 23, 24, 25, 26, 27, 28, 29, 30, 31, 32, 33, 34, 35, 36, 37, 38, 39, 40, 41, 42, 43, 44, 45, 46, 47, 50, 51, 52, 53] ++ w2 cI (xsub a 99) (xsub F 44) (xsub G 67)) := xpermF (bf := bw6 cI cO a F G) (ns := [0, 1, 2, 3, 4, 5, 6, 7, 8, 9, 10, 11, 12, 13, 14, 15, 16, 17, 18, 19, 20, 21, 22, 23, 24, 25, 26, 27, 28, 29, 30, 31, 32, 33, 34, 35, 36, 37, 38, 39, 40, 41, 42, 43, 44, 45, 46, 47, 48, 49, 50, 51, 52, 53]) rfl [0, 1, 2, 3, 4, 5, 6, 7, 8, 9, 10, 11, 12, 13, 14, 15, 16, 17, 18, 19, 20, 21, 22, 23, 24, 25, 26, 27, 28, 29, 30, 31, 32, 33, 34, 35, 36, 37, 38, 39, 40, 41, 42, 43, 44, 45, 46, 47, 50, 51, 52, 53] [48, 49] (by decide +kernel) rfl rfl
set_option maxHeartbeats 4000000 in
set_option maxRecDepth 100000 in
theorem xpr32 (cI : ClassId) (cO : ClassId) (a : Nat → Nat) (F : xF) (G : xA) (F' : xF) (G' : xA) : (w6 cI cO a (xspl F 44 2 F') (xspl G 67 1 G')).Perm (List.flatMap (bw6 cI cO a F G) [0, 1, 2, 3, 4, 5, 6, 7, 8, 9, 10, 11, 12, 13, 14, 15, 16, 17, 18, 19, 20, 21, 22, 23, 24, 25, 26, 27, 28, 29, 30, 31, 32, 33, 34, 35, 36, 37, 38, 39, 40, 41, 42, 43, 44, 45, 46, 47, 50, 51, 52, 53] ++ w2 cI (xsub a 99) F' G') := xpermF (bf := bw6 cI cO a (xspl F 44 2 F') (xspl G 67 1 G')) (ns := [0, 1, 2, 3, 4, 5, 6, 7, 8, 9, 10, 11, 12, 13, 14, 15, 16, 17, 18, 19, 20, 21, 22, 23, 24, 25, 26, 27, 28, 29, 30, 31, 32, 33, 34, 35, 36, 37, 38, 39, 40, 41, 42, 43, 44, 45, 46, 47, 48, 49, 50, 51, 52, 53]) rfl [0, 1, 2, 3, 4, 5, 6, 7, 8, 9, 10, 11, 12, 13, 14, 15, 16, 17, 18, 19, 20, 21, 22, 23, 24, 25, 26, 27, 28, 29, 30, 31, 32, 33, 34, 35, 36, 37, 38, 39, 40, 41, 42, 43, 44, 45, 46, 47, 50, 51, 52, 53] [48, 49] (by decide +kernel) rfl rfl
set_option maxHeartbeats 4000000 in
set_option maxRecDepth 100000 in
theorem xpl33 (cI : ClassId) (cO : ClassId) (a : Nat → Nat) (F : xF) (G : xA) : (w6 cI cO a F G).Perm (List.flatMap (bw6 cI cO a F G) [0, 1, 2, 3, 4, 5, 6, 7, 8, 9, 10, 11, 12, 13, 14, 15, 16, 17, 18, 19, 20, 21, 22, 23, 24, 25, 26, 27, 28, 29, 30, 31, 32, 33, 34, 35, 36, 37, 38, 39, 40, 41, 42, 43, 44, 45, 46, 47, 48, 49, 52, 53] ++ w2 cI (xsub a 101) (xsub F 46) (xsub G 68)) := xpermF (bf := bw6 cI cO a F G) (ns := [0, 1, 2, 3, 4, 5, 6, 7, 8, 9, 10, 11, 12, 13, 14, 15, 16, 17, 18, 19, 20, 21, 22, 23, 24, 25, 26, 27, 28, 29, 30, 31, 32, 33, 34, 35, 36, 37, 38, 39, 40, 41, 42, 43, 44, 45, 46, 47, 48, 49, 50, 51, 52, 53]) rfl [0, 1, 2, 3, 4, 5, 6, 7, 8, 9, 10, 11, 12, 13, 14, 15, 16, 17, 18, 19, 20, 21, 22, 23, 24, 25, 26, 27, 28, 29, 30, 31, 32, 33, 34, 35, 36, 37, 38, 39, 40, 41, 42, 43, 44, 45, 46, 47, 48, 49, 52, 53] [50, 51] (by decide +kernel) rfl rfl
set_option maxHeartbeats 4000000 in
set_option maxRecDepth 100000 in
theorem xpr33 (cI : ClassId) (cO : ClassId) (a : Nat → Nat) (F : xF) (G : xA) (F' : xF) (G' : xA) : (w6 cI cO a (xspl F 46 2 F') (xspl G 68 1 G')).Perm (List.flatMap (bw6 cI cO a F G) [0, 1, 2, 3, 4, 5, 6, 7, 8, 9, 10, 11, 12, 13, 14, 15, 16, 17, 18, 19, 20, 21, 22, 23, 24, 25, 26, 27, 28, 29, 30, 31, 32, 33, 34, 35, 36, 37, 38, 39, 40, 41, 42, 43, 44, 45, 46, 47, 48, 49, 52, 53] ++ w2 cI (xsub a 101) F' G') := xpermF (bf := bw6 cI cO a (xspl F 46 2 F') (xspl G 68 1 G')) (ns := [0, 1, 2, 3, 4, 5, 6, 7, 8, 9, 10, 11, 12, 13, 14, 15, 16, 17, 18, 19, 20, 21, 22, 23, 24, 25, 26, 27, 28, 29, 30, 31, 32, 33, 34, 35, 36, 37, 38, 39, 40, 41, 42, 43, 44, 45, 46, 47, 48, 49, 50, 51, 52, 53]) rfl [0, 1, 2, 3, 4, 5, 6, 7, 8, 9, 10, 11, 12, 13, 14, 15, 16, 17, 18, 19, 20, 21, 22, 23, 24, 25, 26, 27, 28, 29, 30, 31, 32, 33, 34, 35, 36, 37, 38, 39, 40, 41, 42, 43, 44, 45, 46, 47, 48, 49, 52, 53] [50, 51] (by decide +kernel) rfl rfl
set_option maxHeartbeats 4000000 in
set_option maxRecDepth 100000 in
theorem xpl34 (cI : ClassId) (cO : ClassId) (a : Nat → Nat) (F : xF) (G : xA) : (w6 cI cO a F G).Perm (List.flatMap (bw6 cI cO a F G) [0, 1, 2, 3, 4, 5, 6, 7, 8, 9, 10, 11, 12, 13, 14, 15, 16, 17, 18, 19, 20, 21, 22, 23, 24, 25, 26, 27, 28, 29, 30, 31, 32, 33, 34, 35, 36, 37, 38, 39, 40, 41, 42, 43, 44, 45, 46, 47, 48, 49, 50, 51] ++ w2 cI (xsub a 103) (xsub F 48) (xsub G 69)) := xpermF (bf := bw6 cI cO a F G) (ns := [0, 1, 2, 3, 4, 5, 6, 7, 8, 9, 10, 11, 12, 13, 14, 15, 16, 17, 18, 19, 20, 21, 22, 23, 24, 25, 26, 27, 28, 29, 30, 31, 32, 33, 34, 35, 36, 37, 38, 39, 40, 41, 42, 43, 44, 45, 46, 47, 48, 49, 50, 51, 52, 53]) rfl [0, 1, 2, 3, 4, 5, 6, 7, 8, 9, 10, 11, 12, 13, 14, 15, 16, 17, 18, 19, 20, 21, 22, 23, 24, 25, 26, 27, 28, 29, 30, 31, 32, 33, 34, 35, 36, 37, 38, 39, 40, 41, 42, 43, 44, 45, 46, 47, 48, 49, 50, 51] [52, 53] (by decide +kernel) rfl rfl
set_option maxHeartbeats 4000000 in
set_option maxRecDepth 100000 in
theorem xpr34 (cI : ClassId) (cO : ClassId) (a : Nat → Nat) (F : xF) (G : xA) (F' : xF) (G' : xA) : (w6 cI cO a (xspl F 48 2 F') (xspl G 69 1 G')).Perm (List.flatMap (bw6 cI cO a F G) [0, 1, 2, 3, 4, 5, 6, 7, 8, 9, 10, 11, 12, 13, 14, 15, 16, 17, 18, 19, 20, 21, 22, 23, 24, 25, 26, 27, 28, 29, 30, 31, 32, 33, 34, 35, 36, 37, 38, 39, 40, 41, 42, 43, 44, 45, 46, 47, 48, 49, 50, 51] ++ w2 cI (xsub a 103) F' G') := xpermF (bf := bw6 cI cO a (xspl F 48 2 F') (xspl G 69 1 G')) (ns := [0, 1, 2, 3, 4, 5, 6, 7, 8, 9, 10, 11, 12, 13, 14, 15, 16, 17, 18, 19, 20, 21, 22, 23, 24, 25, 26, 27, 28, 29, 30, 31, 32, 33, 34, 35, 36, 37, 38, 39, 40, 41, 42, 43, 44, 45, 46, 47, 48, 49, 50, 51, 52, 53]) rfl [0, 1, 2, 3, 4, 5, 6, 7, 8, 9, 10, 11, 12, 13, 14, 15, 16, 17, 18, 19, 20, 21, 22, 23, 24, 25, 26, 27, 28, 29, 30, 31, 32, 33, 34, 35, 36, 37, 38, 39, 40, 41, 42, 43, 44, 45, 46, 47, 48, 49, 50, 51] [52, 53] (by decide +kernel) rfl rfl
abbrev rmX6_whoHid : Room := { frames := 8, cells := 0, slots := 0, locals := 267 }
theorem dsX6_whoHid : xDesc yX6_whoHid 3 := by decide +kernel
theorem uX6_whoHid_f70 : Cond.fieldLink RX6 70 "PigNinths" "sheets" "[LPigNinths$Sheet;" ∈ wsX6_whoHid := by decide +kernel
theorem hinX6_whoHid_X6 : ∀ w ∈ wsX60, w ∈ wsX6_whoHid := by decide +kernel
theorem uX6_whoHid_f212 : Cond.fieldLink RX6 212 "PigNinths$Sheet" "size" "I" ∈ wsX6_whoHid := by decide +kernel
theorem hinX6_whoHid_X2 : ∀ w ∈ wsX20, w ∈ wsX6_whoHid := by decide +kernel
def qX6_whoHid_76 (Q : Int32 → xF → xA → Prop) : Nat → Int32 → Int32 → Int32 → Int32 → Int32 → Int32 → xF → xA → Prop
  | 0, _, _, _, _, _, _, _, _ => False
  | n + 1, x2, x3, x5, x6, x7, x8, F, G => (((9 : Int32) ≤ x8 → ((¬ x3 = 0 → ((0 ≤ x6 → ((¬ x3 = (1 : Int32) → Q x7 F G) ∧ (x3 = (1 : Int32) → Q x6 F G))) ∧ (¬ 0 ≤ x6 → qX6_error (2 : Int32) F G (fun r141 F141 G141 => Q r141 F141 G141)))) ∧ (x3 = 0 → Q x5 F G))) ∧ (¬ (9 : Int32) ≤ x8 → qX6_leastMark_0 x8 x2 F G (fun r89 F89 G89 => ((r89 < 0 → qX6_whoHid_76 Q n x2 x3 x5 x6 x7 (x8 + (1 : Int32)) F89 G89) ∧ (¬ r89 < 0 → ((0 ≤ x6 → qX6_whoHid_76 Q n x2 x3 (x5 ||| ((1 : Int32) <<< (x8 &&& 31))) x6 x7 (x8 + (1 : Int32)) F89 G89) ∧ (¬ 0 ≤ x6 → qX6_whoHid_76 Q n x2 x3 (x5 ||| ((1 : Int32) <<< (x8 &&& 31))) x8 r89 (x8 + (1 : Int32)) F89 G89)))))))
def qX6_whoHid_76_1 (Q : Int32 → xF → xA → Prop) : Nat → Int32 → Int32 → Int32 → Int32 → Int32 → Int32 → xF → xA → Prop
  | 0, _, _, _, _, _, _, _, _ => False
  | n + 1, x2, x3, x5, x6, x7, x8, F, G => (((9 : Int32) ≤ x8 → ((¬ x3 = 0 → ((0 ≤ x6 → ((¬ x3 = (1 : Int32) → Q x7 F G) ∧ (x3 = (1 : Int32) → Q x6 F G))) ∧ (¬ 0 ≤ x6 → qX6_error (2 : Int32) F G (fun r141 F141 G141 => Q r141 F141 G141)))) ∧ (x3 = 0 → Q x5 F G))) ∧ (¬ (9 : Int32) ≤ x8 → qX6_leastMark_1 x8 x2 F G (fun r89 F89 G89 => ((r89 < 0 → qX6_whoHid_76_1 Q n x2 x3 x5 x6 x7 (x8 + (1 : Int32)) F89 G89) ∧ (¬ r89 < 0 → ((0 ≤ x6 → qX6_whoHid_76_1 Q n x2 x3 (x5 ||| ((1 : Int32) <<< (x8 &&& 31))) x6 x7 (x8 + (1 : Int32)) F89 G89) ∧ (¬ 0 ≤ x6 → qX6_whoHid_76_1 Q n x2 x3 (x5 ||| ((1 : Int32) <<< (x8 &&& 31))) x8 r89 (x8 + (1 : Int32)) F89 G89)))))))
def qX6_whoHid_76_2 (Q : Int32 → xF → xA → Prop) : Nat → Int32 → Int32 → Int32 → Int32 → Int32 → Int32 → xF → xA → Prop
  | 0, _, _, _, _, _, _, _, _ => False
  | n + 1, x2, x3, x5, x6, x7, x8, F, G => (((9 : Int32) ≤ x8 → ((¬ x3 = 0 → ((0 ≤ x6 → ((¬ x3 = (1 : Int32) → Q x7 F G) ∧ (x3 = (1 : Int32) → Q x6 F G))) ∧ (¬ 0 ≤ x6 → qX6_error (2 : Int32) F G (fun r141 F141 G141 => Q r141 F141 G141)))) ∧ (x3 = 0 → Q x5 F G))) ∧ (¬ (9 : Int32) ≤ x8 → qX6_leastMark_2 x8 x2 F G (fun r89 F89 G89 => ((r89 < 0 → qX6_whoHid_76_2 Q n x2 x3 x5 x6 x7 (x8 + (1 : Int32)) F89 G89) ∧ (¬ r89 < 0 → ((0 ≤ x6 → qX6_whoHid_76_2 Q n x2 x3 (x5 ||| ((1 : Int32) <<< (x8 &&& 31))) x6 x7 (x8 + (1 : Int32)) F89 G89) ∧ (¬ 0 ≤ x6 → qX6_whoHid_76_2 Q n x2 x3 (x5 ||| ((1 : Int32) <<< (x8 &&& 31))) x8 r89 (x8 + (1 : Int32)) F89 G89)))))))
def qX6_whoHid_76_3 (Q : Int32 → xF → xA → Prop) : Nat → Int32 → Int32 → Int32 → Int32 → Int32 → Int32 → xF → xA → Prop
  | 0, _, _, _, _, _, _, _, _ => False
  | n + 1, x2, x3, x5, x6, x7, x8, F, G => (((9 : Int32) ≤ x8 → ((¬ x3 = 0 → ((0 ≤ x6 → ((¬ x3 = (1 : Int32) → Q x7 F G) ∧ (x3 = (1 : Int32) → Q x6 F G))) ∧ (¬ 0 ≤ x6 → qX6_error (2 : Int32) F G (fun r141 F141 G141 => Q r141 F141 G141)))) ∧ (x3 = 0 → Q x5 F G))) ∧ (¬ (9 : Int32) ≤ x8 → qX6_leastMark_3 x8 x2 F G (fun r89 F89 G89 => ((r89 < 0 → qX6_whoHid_76_3 Q n x2 x3 x5 x6 x7 (x8 + (1 : Int32)) F89 G89) ∧ (¬ r89 < 0 → ((0 ≤ x6 → qX6_whoHid_76_3 Q n x2 x3 (x5 ||| ((1 : Int32) <<< (x8 &&& 31))) x6 x7 (x8 + (1 : Int32)) F89 G89) ∧ (¬ 0 ≤ x6 → qX6_whoHid_76_3 Q n x2 x3 (x5 ||| ((1 : Int32) <<< (x8 &&& 31))) x8 r89 (x8 + (1 : Int32)) F89 G89)))))))
def qX6_whoHid (x1 : Int32) (x2 : Int32) (x3 : Int32) (F : xF) (G : xA) (Q : Int32 → xF → xA → Prop) : Prop := qX6_isSheet x1 (fun r1 => ((r1 = 0 → qX6_error (1 : Int32) F G (fun r28 F28 G28 => Q r28 F28 G28)) ∧ (¬ r1 = 0 → qX6_within x2 (1 : Int32) (18 : Int32) (fun r11 => ((r11 = 0 → qX6_error (1 : Int32) F G (fun r28 F28 G28 => Q r28 F28 G28)) ∧ (¬ r11 = 0 → qX6_within x3 (0 : Int32) (2 : Int32) (fun r20 => ((¬ r20 = 0 → (vp_in x1 4) ∧ ((x1.toNatClampNeg = 0 → qX2_isMissing  (xsub F 42) (xsub G 66) (fun r42 F42 G42 => (∀ E42 : xF, E42 = (xspl F 42 2 F42) → (∀ H42 : xA, H42 = (xspl G 66 1 G42) → ((¬ r42 = 0 → qX6_error (2 : Int32) E42 H42 (fun r60 F60 G60 => Q r60 F60 G60)) ∧ (r42 = 0 → (((9 : Int32) ≤ (E42 43) → ∃ j76, qX6_whoHid_76 Q j76 x2 x3 (0 : Int32) (-1 : Int32) (-1 : Int32) (0 : Int32) E42 H42) ∧ (¬ (9 : Int32) ≤ (E42 43) → qX6_error (2 : Int32) E42 H42 (fun r60 F60 G60 => Q r60 F60 G60))))))))) ∧ (x1.toNatClampNeg = 1 → qX2_isMissing  (xsub F 44) (xsub G 67) (fun r42 F42 G42 => (∀ E42 : xF, E42 = (xspl F 44 2 F42) → (∀ H42 : xA, H42 = (xspl G 67 1 G42) → ((¬ r42 = 0 → qX6_error (2 : Int32) E42 H42 (fun r60 F60 G60 => Q r60 F60 G60)) ∧ (r42 = 0 → (((9 : Int32) ≤ (E42 45) → ∃ j76_1, qX6_whoHid_76_1 Q j76_1 x2 x3 (0 : Int32) (-1 : Int32) (-1 : Int32) (0 : Int32) E42 H42) ∧ (¬ (9 : Int32) ≤ (E42 45) → qX6_error (2 : Int32) E42 H42 (fun r60 F60 G60 => Q r60 F60 G60))))))))) ∧ (x1.toNatClampNeg = 2 → qX2_isMissing  (xsub F 46) (xsub G 68) (fun r42 F42 G42 => (∀ E42 : xF, E42 = (xspl F 46 2 F42) → (∀ H42 : xA, H42 = (xspl G 68 1 G42) → ((¬ r42 = 0 → qX6_error (2 : Int32) E42 H42 (fun r60 F60 G60 => Q r60 F60 G60)) ∧ (r42 = 0 → (((9 : Int32) ≤ (E42 47) → ∃ j76_2, qX6_whoHid_76_2 Q j76_2 x2 x3 (0 : Int32) (-1 : Int32) (-1 : Int32) (0 : Int32) E42 H42) ∧ (¬ (9 : Int32) ≤ (E42 47) → qX6_error (2 : Int32) E42 H42 (fun r60 F60 G60 => Q r60 F60 G60))))))))) ∧ (x1.toNatClampNeg = 3 → qX2_isMissing  (xsub F 48) (xsub G 69) (fun r42 F42 G42 => (∀ E42 : xF, E42 = (xspl F 48 2 F42) → (∀ H42 : xA, H42 = (xspl G 69 1 G42) → ((¬ r42 = 0 → qX6_error (2 : Int32) E42 H42 (fun r60 F60 G60 => Q r60 F60 G60)) ∧ (r42 = 0 → (((9 : Int32) ≤ (E42 49) → ∃ j76_3, qX6_whoHid_76_3 Q j76_3 x2 x3 (0 : Int32) (-1 : Int32) (-1 : Int32) (0 : Int32) E42 H42) ∧ (¬ (9 : Int32) ≤ (E42 49) → qX6_error (2 : Int32) E42 H42 (fun r60 F60 G60 => Q r60 F60 G60))))))))))) ∧ (r20 = 0 → qX6_error (1 : Int32) F G (fun r28 F28 G28 => Q r28 F28 G28))))))))))
set_option maxHeartbeats 4000000 in
set_option maxRecDepth 100000 in
theorem tX6_whoHid_76 (K : XK p m c cX6_whoHid 10 s args wsX6_whoHid RX6 D (xtys cI cO) A meth (some .int)) {Q : Int32 → xF → xA → Prop} : ∀ (n : Nat), ∀ (x2 : Int32) (x3 : Int32) (x5 : Int32) (x6 : Int32) (x7 : Int32) (x8 : Int32) (F : xF) (G : xA), qX6_whoHid_76 Q n x2 x3 x5 x6 x7 x8 F G → XJ p l e rmX6_whoHid s m args below meth c 0 0 (MQ below (xQi D (w6 cI cO a) A Q) args s 0 0 A) D (xtys cI cO) A 10 (w6 cI cO a F G) 76 [(0, .ref (a 0)), (2, .int x2), (3, .int x3), (4, .ref (a 97)), (5, .int x5), (6, .int x6), (7, .int x7), (8, .int x8)] [] := by
  intro n
  induction n with
  | zero =>
    intro x2 x3 x5 x6 x7 x8 F G h
    exact False.elim h
  | succ n ih =>
    intro x2 x3 x5 x6 x7 x8 F G h
    refine x_iload (pc' := 78) K dX6_whoHid_76 7 rfl rfl ?_
    refine x_bipush (pc' := 80) (v := 9) K dX6_whoHid_78 (by decide) rfl ?_
    refine x_icmp_ge (tgt := 127) (pc' := 83) K dX6_whoHid_80 rfl rfl (fun c80 => ?_) (fun c80 => ?_)
    · replace h := h.1 c80
      refine x_iload_n (pc' := 128) K dX6_whoHid_127 2 rfl rfl ?_
      refine x_if_ne (tgt := 134) (pc' := 131) K dX6_whoHid_128 rfl rfl (fun c128 => ?_) (fun c128 => ?_)
      · replace h := h.1 c128
        refine x_iload (pc' := 136) K dX6_whoHid_134 5 rfl rfl ?_
        refine x_if_ge (tgt := 145) (pc' := 139) K dX6_whoHid_136 rfl rfl (fun c136 => ?_) (fun c136 => ?_)
        · replace h := h.1 c136
          refine x_iload_n (pc' := 146) K dX6_whoHid_145 2 rfl rfl ?_
          refine x_iconst (pc' := 147) (v := 1) K dX6_whoHid_146 (by decide) rfl ?_
          refine x_icmp_ne (tgt := 155) (pc' := 150) K dX6_whoHid_147 rfl rfl (fun c147 => ?_) (fun c147 => ?_)
          · replace h := h.1 c147
            refine x_iload (pc' := 157) K dX6_whoHid_155 6 rfl rfl ?_
            exact x_iret (wf := w6 cI cO a) K h dX6_whoHid_157
          · replace h := h.2 c147
            refine x_iload (pc' := 152) K dX6_whoHid_150 5 rfl rfl ?_
            refine x_goto (tgt := 157) K dX6_whoHid_152 rfl ?_
            exact x_iret (wf := w6 cI cO a) K h dX6_whoHid_157
        · replace h := h.2 c136
          refine x_aload_n (pc' := 140) K dX6_whoHid_139 0 rfl rfl ?_
          refine x_iconst (pc' := 141) (v := 2) K dX6_whoHid_140 (by decide) rfl ?_
          refine x_callI (pc' := 144) K (mX6_error l D cI cO a _) rfl gX6_whoHid_X6_error rfl dsX6_error ⟨rfl, rfl, ⟨Nat.le_of_ble_eq_true rfl, Nat.le_of_ble_eq_true rfl⟩, Nat.le_of_ble_eq_true rfl, Nat.le_of_ble_eq_true rfl⟩ h 6 0 rfl rfl (st := []) rfl rfl (Nat.le_of_ble_eq_true rfl) dX6_whoHid_141 rfl (fun r141 F141 G141 h => ?_)
          exact x_iret (wf := w6 cI cO a) K h dX6_whoHid_144
      · replace h := h.2 c128
        refine x_iload (pc' := 133) K dX6_whoHid_131 4 rfl rfl ?_
        exact x_iret (wf := w6 cI cO a) K h dX6_whoHid_133
    · replace h := h.2 c80
      refine x_aload_n (pc' := 84) K dX6_whoHid_83 0 rfl rfl ?_
      refine x_iload (pc' := 86) K dX6_whoHid_84 7 rfl rfl ?_
      refine x_aload (pc' := 88) K dX6_whoHid_86 3 rfl rfl ?_
      refine x_iload_n (pc' := 89) K dX6_whoHid_88 1 rfl rfl ?_
      refine x_callI (pc' := 92) K (mX6_leastMark_0 l D cI cO a _ _) rfl gX6_whoHid_X6_leastMark rfl dsX6_leastMark ⟨rfl, rfl, ⟨Nat.le_of_ble_eq_true rfl, Nat.le_of_ble_eq_true rfl⟩, Nat.le_of_ble_eq_true rfl, Nat.le_of_ble_eq_true rfl⟩ h 6 0 rfl rfl (st := []) rfl rfl (Nat.le_of_ble_eq_true rfl) dX6_whoHid_89 rfl (fun r89 F89 G89 h => ?_)
      refine x_istore (pc' := 94) (i := 9) K dX6_whoHid_92 (by decide) [1, 2, 3, 4, 5, 6, 7, 8, 0] (L' := [(0, .ref (a 0)), (2, .int _), (3, .int _), (4, .ref (a 97)), (5, .int _), (6, .int _), (7, .int _), (8, .int _), (9, .int _)]) rfl rfl ?_
      refine x_iload (pc' := 96) K dX6_whoHid_94 8 rfl rfl ?_
      refine x_if_lt (tgt := 121) (pc' := 99) K dX6_whoHid_96 rfl rfl (fun c96 => ?_) (fun c96 => ?_)
      · replace h := h.1 c96
        refine x_iinc (pc' := 124) (v := _ + (1 : Int32)) K dX6_whoHid_121 7 rfl rfl (by decide) [1, 2, 3, 4, 5, 6, 7, 0, 8] (L' := [(0, .ref (a 0)), (2, .int _), (3, .int _), (4, .ref (a 97)), (5, .int _), (6, .int _), (7, .int _), (8, .int _), (9, .int _)]) rfl rfl ?_
        refine x_goto (tgt := 76) K dX6_whoHid_124 rfl ?_
        refine x_locals [0, 1, 2, 3, 4, 5, 6, 7] (L' := [(0, .ref (a 0)), (2, .int _), (3, .int _), (4, .ref (a 97)), (5, .int _), (6, .int _), (7, .int _), (8, .int _)]) rfl ?_
        exact ih _ _ _ _ _ _ _ _ h
      · replace h := h.2 c96
        refine x_iload (pc' := 101) K dX6_whoHid_99 4 rfl rfl ?_
        refine x_iconst (pc' := 102) (v := 1) K dX6_whoHid_101 (by decide) rfl ?_
        refine x_iload (pc' := 104) K dX6_whoHid_102 7 rfl rfl ?_
        refine x_ishl (pc' := 105) K dX6_whoHid_104 rfl ?_
        refine x_ior (pc' := 106) K dX6_whoHid_105 rfl ?_
        refine x_istore (pc' := 108) (i := 5) K dX6_whoHid_106 (by decide) [1, 2, 3, 4, 0, 5, 6, 7, 8] (L' := [(0, .ref (a 0)), (2, .int _), (3, .int _), (4, .ref (a 97)), (5, .int _), (6, .int _), (7, .int _), (8, .int _), (9, .int _)]) rfl rfl ?_
        refine x_iload (pc' := 110) K dX6_whoHid_108 5 rfl rfl ?_
        refine x_if_ge (tgt := 121) (pc' := 113) K dX6_whoHid_110 rfl rfl (fun c110 => ?_) (fun c110 => ?_)
        · replace h := h.1 c110
          refine x_iinc (pc' := 124) (v := _ + (1 : Int32)) K dX6_whoHid_121 7 rfl rfl (by decide) [1, 2, 3, 4, 5, 6, 7, 0, 8] (L' := [(0, .ref (a 0)), (2, .int _), (3, .int _), (4, .ref (a 97)), (5, .int _), (6, .int _), (7, .int _), (8, .int _), (9, .int _)]) rfl rfl ?_
          refine x_goto (tgt := 76) K dX6_whoHid_124 rfl ?_
          refine x_locals [0, 1, 2, 3, 4, 5, 6, 7] (L' := [(0, .ref (a 0)), (2, .int _), (3, .int _), (4, .ref (a 97)), (5, .int _), (6, .int _), (7, .int _), (8, .int _)]) rfl ?_
          exact ih _ _ _ _ _ _ _ _ h
        · replace h := h.2 c110
          refine x_iload (pc' := 115) K dX6_whoHid_113 7 rfl rfl ?_
          refine x_istore (pc' := 117) (i := 6) K dX6_whoHid_115 (by decide) [1, 2, 3, 4, 5, 0, 6, 7, 8] (L' := [(0, .ref (a 0)), (2, .int _), (3, .int _), (4, .ref (a 97)), (5, .int _), (6, .int _), (7, .int _), (8, .int _), (9, .int _)]) rfl rfl ?_
          refine x_iload (pc' := 119) K dX6_whoHid_117 8 rfl rfl ?_
          refine x_istore (pc' := 121) (i := 7) K dX6_whoHid_119 (by decide) [1, 2, 3, 4, 5, 6, 0, 7, 8] (L' := [(0, .ref (a 0)), (2, .int _), (3, .int _), (4, .ref (a 97)), (5, .int _), (6, .int _), (7, .int _), (8, .int _), (9, .int _)]) rfl rfl ?_
          refine x_iinc (pc' := 124) (v := _ + (1 : Int32)) K dX6_whoHid_121 7 rfl rfl (by decide) [1, 2, 3, 4, 5, 6, 7, 0, 8] (L' := [(0, .ref (a 0)), (2, .int _), (3, .int _), (4, .ref (a 97)), (5, .int _), (6, .int _), (7, .int _), (8, .int _), (9, .int _)]) rfl rfl ?_
          refine x_goto (tgt := 76) K dX6_whoHid_124 rfl ?_
          refine x_locals [0, 1, 2, 3, 4, 5, 6, 7] (L' := [(0, .ref (a 0)), (2, .int _), (3, .int _), (4, .ref (a 97)), (5, .int _), (6, .int _), (7, .int _), (8, .int _)]) rfl ?_
          exact ih _ _ _ _ _ _ _ _ h
set_option maxHeartbeats 4000000 in
set_option maxRecDepth 100000 in
theorem tX6_whoHid_76_1 (K : XK p m c cX6_whoHid 10 s args wsX6_whoHid RX6 D (xtys cI cO) A meth (some .int)) {Q : Int32 → xF → xA → Prop} : ∀ (n : Nat), ∀ (x2 : Int32) (x3 : Int32) (x5 : Int32) (x6 : Int32) (x7 : Int32) (x8 : Int32) (F : xF) (G : xA), qX6_whoHid_76_1 Q n x2 x3 x5 x6 x7 x8 F G → XJ p l e rmX6_whoHid s m args below meth c 0 0 (MQ below (xQi D (w6 cI cO a) A Q) args s 0 0 A) D (xtys cI cO) A 10 (w6 cI cO a F G) 76 [(0, .ref (a 0)), (2, .int x2), (3, .int x3), (4, .ref (a 99)), (5, .int x5), (6, .int x6), (7, .int x7), (8, .int x8)] [] := by
  intro n
  induction n with
  | zero =>
    intro x2 x3 x5 x6 x7 x8 F G h
    exact False.elim h
  | succ n ih =>
    intro x2 x3 x5 x6 x7 x8 F G h
    refine x_iload (pc' := 78) K dX6_whoHid_76 7 rfl rfl ?_
    refine x_bipush (pc' := 80) (v := 9) K dX6_whoHid_78 (by decide) rfl ?_
    refine x_icmp_ge (tgt := 127) (pc' := 83) K dX6_whoHid_80 rfl rfl (fun c80 => ?_) (fun c80 => ?_)
    · replace h := h.1 c80
      refine x_iload_n (pc' := 128) K dX6_whoHid_127 2 rfl rfl ?_
      refine x_if_ne (tgt := 134) (pc' := 131) K dX6_whoHid_128 rfl rfl (fun c128 => ?_) (fun c128 => ?_)
      · replace h := h.1 c128
        refine x_iload (pc' := 136) K dX6_whoHid_134 5 rfl rfl ?_
        refine x_if_ge (tgt := 145) (pc' := 139) K dX6_whoHid_136 rfl rfl (fun c136 => ?_) (fun c136 => ?_)
        · replace h := h.1 c136
          refine x_iload_n (pc' := 146) K dX6_whoHid_145 2 rfl rfl ?_
          refine x_iconst (pc' := 147) (v := 1) K dX6_whoHid_146 (by decide) rfl ?_
          refine x_icmp_ne (tgt := 155) (pc' := 150) K dX6_whoHid_147 rfl rfl (fun c147 => ?_) (fun c147 => ?_)
          · replace h := h.1 c147
            refine x_iload (pc' := 157) K dX6_whoHid_155 6 rfl rfl ?_
            exact x_iret (wf := w6 cI cO a) K h dX6_whoHid_157
          · replace h := h.2 c147
            refine x_iload (pc' := 152) K dX6_whoHid_150 5 rfl rfl ?_
            refine x_goto (tgt := 157) K dX6_whoHid_152 rfl ?_
            exact x_iret (wf := w6 cI cO a) K h dX6_whoHid_157
        · replace h := h.2 c136
          refine x_aload_n (pc' := 140) K dX6_whoHid_139 0 rfl rfl ?_
          refine x_iconst (pc' := 141) (v := 2) K dX6_whoHid_140 (by decide) rfl ?_
          refine x_callI (pc' := 144) K (mX6_error l D cI cO a _) rfl gX6_whoHid_X6_error rfl dsX6_error ⟨rfl, rfl, ⟨Nat.le_of_ble_eq_true rfl, Nat.le_of_ble_eq_true rfl⟩, Nat.le_of_ble_eq_true rfl, Nat.le_of_ble_eq_true rfl⟩ h 6 0 rfl rfl (st := []) rfl rfl (Nat.le_of_ble_eq_true rfl) dX6_whoHid_141 rfl (fun r141 F141 G141 h => ?_)
          exact x_iret (wf := w6 cI cO a) K h dX6_whoHid_144
      · replace h := h.2 c128
        refine x_iload (pc' := 133) K dX6_whoHid_131 4 rfl rfl ?_
        exact x_iret (wf := w6 cI cO a) K h dX6_whoHid_133
    · replace h := h.2 c80
      refine x_aload_n (pc' := 84) K dX6_whoHid_83 0 rfl rfl ?_
      refine x_iload (pc' := 86) K dX6_whoHid_84 7 rfl rfl ?_
      refine x_aload (pc' := 88) K dX6_whoHid_86 3 rfl rfl ?_
      refine x_iload_n (pc' := 89) K dX6_whoHid_88 1 rfl rfl ?_
      refine x_callI (pc' := 92) K (mX6_leastMark_1 l D cI cO a _ _) rfl gX6_whoHid_X6_leastMark rfl dsX6_leastMark ⟨rfl, rfl, ⟨Nat.le_of_ble_eq_true rfl, Nat.le_of_ble_eq_true rfl⟩, Nat.le_of_ble_eq_true rfl, Nat.le_of_ble_eq_true rfl⟩ h 6 0 rfl rfl (st := []) rfl rfl (Nat.le_of_ble_eq_true rfl) dX6_whoHid_89 rfl (fun r89 F89 G89 h => ?_)
      refine x_istore (pc' := 94) (i := 9) K dX6_whoHid_92 (by decide) [1, 2, 3, 4, 5, 6, 7, 8, 0] (L' := [(0, .ref (a 0)), (2, .int _), (3, .int _), (4, .ref (a 99)), (5, .int _), (6, .int _), (7, .int _), (8, .int _), (9, .int _)]) rfl rfl ?_
      refine x_iload (pc' := 96) K dX6_whoHid_94 8 rfl rfl ?_
      refine x_if_lt (tgt := 121) (pc' := 99) K dX6_whoHid_96 rfl rfl (fun c96 => ?_) (fun c96 => ?_)
      · replace h := h.1 c96
        refine x_iinc (pc' := 124) (v := _ + (1 : Int32)) K dX6_whoHid_121 7 rfl rfl (by decide) [1, 2, 3, 4, 5, 6, 7, 0, 8] (L' := [(0, .ref (a 0)), (2, .int _), (3, .int _), (4, .ref (a 99)), (5, .int _), (6, .int _), (7, .int _), (8, .int _), (9, .int _)]) rfl rfl ?_
        refine x_goto (tgt := 76) K dX6_whoHid_124 rfl ?_
        refine x_locals [0, 1, 2, 3, 4, 5, 6, 7] (L' := [(0, .ref (a 0)), (2, .int _), (3, .int _), (4, .ref (a 99)), (5, .int _), (6, .int _), (7, .int _), (8, .int _)]) rfl ?_
        exact ih _ _ _ _ _ _ _ _ h
      · replace h := h.2 c96
        refine x_iload (pc' := 101) K dX6_whoHid_99 4 rfl rfl ?_
        refine x_iconst (pc' := 102) (v := 1) K dX6_whoHid_101 (by decide) rfl ?_
        refine x_iload (pc' := 104) K dX6_whoHid_102 7 rfl rfl ?_
        refine x_ishl (pc' := 105) K dX6_whoHid_104 rfl ?_
        refine x_ior (pc' := 106) K dX6_whoHid_105 rfl ?_
        refine x_istore (pc' := 108) (i := 5) K dX6_whoHid_106 (by decide) [1, 2, 3, 4, 0, 5, 6, 7, 8] (L' := [(0, .ref (a 0)), (2, .int _), (3, .int _), (4, .ref (a 99)), (5, .int _), (6, .int _), (7, .int _), (8, .int _), (9, .int _)]) rfl rfl ?_
        refine x_iload (pc' := 110) K dX6_whoHid_108 5 rfl rfl ?_
        refine x_if_ge (tgt := 121) (pc' := 113) K dX6_whoHid_110 rfl rfl (fun c110 => ?_) (fun c110 => ?_)
        · replace h := h.1 c110
          refine x_iinc (pc' := 124) (v := _ + (1 : Int32)) K dX6_whoHid_121 7 rfl rfl (by decide) [1, 2, 3, 4, 5, 6, 7, 0, 8] (L' := [(0, .ref (a 0)), (2, .int _), (3, .int _), (4, .ref (a 99)), (5, .int _), (6, .int _), (7, .int _), (8, .int _), (9, .int _)]) rfl rfl ?_
          refine x_goto (tgt := 76) K dX6_whoHid_124 rfl ?_
          refine x_locals [0, 1, 2, 3, 4, 5, 6, 7] (L' := [(0, .ref (a 0)), (2, .int _), (3, .int _), (4, .ref (a 99)), (5, .int _), (6, .int _), (7, .int _), (8, .int _)]) rfl ?_
          exact ih _ _ _ _ _ _ _ _ h
        · replace h := h.2 c110
          refine x_iload (pc' := 115) K dX6_whoHid_113 7 rfl rfl ?_
          refine x_istore (pc' := 117) (i := 6) K dX6_whoHid_115 (by decide) [1, 2, 3, 4, 5, 0, 6, 7, 8] (L' := [(0, .ref (a 0)), (2, .int _), (3, .int _), (4, .ref (a 99)), (5, .int _), (6, .int _), (7, .int _), (8, .int _), (9, .int _)]) rfl rfl ?_
          refine x_iload (pc' := 119) K dX6_whoHid_117 8 rfl rfl ?_
          refine x_istore (pc' := 121) (i := 7) K dX6_whoHid_119 (by decide) [1, 2, 3, 4, 5, 6, 0, 7, 8] (L' := [(0, .ref (a 0)), (2, .int _), (3, .int _), (4, .ref (a 99)), (5, .int _), (6, .int _), (7, .int _), (8, .int _), (9, .int _)]) rfl rfl ?_
          refine x_iinc (pc' := 124) (v := _ + (1 : Int32)) K dX6_whoHid_121 7 rfl rfl (by decide) [1, 2, 3, 4, 5, 6, 7, 0, 8] (L' := [(0, .ref (a 0)), (2, .int _), (3, .int _), (4, .ref (a 99)), (5, .int _), (6, .int _), (7, .int _), (8, .int _), (9, .int _)]) rfl rfl ?_
          refine x_goto (tgt := 76) K dX6_whoHid_124 rfl ?_
          refine x_locals [0, 1, 2, 3, 4, 5, 6, 7] (L' := [(0, .ref (a 0)), (2, .int _), (3, .int _), (4, .ref (a 99)), (5, .int _), (6, .int _), (7, .int _), (8, .int _)]) rfl ?_
          exact ih _ _ _ _ _ _ _ _ h
set_option maxHeartbeats 4000000 in
set_option maxRecDepth 100000 in
theorem tX6_whoHid_76_2 (K : XK p m c cX6_whoHid 10 s args wsX6_whoHid RX6 D (xtys cI cO) A meth (some .int)) {Q : Int32 → xF → xA → Prop} : ∀ (n : Nat), ∀ (x2 : Int32) (x3 : Int32) (x5 : Int32) (x6 : Int32) (x7 : Int32) (x8 : Int32) (F : xF) (G : xA), qX6_whoHid_76_2 Q n x2 x3 x5 x6 x7 x8 F G → XJ p l e rmX6_whoHid s m args below meth c 0 0 (MQ below (xQi D (w6 cI cO a) A Q) args s 0 0 A) D (xtys cI cO) A 10 (w6 cI cO a F G) 76 [(0, .ref (a 0)), (2, .int x2), (3, .int x3), (4, .ref (a 101)), (5, .int x5), (6, .int x6), (7, .int x7), (8, .int x8)] [] := by
  intro n
  induction n with
  | zero =>
    intro x2 x3 x5 x6 x7 x8 F G h
    exact False.elim h
  | succ n ih =>
    intro x2 x3 x5 x6 x7 x8 F G h
    refine x_iload (pc' := 78) K dX6_whoHid_76 7 rfl rfl ?_
    refine x_bipush (pc' := 80) (v := 9) K dX6_whoHid_78 (by decide) rfl ?_
    refine x_icmp_ge (tgt := 127) (pc' := 83) K dX6_whoHid_80 rfl rfl (fun c80 => ?_) (fun c80 => ?_)
    · replace h := h.1 c80
      refine x_iload_n (pc' := 128) K dX6_whoHid_127 2 rfl rfl ?_
      refine x_if_ne (tgt := 134) (pc' := 131) K dX6_whoHid_128 rfl rfl (fun c128 => ?_) (fun c128 => ?_)
      · replace h := h.1 c128
        refine x_iload (pc' := 136) K dX6_whoHid_134 5 rfl rfl ?_
        refine x_if_ge (tgt := 145) (pc' := 139) K dX6_whoHid_136 rfl rfl (fun c136 => ?_) (fun c136 => ?_)
        · replace h := h.1 c136
          refine x_iload_n (pc' := 146) K dX6_whoHid_145 2 rfl rfl ?_
          refine x_iconst (pc' := 147) (v := 1) K dX6_whoHid_146 (by decide) rfl ?_
          refine x_icmp_ne (tgt := 155) (pc' := 150) K dX6_whoHid_147 rfl rfl (fun c147 => ?_) (fun c147 => ?_)
          · replace h := h.1 c147
            refine x_iload (pc' := 157) K dX6_whoHid_155 6 rfl rfl ?_
            exact x_iret (wf := w6 cI cO a) K h dX6_whoHid_157
          · replace h := h.2 c147
            refine x_iload (pc' := 152) K dX6_whoHid_150 5 rfl rfl ?_
            refine x_goto (tgt := 157) K dX6_whoHid_152 rfl ?_
            exact x_iret (wf := w6 cI cO a) K h dX6_whoHid_157
        · replace h := h.2 c136
          refine x_aload_n (pc' := 140) K dX6_whoHid_139 0 rfl rfl ?_
          refine x_iconst (pc' := 141) (v := 2) K dX6_whoHid_140 (by decide) rfl ?_
          refine x_callI (pc' := 144) K (mX6_error l D cI cO a _) rfl gX6_whoHid_X6_error rfl dsX6_error ⟨rfl, rfl, ⟨Nat.le_of_ble_eq_true rfl, Nat.le_of_ble_eq_true rfl⟩, Nat.le_of_ble_eq_true rfl, Nat.le_of_ble_eq_true rfl⟩ h 6 0 rfl rfl (st := []) rfl rfl (Nat.le_of_ble_eq_true rfl) dX6_whoHid_141 rfl (fun r141 F141 G141 h => ?_)
          exact x_iret (wf := w6 cI cO a) K h dX6_whoHid_144
      · replace h := h.2 c128
        refine x_iload (pc' := 133) K dX6_whoHid_131 4 rfl rfl ?_
        exact x_iret (wf := w6 cI cO a) K h dX6_whoHid_133
    · replace h := h.2 c80
      refine x_aload_n (pc' := 84) K dX6_whoHid_83 0 rfl rfl ?_
      refine x_iload (pc' := 86) K dX6_whoHid_84 7 rfl rfl ?_
      refine x_aload (pc' := 88) K dX6_whoHid_86 3 rfl rfl ?_
      refine x_iload_n (pc' := 89) K dX6_whoHid_88 1 rfl rfl ?_
      refine x_callI (pc' := 92) K (mX6_leastMark_2 l D cI cO a _ _) rfl gX6_whoHid_X6_leastMark rfl dsX6_leastMark ⟨rfl, rfl, ⟨Nat.le_of_ble_eq_true rfl, Nat.le_of_ble_eq_true rfl⟩, Nat.le_of_ble_eq_true rfl, Nat.le_of_ble_eq_true rfl⟩ h 6 0 rfl rfl (st := []) rfl rfl (Nat.le_of_ble_eq_true rfl) dX6_whoHid_89 rfl (fun r89 F89 G89 h => ?_)
      refine x_istore (pc' := 94) (i := 9) K dX6_whoHid_92 (by decide) [1, 2, 3, 4, 5, 6, 7, 8, 0] (L' := [(0, .ref (a 0)), (2, .int _), (3, .int _), (4, .ref (a 101)), (5, .int _), (6, .int _), (7, .int _), (8, .int _), (9, .int _)]) rfl rfl ?_
      refine x_iload (pc' := 96) K dX6_whoHid_94 8 rfl rfl ?_
      refine x_if_lt (tgt := 121) (pc' := 99) K dX6_whoHid_96 rfl rfl (fun c96 => ?_) (fun c96 => ?_)
      · replace h := h.1 c96
        refine x_iinc (pc' := 124) (v := _ + (1 : Int32)) K dX6_whoHid_121 7 rfl rfl (by decide) [1, 2, 3, 4, 5, 6, 7, 0, 8] (L' := [(0, .ref (a 0)), (2, .int _), (3, .int _), (4, .ref (a 101)), (5, .int _), (6, .int _), (7, .int _), (8, .int _), (9, .int _)]) rfl rfl ?_
        refine x_goto (tgt := 76) K dX6_whoHid_124 rfl ?_
        refine x_locals [0, 1, 2, 3, 4, 5, 6, 7] (L' := [(0, .ref (a 0)), (2, .int _), (3, .int _), (4, .ref (a 101)), (5, .int _), (6, .int _), (7, .int _), (8, .int _)]) rfl ?_
        exact ih _ _ _ _ _ _ _ _ h
      · replace h := h.2 c96
        refine x_iload (pc' := 101) K dX6_whoHid_99 4 rfl rfl ?_
        refine x_iconst (pc' := 102) (v := 1) K dX6_whoHid_101 (by decide) rfl ?_
        refine x_iload (pc' := 104) K dX6_whoHid_102 7 rfl rfl ?_
        refine x_ishl (pc' := 105) K dX6_whoHid_104 rfl ?_
        refine x_ior (pc' := 106) K dX6_whoHid_105 rfl ?_
        refine x_istore (pc' := 108) (i := 5) K dX6_whoHid_106 (by decide) [1, 2, 3, 4, 0, 5, 6, 7, 8] (L' := [(0, .ref (a 0)), (2, .int _), (3, .int _), (4, .ref (a 101)), (5, .int _), (6, .int _), (7, .int _), (8, .int _), (9, .int _)]) rfl rfl ?_
        refine x_iload (pc' := 110) K dX6_whoHid_108 5 rfl rfl ?_
        refine x_if_ge (tgt := 121) (pc' := 113) K dX6_whoHid_110 rfl rfl (fun c110 => ?_) (fun c110 => ?_)
        · replace h := h.1 c110
          refine x_iinc (pc' := 124) (v := _ + (1 : Int32)) K dX6_whoHid_121 7 rfl rfl (by decide) [1, 2, 3, 4, 5, 6, 7, 0, 8] (L' := [(0, .ref (a 0)), (2, .int _), (3, .int _), (4, .ref (a 101)), (5, .int _), (6, .int _), (7, .int _), (8, .int _), (9, .int _)]) rfl rfl ?_
          refine x_goto (tgt := 76) K dX6_whoHid_124 rfl ?_
          refine x_locals [0, 1, 2, 3, 4, 5, 6, 7] (L' := [(0, .ref (a 0)), (2, .int _), (3, .int _), (4, .ref (a 101)), (5, .int _), (6, .int _), (7, .int _), (8, .int _)]) rfl ?_
          exact ih _ _ _ _ _ _ _ _ h
        · replace h := h.2 c110
          refine x_iload (pc' := 115) K dX6_whoHid_113 7 rfl rfl ?_
          refine x_istore (pc' := 117) (i := 6) K dX6_whoHid_115 (by decide) [1, 2, 3, 4, 5, 0, 6, 7, 8] (L' := [(0, .ref (a 0)), (2, .int _), (3, .int _), (4, .ref (a 101)), (5, .int _), (6, .int _), (7, .int _), (8, .int _), (9, .int _)]) rfl rfl ?_
          refine x_iload (pc' := 119) K dX6_whoHid_117 8 rfl rfl ?_
          refine x_istore (pc' := 121) (i := 7) K dX6_whoHid_119 (by decide) [1, 2, 3, 4, 5, 6, 0, 7, 8] (L' := [(0, .ref (a 0)), (2, .int _), (3, .int _), (4, .ref (a 101)), (5, .int _), (6, .int _), (7, .int _), (8, .int _), (9, .int _)]) rfl rfl ?_
          refine x_iinc (pc' := 124) (v := _ + (1 : Int32)) K dX6_whoHid_121 7 rfl rfl (by decide) [1, 2, 3, 4, 5, 6, 7, 0, 8] (L' := [(0, .ref (a 0)), (2, .int _), (3, .int _), (4, .ref (a 101)), (5, .int _), (6, .int _), (7, .int _), (8, .int _), (9, .int _)]) rfl rfl ?_
          refine x_goto (tgt := 76) K dX6_whoHid_124 rfl ?_
          refine x_locals [0, 1, 2, 3, 4, 5, 6, 7] (L' := [(0, .ref (a 0)), (2, .int _), (3, .int _), (4, .ref (a 101)), (5, .int _), (6, .int _), (7, .int _), (8, .int _)]) rfl ?_
          exact ih _ _ _ _ _ _ _ _ h
set_option maxHeartbeats 4000000 in
set_option maxRecDepth 100000 in
theorem tX6_whoHid_76_3 (K : XK p m c cX6_whoHid 10 s args wsX6_whoHid RX6 D (xtys cI cO) A meth (some .int)) {Q : Int32 → xF → xA → Prop} : ∀ (n : Nat), ∀ (x2 : Int32) (x3 : Int32) (x5 : Int32) (x6 : Int32) (x7 : Int32) (x8 : Int32) (F : xF) (G : xA), qX6_whoHid_76_3 Q n x2 x3 x5 x6 x7 x8 F G → XJ p l e rmX6_whoHid s m args below meth c 0 0 (MQ below (xQi D (w6 cI cO a) A Q) args s 0 0 A) D (xtys cI cO) A 10 (w6 cI cO a F G) 76 [(0, .ref (a 0)), (2, .int x2), (3, .int x3), (4, .ref (a 103)), (5, .int x5), (6, .int x6), (7, .int x7), (8, .int x8)] [] := by
  intro n
  induction n with
  | zero =>
    intro x2 x3 x5 x6 x7 x8 F G h
    exact False.elim h
  | succ n ih =>
    intro x2 x3 x5 x6 x7 x8 F G h
    refine x_iload (pc' := 78) K dX6_whoHid_76 7 rfl rfl ?_
    refine x_bipush (pc' := 80) (v := 9) K dX6_whoHid_78 (by decide) rfl ?_
    refine x_icmp_ge (tgt := 127) (pc' := 83) K dX6_whoHid_80 rfl rfl (fun c80 => ?_) (fun c80 => ?_)
    · replace h := h.1 c80
      refine x_iload_n (pc' := 128) K dX6_whoHid_127 2 rfl rfl ?_
      refine x_if_ne (tgt := 134) (pc' := 131) K dX6_whoHid_128 rfl rfl (fun c128 => ?_) (fun c128 => ?_)
      · replace h := h.1 c128
        refine x_iload (pc' := 136) K dX6_whoHid_134 5 rfl rfl ?_
        refine x_if_ge (tgt := 145) (pc' := 139) K dX6_whoHid_136 rfl rfl (fun c136 => ?_) (fun c136 => ?_)
        · replace h := h.1 c136
          refine x_iload_n (pc' := 146) K dX6_whoHid_145 2 rfl rfl ?_
          refine x_iconst (pc' := 147) (v := 1) K dX6_whoHid_146 (by decide) rfl ?_
          refine x_icmp_ne (tgt := 155) (pc' := 150) K dX6_whoHid_147 rfl rfl (fun c147 => ?_) (fun c147 => ?_)
          · replace h := h.1 c147
            refine x_iload (pc' := 157) K dX6_whoHid_155 6 rfl rfl ?_
            exact x_iret (wf := w6 cI cO a) K h dX6_whoHid_157
          · replace h := h.2 c147
            refine x_iload (pc' := 152) K dX6_whoHid_150 5 rfl rfl ?_
            refine x_goto (tgt := 157) K dX6_whoHid_152 rfl ?_
            exact x_iret (wf := w6 cI cO a) K h dX6_whoHid_157
        · replace h := h.2 c136
          refine x_aload_n (pc' := 140) K dX6_whoHid_139 0 rfl rfl ?_
          refine x_iconst (pc' := 141) (v := 2) K dX6_whoHid_140 (by decide) rfl ?_
          refine x_callI (pc' := 144) K (mX6_error l D cI cO a _) rfl gX6_whoHid_X6_error rfl dsX6_error ⟨rfl, rfl, ⟨Nat.le_of_ble_eq_true rfl, Nat.le_of_ble_eq_true rfl⟩, Nat.le_of_ble_eq_true rfl, Nat.le_of_ble_eq_true rfl⟩ h 6 0 rfl rfl (st := []) rfl rfl (Nat.le_of_ble_eq_true rfl) dX6_whoHid_141 rfl (fun r141 F141 G141 h => ?_)
          exact x_iret (wf := w6 cI cO a) K h dX6_whoHid_144
      · replace h := h.2 c128
        refine x_iload (pc' := 133) K dX6_whoHid_131 4 rfl rfl ?_
        exact x_iret (wf := w6 cI cO a) K h dX6_whoHid_133
    · replace h := h.2 c80
      refine x_aload_n (pc' := 84) K dX6_whoHid_83 0 rfl rfl ?_
      refine x_iload (pc' := 86) K dX6_whoHid_84 7 rfl rfl ?_
      refine x_aload (pc' := 88) K dX6_whoHid_86 3 rfl rfl ?_
      refine x_iload_n (pc' := 89) K dX6_whoHid_88 1 rfl rfl ?_
      refine x_callI (pc' := 92) K (mX6_leastMark_3 l D cI cO a _ _) rfl gX6_whoHid_X6_leastMark rfl dsX6_leastMark ⟨rfl, rfl, ⟨Nat.le_of_ble_eq_true rfl, Nat.le_of_ble_eq_true rfl⟩, Nat.le_of_ble_eq_true rfl, Nat.le_of_ble_eq_true rfl⟩ h 6 0 rfl rfl (st := []) rfl rfl (Nat.le_of_ble_eq_true rfl) dX6_whoHid_89 rfl (fun r89 F89 G89 h => ?_)
      refine x_istore (pc' := 94) (i := 9) K dX6_whoHid_92 (by decide) [1, 2, 3, 4, 5, 6, 7, 8, 0] (L' := [(0, .ref (a 0)), (2, .int _), (3, .int _), (4, .ref (a 103)), (5, .int _), (6, .int _), (7, .int _), (8, .int _), (9, .int _)]) rfl rfl ?_
      refine x_iload (pc' := 96) K dX6_whoHid_94 8 rfl rfl ?_
      refine x_if_lt (tgt := 121) (pc' := 99) K dX6_whoHid_96 rfl rfl (fun c96 => ?_) (fun c96 => ?_)
      · replace h := h.1 c96
        refine x_iinc (pc' := 124) (v := _ + (1 : Int32)) K dX6_whoHid_121 7 rfl rfl (by decide) [1, 2, 3, 4, 5, 6, 7, 0, 8] (L' := [(0, .ref (a 0)), (2, .int _), (3, .int _), (4, .ref (a 103)), (5, .int _), (6, .int _), (7, .int _), (8, .int _), (9, .int _)]) rfl rfl ?_
        refine x_goto (tgt := 76) K dX6_whoHid_124 rfl ?_
        refine x_locals [0, 1, 2, 3, 4, 5, 6, 7] (L' := [(0, .ref (a 0)), (2, .int _), (3, .int _), (4, .ref (a 103)), (5, .int _), (6, .int _), (7, .int _), (8, .int _)]) rfl ?_
        exact ih _ _ _ _ _ _ _ _ h
      · replace h := h.2 c96
        refine x_iload (pc' := 101) K dX6_whoHid_99 4 rfl rfl ?_
        refine x_iconst (pc' := 102) (v := 1) K dX6_whoHid_101 (by decide) rfl ?_
        refine x_iload (pc' := 104) K dX6_whoHid_102 7 rfl rfl ?_
        refine x_ishl (pc' := 105) K dX6_whoHid_104 rfl ?_
        refine x_ior (pc' := 106) K dX6_whoHid_105 rfl ?_
        refine x_istore (pc' := 108) (i := 5) K dX6_whoHid_106 (by decide) [1, 2, 3, 4, 0, 5, 6, 7, 8] (L' := [(0, .ref (a 0)), (2, .int _), (3, .int _), (4, .ref (a 103)), (5, .int _), (6, .int _), (7, .int _), (8, .int _), (9, .int _)]) rfl rfl ?_
        refine x_iload (pc' := 110) K dX6_whoHid_108 5 rfl rfl ?_
        refine x_if_ge (tgt := 121) (pc' := 113) K dX6_whoHid_110 rfl rfl (fun c110 => ?_) (fun c110 => ?_)
        · replace h := h.1 c110
          refine x_iinc (pc' := 124) (v := _ + (1 : Int32)) K dX6_whoHid_121 7 rfl rfl (by decide) [1, 2, 3, 4, 5, 6, 7, 0, 8] (L' := [(0, .ref (a 0)), (2, .int _), (3, .int _), (4, .ref (a 103)), (5, .int _), (6, .int _), (7, .int _), (8, .int _), (9, .int _)]) rfl rfl ?_
          refine x_goto (tgt := 76) K dX6_whoHid_124 rfl ?_
          refine x_locals [0, 1, 2, 3, 4, 5, 6, 7] (L' := [(0, .ref (a 0)), (2, .int _), (3, .int _), (4, .ref (a 103)), (5, .int _), (6, .int _), (7, .int _), (8, .int _)]) rfl ?_
          exact ih _ _ _ _ _ _ _ _ h
        · replace h := h.2 c110
          refine x_iload (pc' := 115) K dX6_whoHid_113 7 rfl rfl ?_
          refine x_istore (pc' := 117) (i := 6) K dX6_whoHid_115 (by decide) [1, 2, 3, 4, 5, 0, 6, 7, 8] (L' := [(0, .ref (a 0)), (2, .int _), (3, .int _), (4, .ref (a 103)), (5, .int _), (6, .int _), (7, .int _), (8, .int _), (9, .int _)]) rfl rfl ?_
          refine x_iload (pc' := 119) K dX6_whoHid_117 8 rfl rfl ?_
          refine x_istore (pc' := 121) (i := 7) K dX6_whoHid_119 (by decide) [1, 2, 3, 4, 5, 6, 0, 7, 8] (L' := [(0, .ref (a 0)), (2, .int _), (3, .int _), (4, .ref (a 103)), (5, .int _), (6, .int _), (7, .int _), (8, .int _), (9, .int _)]) rfl rfl ?_
          refine x_iinc (pc' := 124) (v := _ + (1 : Int32)) K dX6_whoHid_121 7 rfl rfl (by decide) [1, 2, 3, 4, 5, 6, 7, 0, 8] (L' := [(0, .ref (a 0)), (2, .int _), (3, .int _), (4, .ref (a 103)), (5, .int _), (6, .int _), (7, .int _), (8, .int _), (9, .int _)]) rfl rfl ?_
          refine x_goto (tgt := 76) K dX6_whoHid_124 rfl ?_
          refine x_locals [0, 1, 2, 3, 4, 5, 6, 7] (L' := [(0, .ref (a 0)), (2, .int _), (3, .int _), (4, .ref (a 103)), (5, .int _), (6, .int _), (7, .int _), (8, .int _)]) rfl ?_
          exact ih _ _ _ _ _ _ _ _ h
set_option maxHeartbeats 4000000 in
set_option maxRecDepth 100000 in
theorem mX6_whoHid (l : Launch) (D : va_G) (cI cO : ClassId) (a : Nat → Nat)  (x1 : Int32) (x2 : Int32) (x3 : Int32) : MI l yX6_whoHid wsX6_whoHid rmX6_whoHid D (xtys cI cO) [.ref (a 0), .int x1, .int x2, .int x3] (w6 cI cO a) (qX6_whoHid x1 x2 x3) := by
  refine MI_of (cc := cX6_whoHid) (maxL := 10) (own := RX6) (by decide) rfl rfl (Nat.le_of_ble_eq_true rfl) ?_
  intro p e s m args below meth c A F G Q h K
  refine x_locals [0, 1, 2, 3] (L' := [(0, .ref (a 0)), (1, .int _), (2, .int _), (3, .int _)]) rfl ?_
  refine x_iload_n (pc' := 1) K dX6_whoHid_0 1 rfl rfl ?_
  refine x_callS (pc' := 4) K (mX6_isSheet l D cI cO a _) rfl gX6_whoHid_X6_isSheet dsX6_isSheet ⟨rfl, rfl, ⟨Nat.le_of_ble_eq_true rfl, Nat.le_of_ble_eq_true rfl⟩, Nat.le_of_ble_eq_true rfl, Nat.le_of_ble_eq_true rfl⟩ h (st := []) rfl rfl (Nat.le_of_ble_eq_true rfl) dX6_whoHid_1 rfl (fun r1 h => ?_)
  refine x_if_eq (tgt := 26) (pc' := 7) K dX6_whoHid_4 rfl rfl (fun c4 => ?_) (fun c4 => ?_)
  · replace h := h.1 c4
    refine x_aload_n (pc' := 27) K dX6_whoHid_26 0 rfl rfl ?_
    refine x_iconst (pc' := 28) (v := 1) K dX6_whoHid_27 (by decide) rfl ?_
    refine x_callI (pc' := 31) K (mX6_error l D cI cO a _) rfl gX6_whoHid_X6_error rfl dsX6_error ⟨rfl, rfl, ⟨Nat.le_of_ble_eq_true rfl, Nat.le_of_ble_eq_true rfl⟩, Nat.le_of_ble_eq_true rfl, Nat.le_of_ble_eq_true rfl⟩ h 6 0 rfl rfl (st := []) rfl rfl (Nat.le_of_ble_eq_true rfl) dX6_whoHid_28 rfl (fun r28 F28 G28 h => ?_)
    exact x_iret (wf := w6 cI cO a) K h dX6_whoHid_31
  · replace h := h.2 c4
    refine x_iload_n (pc' := 8) K dX6_whoHid_7 2 rfl rfl ?_
    refine x_iconst (pc' := 9) (v := 1) K dX6_whoHid_8 (by decide) rfl ?_
    refine x_bipush (pc' := 11) (v := 18) K dX6_whoHid_9 (by decide) rfl ?_
    refine x_callS (pc' := 14) K (mX6_within l D cI cO a _ _ _) rfl gX6_whoHid_X6_within dsX6_within ⟨rfl, rfl, ⟨Nat.le_of_ble_eq_true rfl, Nat.le_of_ble_eq_true rfl⟩, Nat.le_of_ble_eq_true rfl, Nat.le_of_ble_eq_true rfl⟩ h (st := []) rfl rfl (Nat.le_of_ble_eq_true rfl) dX6_whoHid_11 rfl (fun r11 h => ?_)
    refine x_if_eq (tgt := 26) (pc' := 17) K dX6_whoHid_14 rfl rfl (fun c14 => ?_) (fun c14 => ?_)
    · replace h := h.1 c14
      refine x_aload_n (pc' := 27) K dX6_whoHid_26 0 rfl rfl ?_
      refine x_iconst (pc' := 28) (v := 1) K dX6_whoHid_27 (by decide) rfl ?_
      refine x_callI (pc' := 31) K (mX6_error l D cI cO a _) rfl gX6_whoHid_X6_error rfl dsX6_error ⟨rfl, rfl, ⟨Nat.le_of_ble_eq_true rfl, Nat.le_of_ble_eq_true rfl⟩, Nat.le_of_ble_eq_true rfl, Nat.le_of_ble_eq_true rfl⟩ h 6 0 rfl rfl (st := []) rfl rfl (Nat.le_of_ble_eq_true rfl) dX6_whoHid_28 rfl (fun r28 F28 G28 h => ?_)
      exact x_iret (wf := w6 cI cO a) K h dX6_whoHid_31
    · replace h := h.2 c14
      refine x_iload_n (pc' := 18) K dX6_whoHid_17 3 rfl rfl ?_
      refine x_iconst (pc' := 19) (v := 0) K dX6_whoHid_18 (by decide) rfl ?_
      refine x_iconst (pc' := 20) (v := 2) K dX6_whoHid_19 (by decide) rfl ?_
      refine x_callS (pc' := 23) K (mX6_within l D cI cO a _ _ _) rfl gX6_whoHid_X6_within dsX6_within ⟨rfl, rfl, ⟨Nat.le_of_ble_eq_true rfl, Nat.le_of_ble_eq_true rfl⟩, Nat.le_of_ble_eq_true rfl, Nat.le_of_ble_eq_true rfl⟩ h (st := []) rfl rfl (Nat.le_of_ble_eq_true rfl) dX6_whoHid_20 rfl (fun r20 h => ?_)
      refine x_if_ne (tgt := 32) (pc' := 26) K dX6_whoHid_23 rfl rfl (fun c23 => ?_) (fun c23 => ?_)
      · replace h := h.1 c23
        refine x_aload_n (pc' := 33) K dX6_whoHid_32 0 rfl rfl ?_
        refine xw6_0g_sheets (pc' := 36) K hinX6_whoHid_X6 uX6_whoHid_f70 dX6_whoHid_33 rfl ?_
        refine x_iload_n (pc' := 37) K dX6_whoHid_36 1 rfl rfl ?_
        obtain ⟨i37, h⟩ := h
        rcases xin4 i37 with e37 | e37 | e37 | e37
        · replace h := h.1 e37
          refine xw6_96q0 (pc' := 38) K i37 e37 dX6_whoHid_37 rfl ?_
          refine x_astore (pc' := 40) (i := 4) K dX6_whoHid_38 (by decide) [1, 2, 3, 4, 0] (L' := [(0, .ref (a 0)), (1, .int _), (2, .int _), (3, .int _), (4, .ref (a 97))]) rfl rfl ?_
          refine x_aload (pc' := 42) K dX6_whoHid_40 4 rfl rfl ?_
          refine x_subI (pc' := 45) (wn := fun F' G' => w6 cI cO a (xspl F 42 2 F') (xspl G 66 1 G')) K (mX2_isMissing l D cI cO (xsub a 97)) rfl gX6_whoHid_X2_isMissing rfl dsX2_isMissing ⟨rfl, rfl, ⟨Nat.le_of_ble_eq_true rfl, Nat.le_of_ble_eq_true rfl⟩, Nat.le_of_ble_eq_true rfl, Nat.le_of_ble_eq_true rfl⟩ h 2 0 rfl rfl (xpl31 cI cO a _ _) (fun F' G' => xpr31 cI cO a _ _ F' G') (st := []) rfl rfl (Nat.le_of_ble_eq_true rfl) dX6_whoHid_42 rfl (fun r42 F42 G42 h => ?_)
          obtain ⟨E42, eE42⟩ : ∃ x : xF, x = (xspl F 42 2 F42) := ⟨_, rfl⟩
          obtain ⟨H42, eH42⟩ : ∃ x : xA, x = (xspl G 66 1 G42) := ⟨_, rfl⟩
          refine x_weq (w' := w6 cI cO a E42 H42) (by subst eE42; subst eH42; rfl) ?_
          replace h := h E42 eE42
          replace h := h H42 eH42
          refine x_if_ne (tgt := 58) (pc' := 48) K dX6_whoHid_45 rfl rfl (fun c45 => ?_) (fun c45 => ?_)
          · replace h := h.1 c45
            refine x_aload_n (pc' := 59) K dX6_whoHid_58 0 rfl rfl ?_
            refine x_iconst (pc' := 60) (v := 2) K dX6_whoHid_59 (by decide) rfl ?_
            refine x_callI (pc' := 63) K (mX6_error l D cI cO a _) rfl gX6_whoHid_X6_error rfl dsX6_error ⟨rfl, rfl, ⟨Nat.le_of_ble_eq_true rfl, Nat.le_of_ble_eq_true rfl⟩, Nat.le_of_ble_eq_true rfl, Nat.le_of_ble_eq_true rfl⟩ h 6 0 rfl rfl (st := []) rfl rfl (Nat.le_of_ble_eq_true rfl) dX6_whoHid_60 rfl (fun r60 F60 G60 h => ?_)
            exact x_iret (wf := w6 cI cO a) K h dX6_whoHid_63
          · replace h := h.2 c45
            refine x_aload (pc' := 50) K dX6_whoHid_48 4 rfl rfl ?_
            refine xw6_97g_size (pc' := 53) K hinX6_whoHid_X2 uX6_whoHid_f212 dX6_whoHid_50 rfl ?_
            refine x_bipush (pc' := 55) (v := 9) K dX6_whoHid_53 (by decide) rfl ?_
            refine x_icmp_ge (tgt := 64) (pc' := 58) K dX6_whoHid_55 rfl rfl (fun c55 => ?_) (fun c55 => ?_)
            · replace h := h.1 c55
              refine x_iconst (pc' := 65) (v := 0) K dX6_whoHid_64 (by decide) rfl ?_
              refine x_istore (pc' := 67) (i := 5) K dX6_whoHid_65 (by decide) [1, 2, 3, 4, 5, 0] (L' := [(0, .ref (a 0)), (1, .int _), (2, .int _), (3, .int _), (4, .ref (a 97)), (5, .int _)]) rfl rfl ?_
              refine x_iconst (pc' := 68) (v := -1) K dX6_whoHid_67 (by decide) rfl ?_
              refine x_istore (pc' := 70) (i := 6) K dX6_whoHid_68 (by decide) [1, 2, 3, 4, 5, 6, 0] (L' := [(0, .ref (a 0)), (1, .int _), (2, .int _), (3, .int _), (4, .ref (a 97)), (5, .int _), (6, .int _)]) rfl rfl ?_
              refine x_iconst (pc' := 71) (v := -1) K dX6_whoHid_70 (by decide) rfl ?_
              refine x_istore (pc' := 73) (i := 7) K dX6_whoHid_71 (by decide) [1, 2, 3, 4, 5, 6, 7, 0] (L' := [(0, .ref (a 0)), (1, .int _), (2, .int _), (3, .int _), (4, .ref (a 97)), (5, .int _), (6, .int _), (7, .int _)]) rfl rfl ?_
              refine x_iconst (pc' := 74) (v := 0) K dX6_whoHid_73 (by decide) rfl ?_
              refine x_istore (pc' := 76) (i := 8) K dX6_whoHid_74 (by decide) [1, 2, 3, 4, 5, 6, 7, 8, 0] (L' := [(0, .ref (a 0)), (1, .int _), (2, .int _), (3, .int _), (4, .ref (a 97)), (5, .int _), (6, .int _), (7, .int _), (8, .int _)]) rfl rfl ?_
              refine x_locals [0, 2, 3, 4, 5, 6, 7, 8] (L' := [(0, .ref (a 0)), (2, .int _), (3, .int _), (4, .ref (a 97)), (5, .int _), (6, .int _), (7, .int _), (8, .int _)]) rfl ?_
              obtain ⟨n76, h⟩ := h
              exact tX6_whoHid_76 K n76 _ _ _ _ _ _ _ _ h
            · replace h := h.2 c55
              refine x_aload_n (pc' := 59) K dX6_whoHid_58 0 rfl rfl ?_
              refine x_iconst (pc' := 60) (v := 2) K dX6_whoHid_59 (by decide) rfl ?_
              refine x_callI (pc' := 63) K (mX6_error l D cI cO a _) rfl gX6_whoHid_X6_error rfl dsX6_error ⟨rfl, rfl, ⟨Nat.le_of_ble_eq_true rfl, Nat.le_of_ble_eq_true rfl⟩, Nat.le_of_ble_eq_true rfl, Nat.le_of_ble_eq_true rfl⟩ h 6 0 rfl rfl (st := []) rfl rfl (Nat.le_of_ble_eq_true rfl) dX6_whoHid_60 rfl (fun r60 F60 G60 h => ?_)
              exact x_iret (wf := w6 cI cO a) K h dX6_whoHid_63
        · replace h := h.2.1 e37
          refine xw6_96q1 (pc' := 38) K i37 e37 dX6_whoHid_37 rfl ?_
          refine x_astore (pc' := 40) (i := 4) K dX6_whoHid_38 (by decide) [1, 2, 3, 4, 0] (L' := [(0, .ref (a 0)), (1, .int _), (2, .int _), (3, .int _), (4, .ref (a 99))]) rfl rfl ?_
          refine x_aload (pc' := 42) K dX6_whoHid_40 4 rfl rfl ?_
          refine x_subI (pc' := 45) (wn := fun F' G' => w6 cI cO a (xspl F 44 2 F') (xspl G 67 1 G')) K (mX2_isMissing l D cI cO (xsub a 99)) rfl gX6_whoHid_X2_isMissing rfl dsX2_isMissing ⟨rfl, rfl, ⟨Nat.le_of_ble_eq_true rfl, Nat.le_of_ble_eq_true rfl⟩, Nat.le_of_ble_eq_true rfl, Nat.le_of_ble_eq_true rfl⟩ h 2 0 rfl rfl (xpl32 cI cO a _ _) (fun F' G' => xpr32 cI cO a _ _ F' G') (st := []) rfl rfl (Nat.le_of_ble_eq_true rfl) dX6_whoHid_42 rfl (fun r42 F42 G42 h => ?_)
          obtain ⟨E42, eE42⟩ : ∃ x : xF, x = (xspl F 44 2 F42) := ⟨_, rfl⟩
          obtain ⟨H42, eH42⟩ : ∃ x : xA, x = (xspl G 67 1 G42) := ⟨_, rfl⟩
          refine x_weq (w' := w6 cI cO a E42 H42) (by subst eE42; subst eH42; rfl) ?_
          replace h := h E42 eE42
          replace h := h H42 eH42
          refine x_if_ne (tgt := 58) (pc' := 48) K dX6_whoHid_45 rfl rfl (fun c45 => ?_) (fun c45 => ?_)
          · replace h := h.1 c45
            refine x_aload_n (pc' := 59) K dX6_whoHid_58 0 rfl rfl ?_
            refine x_iconst (pc' := 60) (v := 2) K dX6_whoHid_59 (by decide) rfl ?_
            refine x_callI (pc' := 63) K (mX6_error l D cI cO a _) rfl gX6_whoHid_X6_error rfl dsX6_error ⟨rfl, rfl, ⟨Nat.le_of_ble_eq_true rfl, Nat.le_of_ble_eq_true rfl⟩, Nat.le_of_ble_eq_true rfl, Nat.le_of_ble_eq_true rfl⟩ h 6 0 rfl rfl (st := []) rfl rfl (Nat.le_of_ble_eq_true rfl) dX6_whoHid_60 rfl (fun r60 F60 G60 h => ?_)
            exact x_iret (wf := w6 cI cO a) K h dX6_whoHid_63
          · replace h := h.2 c45
            refine x_aload (pc' := 50) K dX6_whoHid_48 4 rfl rfl ?_
            refine xw6_99g_size (pc' := 53) K hinX6_whoHid_X2 uX6_whoHid_f212 dX6_whoHid_50 rfl ?_
            refine x_bipush (pc' := 55) (v := 9) K dX6_whoHid_53 (by decide) rfl ?_
            refine x_icmp_ge (tgt := 64) (pc' := 58) K dX6_whoHid_55 rfl rfl (fun c55 => ?_) (fun c55 => ?_)
            · replace h := h.1 c55
              refine x_iconst (pc' := 65) (v := 0) K dX6_whoHid_64 (by decide) rfl ?_
              refine x_istore (pc' := 67) (i := 5) K dX6_whoHid_65 (by decide) [1, 2, 3, 4, 5, 0] (L' := [(0, .ref (a 0)), (1, .int _), (2, .int _), (3, .int _), (4, .ref (a 99)), (5, .int _)]) rfl rfl ?_
              refine x_iconst (pc' := 68) (v := -1) K dX6_whoHid_67 (by decide) rfl ?_
              refine x_istore (pc' := 70) (i := 6) K dX6_whoHid_68 (by decide) [1, 2, 3, 4, 5, 6, 0] (L' := [(0, .ref (a 0)), (1, .int _), (2, .int _), (3, .int _), (4, .ref (a 99)), (5, .int _), (6, .int _)]) rfl rfl ?_
              refine x_iconst (pc' := 71) (v := -1) K dX6_whoHid_70 (by decide) rfl ?_
              refine x_istore (pc' := 73) (i := 7) K dX6_whoHid_71 (by decide) [1, 2, 3, 4, 5, 6, 7, 0] (L' := [(0, .ref (a 0)), (1, .int _), (2, .int _), (3, .int _), (4, .ref (a 99)), (5, .int _), (6, .int _), (7, .int _)]) rfl rfl ?_
              refine x_iconst (pc' := 74) (v := 0) K dX6_whoHid_73 (by decide) rfl ?_
              refine x_istore (pc' := 76) (i := 8) K dX6_whoHid_74 (by decide) [1, 2, 3, 4, 5, 6, 7, 8, 0] (L' := [(0, .ref (a 0)), (1, .int _), (2, .int _), (3, .int _), (4, .ref (a 99)), (5, .int _), (6, .int _), (7, .int _), (8, .int _)]) rfl rfl ?_
              refine x_locals [0, 2, 3, 4, 5, 6, 7, 8] (L' := [(0, .ref (a 0)), (2, .int _), (3, .int _), (4, .ref (a 99)), (5, .int _), (6, .int _), (7, .int _), (8, .int _)]) rfl ?_
              obtain ⟨n76, h⟩ := h
              exact tX6_whoHid_76_1 K n76 _ _ _ _ _ _ _ _ h
            · replace h := h.2 c55
              refine x_aload_n (pc' := 59) K dX6_whoHid_58 0 rfl rfl ?_
              refine x_iconst (pc' := 60) (v := 2) K dX6_whoHid_59 (by decide) rfl ?_
              refine x_callI (pc' := 63) K (mX6_error l D cI cO a _) rfl gX6_whoHid_X6_error rfl dsX6_error ⟨rfl, rfl, ⟨Nat.le_of_ble_eq_true rfl, Nat.le_of_ble_eq_true rfl⟩, Nat.le_of_ble_eq_true rfl, Nat.le_of_ble_eq_true rfl⟩ h 6 0 rfl rfl (st := []) rfl rfl (Nat.le_of_ble_eq_true rfl) dX6_whoHid_60 rfl (fun r60 F60 G60 h => ?_)
              exact x_iret (wf := w6 cI cO a) K h dX6_whoHid_63
        · replace h := h.2.2.1 e37
          refine xw6_96q2 (pc' := 38) K i37 e37 dX6_whoHid_37 rfl ?_
          refine x_astore (pc' := 40) (i := 4) K dX6_whoHid_38 (by decide) [1, 2, 3, 4, 0] (L' := [(0, .ref (a 0)), (1, .int _), (2, .int _), (3, .int _), (4, .ref (a 101))]) rfl rfl ?_
          refine x_aload (pc' := 42) K dX6_whoHid_40 4 rfl rfl ?_
          refine x_subI (pc' := 45) (wn := fun F' G' => w6 cI cO a (xspl F 46 2 F') (xspl G 68 1 G')) K (mX2_isMissing l D cI cO (xsub a 101)) rfl gX6_whoHid_X2_isMissing rfl dsX2_isMissing ⟨rfl, rfl, ⟨Nat.le_of_ble_eq_true rfl, Nat.le_of_ble_eq_true rfl⟩, Nat.le_of_ble_eq_true rfl, Nat.le_of_ble_eq_true rfl⟩ h 2 0 rfl rfl (xpl33 cI cO a _ _) (fun F' G' => xpr33 cI cO a _ _ F' G') (st := []) rfl rfl (Nat.le_of_ble_eq_true rfl) dX6_whoHid_42 rfl (fun r42 F42 G42 h => ?_)
          obtain ⟨E42, eE42⟩ : ∃ x : xF, x = (xspl F 46 2 F42) := ⟨_, rfl⟩
          obtain ⟨H42, eH42⟩ : ∃ x : xA, x = (xspl G 68 1 G42) := ⟨_, rfl⟩
          refine x_weq (w' := w6 cI cO a E42 H42) (by subst eE42; subst eH42; rfl) ?_
          replace h := h E42 eE42
          replace h := h H42 eH42
          refine x_if_ne (tgt := 58) (pc' := 48) K dX6_whoHid_45 rfl rfl (fun c45 => ?_) (fun c45 => ?_)
          · replace h := h.1 c45
            refine x_aload_n (pc' := 59) K dX6_whoHid_58 0 rfl rfl ?_
            refine x_iconst (pc' := 60) (v := 2) K dX6_whoHid_59 (by decide) rfl ?_
            refine x_callI (pc' := 63) K (mX6_error l D cI cO a _) rfl gX6_whoHid_X6_error rfl dsX6_error ⟨rfl, rfl, ⟨Nat.le_of_ble_eq_true rfl, Nat.le_of_ble_eq_true rfl⟩, Nat.le_of_ble_eq_true rfl, Nat.le_of_ble_eq_true rfl⟩ h 6 0 rfl rfl (st := []) rfl rfl (Nat.le_of_ble_eq_true rfl) dX6_whoHid_60 rfl (fun r60 F60 G60 h => ?_)
            exact x_iret (wf := w6 cI cO a) K h dX6_whoHid_63
          · replace h := h.2 c45
            refine x_aload (pc' := 50) K dX6_whoHid_48 4 rfl rfl ?_
            refine xw6_101g_size (pc' := 53) K hinX6_whoHid_X2 uX6_whoHid_f212 dX6_whoHid_50 rfl ?_
            refine x_bipush (pc' := 55) (v := 9) K dX6_whoHid_53 (by decide) rfl ?_
            refine x_icmp_ge (tgt := 64) (pc' := 58) K dX6_whoHid_55 rfl rfl (fun c55 => ?_) (fun c55 => ?_)
            · replace h := h.1 c55
              refine x_iconst (pc' := 65) (v := 0) K dX6_whoHid_64 (by decide) rfl ?_
              refine x_istore (pc' := 67) (i := 5) K dX6_whoHid_65 (by decide) [1, 2, 3, 4, 5, 0] (L' := [(0, .ref (a 0)), (1, .int _), (2, .int _), (3, .int _), (4, .ref (a 101)), (5, .int _)]) rfl rfl ?_
              refine x_iconst (pc' := 68) (v := -1) K dX6_whoHid_67 (by decide) rfl ?_
              refine x_istore (pc' := 70) (i := 6) K dX6_whoHid_68 (by decide) [1, 2, 3, 4, 5, 6, 0] (L' := [(0, .ref (a 0)), (1, .int _), (2, .int _), (3, .int _), (4, .ref (a 101)), (5, .int _), (6, .int _)]) rfl rfl ?_
              refine x_iconst (pc' := 71) (v := -1) K dX6_whoHid_70 (by decide) rfl ?_
              refine x_istore (pc' := 73) (i := 7) K dX6_whoHid_71 (by decide) [1, 2, 3, 4, 5, 6, 7, 0] (L' := [(0, .ref (a 0)), (1, .int _), (2, .int _), (3, .int _), (4, .ref (a 101)), (5, .int _), (6, .int _), (7, .int _)]) rfl rfl ?_
              refine x_iconst (pc' := 74) (v := 0) K dX6_whoHid_73 (by decide) rfl ?_
              refine x_istore (pc' := 76) (i := 8) K dX6_whoHid_74 (by decide) [1, 2, 3, 4, 5, 6, 7, 8, 0] (L' := [(0, .ref (a 0)), (1, .int _), (2, .int _), (3, .int _), (4, .ref (a 101)), (5, .int _), (6, .int _), (7, .int _), (8, .int _)]) rfl rfl ?_
              refine x_locals [0, 2, 3, 4, 5, 6, 7, 8] (L' := [(0, .ref (a 0)), (2, .int _), (3, .int _), (4, .ref (a 101)), (5, .int _), (6, .int _), (7, .int _), (8, .int _)]) rfl ?_
              obtain ⟨n76, h⟩ := h
              exact tX6_whoHid_76_2 K n76 _ _ _ _ _ _ _ _ h
            · replace h := h.2 c55
              refine x_aload_n (pc' := 59) K dX6_whoHid_58 0 rfl rfl ?_
              refine x_iconst (pc' := 60) (v := 2) K dX6_whoHid_59 (by decide) rfl ?_
              refine x_callI (pc' := 63) K (mX6_error l D cI cO a _) rfl gX6_whoHid_X6_error rfl dsX6_error ⟨rfl, rfl, ⟨Nat.le_of_ble_eq_true rfl, Nat.le_of_ble_eq_true rfl⟩, Nat.le_of_ble_eq_true rfl, Nat.le_of_ble_eq_true rfl⟩ h 6 0 rfl rfl (st := []) rfl rfl (Nat.le_of_ble_eq_true rfl) dX6_whoHid_60 rfl (fun r60 F60 G60 h => ?_)
              exact x_iret (wf := w6 cI cO a) K h dX6_whoHid_63
        · replace h := h.2.2.2 e37
          refine xw6_96q3 (pc' := 38) K i37 e37 dX6_whoHid_37 rfl ?_
          refine x_astore (pc' := 40) (i := 4) K dX6_whoHid_38 (by decide) [1, 2, 3, 4, 0] (L' := [(0, .ref (a 0)), (1, .int _), (2, .int _), (3, .int _), (4, .ref (a 103))]) rfl rfl ?_
          refine x_aload (pc' := 42) K dX6_whoHid_40 4 rfl rfl ?_
          refine x_subI (pc' := 45) (wn := fun F' G' => w6 cI cO a (xspl F 48 2 F') (xspl G 69 1 G')) K (mX2_isMissing l D cI cO (xsub a 103)) rfl gX6_whoHid_X2_isMissing rfl dsX2_isMissing ⟨rfl, rfl, ⟨Nat.le_of_ble_eq_true rfl, Nat.le_of_ble_eq_true rfl⟩, Nat.le_of_ble_eq_true rfl, Nat.le_of_ble_eq_true rfl⟩ h 2 0 rfl rfl (xpl34 cI cO a _ _) (fun F' G' => xpr34 cI cO a _ _ F' G') (st := []) rfl rfl (Nat.le_of_ble_eq_true rfl) dX6_whoHid_42 rfl (fun r42 F42 G42 h => ?_)
          obtain ⟨E42, eE42⟩ : ∃ x : xF, x = (xspl F 48 2 F42) := ⟨_, rfl⟩
          obtain ⟨H42, eH42⟩ : ∃ x : xA, x = (xspl G 69 1 G42) := ⟨_, rfl⟩
          refine x_weq (w' := w6 cI cO a E42 H42) (by subst eE42; subst eH42; rfl) ?_
          replace h := h E42 eE42
          replace h := h H42 eH42
          refine x_if_ne (tgt := 58) (pc' := 48) K dX6_whoHid_45 rfl rfl (fun c45 => ?_) (fun c45 => ?_)
          · replace h := h.1 c45
            refine x_aload_n (pc' := 59) K dX6_whoHid_58 0 rfl rfl ?_
            refine x_iconst (pc' := 60) (v := 2) K dX6_whoHid_59 (by decide) rfl ?_
            refine x_callI (pc' := 63) K (mX6_error l D cI cO a _) rfl gX6_whoHid_X6_error rfl dsX6_error ⟨rfl, rfl, ⟨Nat.le_of_ble_eq_true rfl, Nat.le_of_ble_eq_true rfl⟩, Nat.le_of_ble_eq_true rfl, Nat.le_of_ble_eq_true rfl⟩ h 6 0 rfl rfl (st := []) rfl rfl (Nat.le_of_ble_eq_true rfl) dX6_whoHid_60 rfl (fun r60 F60 G60 h => ?_)
            exact x_iret (wf := w6 cI cO a) K h dX6_whoHid_63
          · replace h := h.2 c45
            refine x_aload (pc' := 50) K dX6_whoHid_48 4 rfl rfl ?_
            refine xw6_103g_size (pc' := 53) K hinX6_whoHid_X2 uX6_whoHid_f212 dX6_whoHid_50 rfl ?_
            refine x_bipush (pc' := 55) (v := 9) K dX6_whoHid_53 (by decide) rfl ?_
            refine x_icmp_ge (tgt := 64) (pc' := 58) K dX6_whoHid_55 rfl rfl (fun c55 => ?_) (fun c55 => ?_)
            · replace h := h.1 c55
              refine x_iconst (pc' := 65) (v := 0) K dX6_whoHid_64 (by decide) rfl ?_
              refine x_istore (pc' := 67) (i := 5) K dX6_whoHid_65 (by decide) [1, 2, 3, 4, 5, 0] (L' := [(0, .ref (a 0)), (1, .int _), (2, .int _), (3, .int _), (4, .ref (a 103)), (5, .int _)]) rfl rfl ?_
              refine x_iconst (pc' := 68) (v := -1) K dX6_whoHid_67 (by decide) rfl ?_
              refine x_istore (pc' := 70) (i := 6) K dX6_whoHid_68 (by decide) [1, 2, 3, 4, 5, 6, 0] (L' := [(0, .ref (a 0)), (1, .int _), (2, .int _), (3, .int _), (4, .ref (a 103)), (5, .int _), (6, .int _)]) rfl rfl ?_
              refine x_iconst (pc' := 71) (v := -1) K dX6_whoHid_70 (by decide) rfl ?_
              refine x_istore (pc' := 73) (i := 7) K dX6_whoHid_71 (by decide) [1, 2, 3, 4, 5, 6, 7, 0] (L' := [(0, .ref (a 0)), (1, .int _), (2, .int _), (3, .int _), (4, .ref (a 103)), (5, .int _), (6, .int _), (7, .int _)]) rfl rfl ?_
              refine x_iconst (pc' := 74) (v := 0) K dX6_whoHid_73 (by decide) rfl ?_
              refine x_istore (pc' := 76) (i := 8) K dX6_whoHid_74 (by decide) [1, 2, 3, 4, 5, 6, 7, 8, 0] (L' := [(0, .ref (a 0)), (1, .int _), (2, .int _), (3, .int _), (4, .ref (a 103)), (5, .int _), (6, .int _), (7, .int _), (8, .int _)]) rfl rfl ?_
              refine x_locals [0, 2, 3, 4, 5, 6, 7, 8] (L' := [(0, .ref (a 0)), (2, .int _), (3, .int _), (4, .ref (a 103)), (5, .int _), (6, .int _), (7, .int _), (8, .int _)]) rfl ?_
              obtain ⟨n76, h⟩ := h
              exact tX6_whoHid_76_3 K n76 _ _ _ _ _ _ _ _ h
            · replace h := h.2 c55
              refine x_aload_n (pc' := 59) K dX6_whoHid_58 0 rfl rfl ?_
              refine x_iconst (pc' := 60) (v := 2) K dX6_whoHid_59 (by decide) rfl ?_
              refine x_callI (pc' := 63) K (mX6_error l D cI cO a _) rfl gX6_whoHid_X6_error rfl dsX6_error ⟨rfl, rfl, ⟨Nat.le_of_ble_eq_true rfl, Nat.le_of_ble_eq_true rfl⟩, Nat.le_of_ble_eq_true rfl, Nat.le_of_ble_eq_true rfl⟩ h 6 0 rfl rfl (st := []) rfl rfl (Nat.le_of_ble_eq_true rfl) dX6_whoHid_60 rfl (fun r60 F60 G60 h => ?_)
              exact x_iret (wf := w6 cI cO a) K h dX6_whoHid_63
      · replace h := h.2 c23
        refine x_aload_n (pc' := 27) K dX6_whoHid_26 0 rfl rfl ?_
        refine x_iconst (pc' := 28) (v := 1) K dX6_whoHid_27 (by decide) rfl ?_
        refine x_callI (pc' := 31) K (mX6_error l D cI cO a _) rfl gX6_whoHid_X6_error rfl dsX6_error ⟨rfl, rfl, ⟨Nat.le_of_ble_eq_true rfl, Nat.le_of_ble_eq_true rfl⟩, Nat.le_of_ble_eq_true rfl, Nat.le_of_ble_eq_true rfl⟩ h 6 0 rfl rfl (st := []) rfl rfl (Nat.le_of_ble_eq_true rfl) dX6_whoHid_28 rfl (fun r28 F28 G28 h => ?_)
        exact x_iret (wf := w6 cI cO a) K h dX6_whoHid_31
end
