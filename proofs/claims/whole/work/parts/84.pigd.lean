section
variable {p : Program} {l : Launch} {e : Env} {s : State} {m : MethodId} {args : Array Value} {below : List Frame} {meth : Method} {c : Code} {D : va_G} {cI cO : ClassId} {A : Nat → Prop} {a : Nat → Nat} {d : Nat}
/-! X6_share -/
abbrev rmX6_share : Room := { frames := 7, cells := 0, slots := 0, locals := 242 }
theorem dsX6_share : xDesc yX6_share 3 := by decide +kernel
theorem uX6_share_f41 : Cond.fieldLink RX6 41 "PigNinths" "side" "LPigNinths$World;" ∈ wsX6_share := nw_in nwl_X6_share nwe_337 (by decide +kernel)
theorem hinX6_share_X6 : ∀ w ∈ wsX60, w ∈ wsX6_share := nw_all nwl_X6_share nwl_X60 (by decide +kernel)
theorem uX6_share_f10 : Cond.fieldLink RX6 10 "PigNinths" "now" "LPigNinths$World;" ∈ wsX6_share := nw_in nwl_X6_share nwe_329 (by decide +kernel)
theorem uX6_share_f195 : Cond.fieldLink RX6 195 "PigNinths$World" "purse" "[I" ∈ wsX6_share := nw_in nwl_X6_share nwe_452 (by decide +kernel)
theorem hinX6_share_X5 : ∀ w ∈ wsX50, w ∈ wsX6_share := nw_all nwl_X6_share nwl_X50 (by decide +kernel)
set_option maxHeartbeats 4000000 in
set_option maxRecDepth 100000 in
theorem tX6_share_52 (K : XK p m c cX6_share 9 s args wsX6_share RX6 D (xtys cI cO) A meth (some .int)) {Q : Int32 → xF → xA → Prop} : ∀ (n : Nat), ∀ (x1 : Int32) (x2 : Int32) (x3 : Int32) (x4 : Int32) (x5 : Int32) (x6 : Int32) (F : xF) (G : xA), qX6_share_52 Q n x1 x2 x3 x4 x5 x6 F G → XJ p l e rmX6_share s m args below meth c 0 0 (MQ below (xQi D (w6 cI cO a) A Q) args s 0 0 A) D (xtys cI cO) A 9 (w6 cI cO a F G) 52 [(0, .ref (a 0)), (1, .int x1), (2, .int x2), (3, .int x3), (4, .int x4), (5, .int x5), (6, .int x6)] [] := by
  intro n
  induction n with
  | zero =>
    intro x1 x2 x3 x4 x5 x6 F G h
    exact False.elim h
  | succ n ih =>
    intro x1 x2 x3 x4 x5 x6 F G h
    refine x_iload (pc' := 54) K dX6_share_52 6 rfl rfl ?_
    refine x_iload_n (pc' := 55) K dX6_share_54 3 rfl rfl ?_
    refine x_icmp_ge (tgt := 113) (pc' := 58) K dX6_share_55 rfl rfl (fun c55 => ?_) (fun c55 => ?_)
    · replace h := h.1 c55
      refine x_iload_n (pc' := 114) K dX6_share_113 2 rfl rfl ?_
      refine x_if_ne (tgt := 137) (pc' := 117) K dX6_share_114 rfl rfl (fun c114 => ?_) (fun c114 => ?_)
      · replace h := h.1 c114
        refine x_iload_n (pc' := 138) K dX6_share_137 2 rfl rfl ?_
        refine x_iconst (pc' := 139) (v := 1) K dX6_share_138 (by decide) rfl ?_
        refine x_icmp_ne (tgt := 147) (pc' := 142) K dX6_share_139 rfl rfl (fun c139 => ?_) (fun c139 => ?_)
        · replace h := h.1 c139
          refine x_iload (pc' := 149) K dX6_share_147 5 rfl rfl ?_
          exact x_iret (wf := w6 cI cO a) K h dX6_share_149
        · replace h := h.2 c139
          refine x_iload (pc' := 144) K dX6_share_142 4 rfl rfl ?_
          refine x_goto (tgt := 149) K dX6_share_144 rfl ?_
          exact x_iret (wf := w6 cI cO a) K h dX6_share_149
      · replace h := h.2 c114
        refine x_aload_n (pc' := 118) K dX6_share_117 0 rfl rfl ?_
        refine xw6_0g_side (pc' := 121) K hinX6_share_X6 uX6_share_f41 dX6_share_118 rfl ?_
        refine xw6_39g_purse (pc' := 124) K hinX6_share_X5 uX6_share_f195 dX6_share_121 rfl ?_
        refine x_iload_n (pc' := 125) K dX6_share_124 1 rfl rfl ?_
        obtain ⟨i125, h⟩ := h
        refine xw6_44l (pc' := 126) K i125 rfl dX6_share_125 rfl ?_
        refine x_aload_n (pc' := 127) K dX6_share_126 0 rfl rfl ?_
        refine xw6_0g_now (pc' := 130) K hinX6_share_X6 uX6_share_f10 dX6_share_127 rfl ?_
        refine xw6_1g_purse (pc' := 133) K hinX6_share_X5 uX6_share_f195 dX6_share_130 rfl ?_
        refine x_iload_n (pc' := 134) K dX6_share_133 1 rfl rfl ?_
        obtain ⟨i134, h⟩ := h
        refine xw6_6l (pc' := 135) K i134 rfl dX6_share_134 rfl ?_
        refine x_isub (pc' := 136) K dX6_share_135 rfl ?_
        exact x_iret (wf := w6 cI cO a) K h dX6_share_136
    · replace h := h.2 c55
      refine x_aload_n (pc' := 59) K dX6_share_58 0 rfl rfl ?_
      refine xw6_0g_side (pc' := 62) K hinX6_share_X6 uX6_share_f41 dX6_share_59 rfl ?_
      refine x_subI (pc' := 65) (wn := fun F' G' => w6 cI cO a (xspl F 14 7 F') (xspl G 28 14 G')) K (mX5_whoHasIt l D cI cO (xsub a 39)) rfl gX6_share_X5_whoHasIt rfl dsX5_whoHasIt ⟨rfl, rfl, ⟨Nat.le_of_ble_eq_true rfl, Nat.le_of_ble_eq_true rfl⟩, Nat.le_of_ble_eq_true rfl, Nat.le_of_ble_eq_true rfl⟩ h 5 0 rfl rfl (xpl16 cI cO a _ _) (fun F' G' => xpr16 cI cO a _ _ F' G') (st := []) rfl rfl (Nat.le_of_ble_eq_true rfl) dX6_share_62 rfl (fun r62 F62 G62 h => ?_)
      obtain ⟨E62, eE62⟩ : ∃ x : xF, x = (xspl F 14 7 F62) := ⟨_, rfl⟩
      obtain ⟨H62, eH62⟩ : ∃ x : xA, x = (xspl G 28 14 G62) := ⟨_, rfl⟩
      refine x_weq (w' := w6 cI cO a E62 H62) (by subst eE62; subst eH62; rfl) ?_
      replace h := h E62 eE62
      replace h := h H62 eH62
      refine x_istore (pc' := 67) (i := 7) K dX6_share_65 (by decide) [1, 2, 3, 4, 5, 6, 7, 0] (L' := [(0, .ref (a 0)), (1, .int _), (2, .int _), (3, .int _), (4, .int _), (5, .int _), (6, .int _), (7, .int _)]) rfl rfl ?_
      refine x_aload_n (pc' := 68) K dX6_share_67 0 rfl rfl ?_
      refine xw6_0g_side (pc' := 71) K hinX6_share_X6 uX6_share_f41 dX6_share_68 rfl ?_
      refine x_iconst (pc' := 72) (v := -1) K dX6_share_71 (by decide) rfl ?_
      refine x_subI (pc' := 75) (wn := fun F' G' => w6 cI cO a (xspl E62 14 7 F') (xspl H62 28 14 G')) K (mX5_oneDay l D cI cO (xsub a 39) _) rfl gX6_share_X5_oneDay rfl dsX5_oneDay ⟨rfl, rfl, ⟨Nat.le_of_ble_eq_true rfl, Nat.le_of_ble_eq_true rfl⟩, Nat.le_of_ble_eq_true rfl, Nat.le_of_ble_eq_true rfl⟩ h 5 0 rfl rfl (xpl16 cI cO a _ _) (fun F' G' => xpr16 cI cO a _ _ F' G') (st := []) rfl rfl (Nat.le_of_ble_eq_true rfl) dX6_share_72 rfl (fun r72 F72 G72 h => ?_)
      obtain ⟨E72, eE72⟩ : ∃ x : xF, x = (xspl E62 14 7 F72) := ⟨_, rfl⟩
      obtain ⟨H72, eH72⟩ : ∃ x : xA, x = (xspl H62 28 14 G72) := ⟨_, rfl⟩
      refine x_weq (w' := w6 cI cO a E72 H72) (by subst eE72; subst eH72; rfl) ?_
      replace h := h E72 eE72
      replace h := h H72 eH72
      refine x_istore (pc' := 77) (i := 8) K dX6_share_75 (by decide) [1, 2, 3, 4, 5, 6, 7, 8, 0] (L' := [(0, .ref (a 0)), (1, .int _), (2, .int _), (3, .int _), (4, .int _), (5, .int _), (6, .int _), (7, .int _), (8, .int _)]) rfl rfl ?_
      refine x_iload (pc' := 79) K dX6_share_77 4 rfl rfl ?_
      refine x_iload (pc' := 81) K dX6_share_79 7 rfl rfl ?_
      refine x_iload_n (pc' := 82) K dX6_share_81 1 rfl rfl ?_
      refine x_icmp_ne (tgt := 90) (pc' := 85) K dX6_share_82 rfl rfl (fun c82 => ?_) (fun c82 => ?_)
      · replace h := h.1 c82
        refine x_iconst (pc' := 91) (v := 0) K dX6_share_90 (by decide) rfl ?_
        refine x_iadd (pc' := 92) K dX6_share_91 rfl ?_
        refine x_istore (pc' := 94) (i := 4) K dX6_share_92 (by decide) [1, 2, 3, 4, 0, 5, 6, 7, 8] (L' := [(0, .ref (a 0)), (1, .int _), (2, .int _), (3, .int _), (4, .int _), (5, .int _), (6, .int _), (7, .int _), (8, .int _)]) rfl rfl ?_
        refine x_iload (pc' := 96) K dX6_share_94 5 rfl rfl ?_
        refine x_aload_n (pc' := 97) K dX6_share_96 0 rfl rfl ?_
        refine xw6_0g_side (pc' := 100) K hinX6_share_X6 uX6_share_f41 dX6_share_97 rfl ?_
        refine x_iload_n (pc' := 101) K dX6_share_100 1 rfl rfl ?_
        refine x_subI (pc' := 104) (wn := fun F' G' => w6 cI cO a (xspl E72 14 7 F') (xspl H72 28 14 G')) K (mX5_dugFor l D cI cO (xsub a 39) _) rfl gX6_share_X5_dugFor rfl dsX5_dugFor ⟨rfl, rfl, ⟨Nat.le_of_ble_eq_true rfl, Nat.le_of_ble_eq_true rfl⟩, Nat.le_of_ble_eq_true rfl, Nat.le_of_ble_eq_true rfl⟩ h 5 0 rfl rfl (xpl16 cI cO a _ _) (fun F' G' => xpr16 cI cO a _ _ F' G') (st := [.int _]) rfl rfl (Nat.le_of_ble_eq_true rfl) dX6_share_101 rfl (fun r101 F101 G101 h => ?_)
        obtain ⟨E101, eE101⟩ : ∃ x : xF, x = (xspl E72 14 7 F101) := ⟨_, rfl⟩
        obtain ⟨H101, eH101⟩ : ∃ x : xA, x = (xspl H72 28 14 G101) := ⟨_, rfl⟩
        refine x_weq (w' := w6 cI cO a E101 H101) (by subst eE101; subst eH101; rfl) ?_
        replace h := h E101 eE101
        replace h := h H101 eH101
        refine x_iadd (pc' := 105) K dX6_share_104 rfl ?_
        refine x_istore (pc' := 107) (i := 5) K dX6_share_105 (by decide) [1, 2, 3, 4, 5, 0, 6, 7, 8] (L' := [(0, .ref (a 0)), (1, .int _), (2, .int _), (3, .int _), (4, .int _), (5, .int _), (6, .int _), (7, .int _), (8, .int _)]) rfl rfl ?_
        refine x_iinc (pc' := 110) (v := _ + (1 : Int32)) K dX6_share_107 6 rfl rfl (by decide) [1, 2, 3, 4, 5, 6, 0, 7, 8] (L' := [(0, .ref (a 0)), (1, .int _), (2, .int _), (3, .int _), (4, .int _), (5, .int _), (6, .int _), (7, .int _), (8, .int _)]) rfl rfl ?_
        refine x_goto (tgt := 52) K dX6_share_110 rfl ?_
        refine x_locals [0, 1, 2, 3, 4, 5, 6] (L' := [(0, .ref (a 0)), (1, .int _), (2, .int _), (3, .int _), (4, .int _), (5, .int _), (6, .int _)]) rfl ?_
        exact ih _ _ _ _ _ _ _ _ h
      · replace h := h.2 c82
        refine x_iload (pc' := 87) K dX6_share_85 8 rfl rfl ?_
        refine x_goto (tgt := 91) K dX6_share_87 rfl ?_
        refine x_iadd (pc' := 92) K dX6_share_91 rfl ?_
        refine x_istore (pc' := 94) (i := 4) K dX6_share_92 (by decide) [1, 2, 3, 4, 0, 5, 6, 7, 8] (L' := [(0, .ref (a 0)), (1, .int _), (2, .int _), (3, .int _), (4, .int _), (5, .int _), (6, .int _), (7, .int _), (8, .int _)]) rfl rfl ?_
        refine x_iload (pc' := 96) K dX6_share_94 5 rfl rfl ?_
        refine x_aload_n (pc' := 97) K dX6_share_96 0 rfl rfl ?_
        refine xw6_0g_side (pc' := 100) K hinX6_share_X6 uX6_share_f41 dX6_share_97 rfl ?_
        refine x_iload_n (pc' := 101) K dX6_share_100 1 rfl rfl ?_
        refine x_subI (pc' := 104) (wn := fun F' G' => w6 cI cO a (xspl E72 14 7 F') (xspl H72 28 14 G')) K (mX5_dugFor l D cI cO (xsub a 39) _) rfl gX6_share_X5_dugFor rfl dsX5_dugFor ⟨rfl, rfl, ⟨Nat.le_of_ble_eq_true rfl, Nat.le_of_ble_eq_true rfl⟩, Nat.le_of_ble_eq_true rfl, Nat.le_of_ble_eq_true rfl⟩ h 5 0 rfl rfl (xpl16 cI cO a _ _) (fun F' G' => xpr16 cI cO a _ _ F' G') (st := [.int _]) rfl rfl (Nat.le_of_ble_eq_true rfl) dX6_share_101 rfl (fun r101 F101 G101 h => ?_)
        obtain ⟨E101, eE101⟩ : ∃ x : xF, x = (xspl E72 14 7 F101) := ⟨_, rfl⟩
        obtain ⟨H101, eH101⟩ : ∃ x : xA, x = (xspl H72 28 14 G101) := ⟨_, rfl⟩
        refine x_weq (w' := w6 cI cO a E101 H101) (by subst eE101; subst eH101; rfl) ?_
        replace h := h E101 eE101
        replace h := h H101 eH101
        refine x_iadd (pc' := 105) K dX6_share_104 rfl ?_
        refine x_istore (pc' := 107) (i := 5) K dX6_share_105 (by decide) [1, 2, 3, 4, 5, 0, 6, 7, 8] (L' := [(0, .ref (a 0)), (1, .int _), (2, .int _), (3, .int _), (4, .int _), (5, .int _), (6, .int _), (7, .int _), (8, .int _)]) rfl rfl ?_
        refine x_iinc (pc' := 110) (v := _ + (1 : Int32)) K dX6_share_107 6 rfl rfl (by decide) [1, 2, 3, 4, 5, 6, 0, 7, 8] (L' := [(0, .ref (a 0)), (1, .int _), (2, .int _), (3, .int _), (4, .int _), (5, .int _), (6, .int _), (7, .int _), (8, .int _)]) rfl rfl ?_
        refine x_goto (tgt := 52) K dX6_share_110 rfl ?_
        refine x_locals [0, 1, 2, 3, 4, 5, 6] (L' := [(0, .ref (a 0)), (1, .int _), (2, .int _), (3, .int _), (4, .int _), (5, .int _), (6, .int _)]) rfl ?_
        exact ih _ _ _ _ _ _ _ _ h
set_option maxHeartbeats 4000000 in
set_option maxRecDepth 100000 in
theorem mX6_share (l : Launch) (D : va_G) (cI cO : ClassId) (a : Nat → Nat)  (x1 : Int32) (x2 : Int32) (x3 : Int32) : MI l yX6_share wsX6_share rmX6_share D (xtys cI cO) [.ref (a 0), .int x1, .int x2, .int x3] (w6 cI cO a) (qX6_share x1 x2 x3) := by
  refine MI_of (cc := cX6_share) (maxL := 9) (own := RX6) (by decide) rfl rfl (Nat.le_of_ble_eq_true rfl) ?_
  intro p e s m args below meth c A F G Q h K
  refine x_locals [0, 1, 2, 3] (L' := [(0, .ref (a 0)), (1, .int _), (2, .int _), (3, .int _)]) rfl ?_
  refine x_iload_n (pc' := 1) K dX6_share_0 1 rfl rfl ?_
  refine x_callS (pc' := 4) K (mX6_isFarmer l D cI cO a _) rfl gX6_share_X6_isFarmer dsX6_isFarmer ⟨rfl, rfl, ⟨Nat.le_of_ble_eq_true rfl, Nat.le_of_ble_eq_true rfl⟩, Nat.le_of_ble_eq_true rfl, Nat.le_of_ble_eq_true rfl⟩ h (st := []) rfl rfl (Nat.le_of_ble_eq_true rfl) dX6_share_1 rfl (fun r1 h => ?_)
  refine x_if_eq (tgt := 26) (pc' := 7) K dX6_share_4 rfl rfl (fun c4 => ?_) (fun c4 => ?_)
  · replace h := h.1 c4
    refine x_aload_n (pc' := 27) K dX6_share_26 0 rfl rfl ?_
    refine x_iconst (pc' := 28) (v := 1) K dX6_share_27 (by decide) rfl ?_
    refine x_callI (pc' := 31) K (mX6_error l D cI cO a _) rfl gX6_share_X6_error rfl dsX6_error ⟨rfl, rfl, ⟨Nat.le_of_ble_eq_true rfl, Nat.le_of_ble_eq_true rfl⟩, Nat.le_of_ble_eq_true rfl, Nat.le_of_ble_eq_true rfl⟩ h 6 0 rfl rfl (st := []) rfl rfl (Nat.le_of_ble_eq_true rfl) dX6_share_28 rfl (fun r28 F28 G28 h => ?_)
    exact x_iret (wf := w6 cI cO a) K h dX6_share_31
  · replace h := h.2 c4
    refine x_iload_n (pc' := 8) K dX6_share_7 2 rfl rfl ?_
    refine x_iconst (pc' := 9) (v := 0) K dX6_share_8 (by decide) rfl ?_
    refine x_iconst (pc' := 10) (v := 2) K dX6_share_9 (by decide) rfl ?_
    refine x_callS (pc' := 13) K (mX6_within l D cI cO a _ _ _) rfl gX6_share_X6_within dsX6_within ⟨rfl, rfl, ⟨Nat.le_of_ble_eq_true rfl, Nat.le_of_ble_eq_true rfl⟩, Nat.le_of_ble_eq_true rfl, Nat.le_of_ble_eq_true rfl⟩ h (st := []) rfl rfl (Nat.le_of_ble_eq_true rfl) dX6_share_10 rfl (fun r10 h => ?_)
    refine x_if_eq (tgt := 26) (pc' := 16) K dX6_share_13 rfl rfl (fun c13 => ?_) (fun c13 => ?_)
    · replace h := h.1 c13
      refine x_aload_n (pc' := 27) K dX6_share_26 0 rfl rfl ?_
      refine x_iconst (pc' := 28) (v := 1) K dX6_share_27 (by decide) rfl ?_
      refine x_callI (pc' := 31) K (mX6_error l D cI cO a _) rfl gX6_share_X6_error rfl dsX6_error ⟨rfl, rfl, ⟨Nat.le_of_ble_eq_true rfl, Nat.le_of_ble_eq_true rfl⟩, Nat.le_of_ble_eq_true rfl, Nat.le_of_ble_eq_true rfl⟩ h 6 0 rfl rfl (st := []) rfl rfl (Nat.le_of_ble_eq_true rfl) dX6_share_28 rfl (fun r28 F28 G28 h => ?_)
      exact x_iret (wf := w6 cI cO a) K h dX6_share_31
    · replace h := h.2 c13
      refine x_iload_n (pc' := 17) K dX6_share_16 3 rfl rfl ?_
      refine x_iconst (pc' := 18) (v := 1) K dX6_share_17 (by decide) rfl ?_
      refine x_bipush (pc' := 20) (v := 45) K dX6_share_18 (by decide) rfl ?_
      refine x_callS (pc' := 23) K (mX6_within l D cI cO a _ _ _) rfl gX6_share_X6_within dsX6_within ⟨rfl, rfl, ⟨Nat.le_of_ble_eq_true rfl, Nat.le_of_ble_eq_true rfl⟩, Nat.le_of_ble_eq_true rfl, Nat.le_of_ble_eq_true rfl⟩ h (st := []) rfl rfl (Nat.le_of_ble_eq_true rfl) dX6_share_20 rfl (fun r20 h => ?_)
      refine x_if_ne (tgt := 32) (pc' := 26) K dX6_share_23 rfl rfl (fun c23 => ?_) (fun c23 => ?_)
      · replace h := h.1 c23
        refine x_aload_n (pc' := 33) K dX6_share_32 0 rfl rfl ?_
        refine xw6_0g_side (pc' := 36) K hinX6_share_X6 uX6_share_f41 dX6_share_33 rfl ?_
        refine x_aload_n (pc' := 37) K dX6_share_36 0 rfl rfl ?_
        refine xw6_0g_now (pc' := 40) K hinX6_share_X6 uX6_share_f10 dX6_share_37 rfl ?_
        refine x_subV (pc' := 43) (wn := fun F' G' => w6 cI cO a (xspl (xspl F 14 7 F') 0 7 (xsub F' 7)) (xspl (xspl G 28 14 G') 0 14 (xsub G' 14))) K (mX5_takeFrom l D cI cO (xcat 19 (xsub a 39) (xsub a 1))) rfl gX6_share_X5_takeFrom rfl dsX5_takeFrom ⟨rfl, rfl, ⟨Nat.le_of_ble_eq_true rfl, Nat.le_of_ble_eq_true rfl⟩, Nat.le_of_ble_eq_true rfl, Nat.le_of_ble_eq_true rfl⟩ h 5 0 rfl rfl (xpl15 cI cO a _ _) (fun F' G' => xpr15 cI cO a _ _ F' G') (st := []) rfl rfl (Nat.le_of_ble_eq_true rfl) dX6_share_40 rfl (fun F40 G40 h => ?_)
        obtain ⟨E40, eE40⟩ : ∃ x : xF, x = (xspl (xspl F 14 7 F40) 0 7 (xsub F40 7)) := ⟨_, rfl⟩
        obtain ⟨H40, eH40⟩ : ∃ x : xA, x = (xspl (xspl G 28 14 G40) 0 14 (xsub G40 14)) := ⟨_, rfl⟩
        refine x_weq (w' := w6 cI cO a E40 H40) (by subst eE40; subst eH40; rfl) ?_
        replace h := h E40 eE40
        replace h := h H40 eH40
        refine x_iconst (pc' := 44) (v := 0) K dX6_share_43 (by decide) rfl ?_
        refine x_istore (pc' := 46) (i := 4) K dX6_share_44 (by decide) [1, 2, 3, 4, 0] (L' := [(0, .ref (a 0)), (1, .int _), (2, .int _), (3, .int _), (4, .int _)]) rfl rfl ?_
        refine x_iconst (pc' := 47) (v := 0) K dX6_share_46 (by decide) rfl ?_
        refine x_istore (pc' := 49) (i := 5) K dX6_share_47 (by decide) [1, 2, 3, 4, 5, 0] (L' := [(0, .ref (a 0)), (1, .int _), (2, .int _), (3, .int _), (4, .int _), (5, .int _)]) rfl rfl ?_
        refine x_iconst (pc' := 50) (v := 0) K dX6_share_49 (by decide) rfl ?_
        refine x_istore (pc' := 52) (i := 6) K dX6_share_50 (by decide) [1, 2, 3, 4, 5, 6, 0] (L' := [(0, .ref (a 0)), (1, .int _), (2, .int _), (3, .int _), (4, .int _), (5, .int _), (6, .int _)]) rfl rfl ?_
        obtain ⟨n52, h⟩ := h
        exact tX6_share_52 K n52 _ _ _ _ _ _ _ _ h
      · replace h := h.2 c23
        refine x_aload_n (pc' := 27) K dX6_share_26 0 rfl rfl ?_
        refine x_iconst (pc' := 28) (v := 1) K dX6_share_27 (by decide) rfl ?_
        refine x_callI (pc' := 31) K (mX6_error l D cI cO a _) rfl gX6_share_X6_error rfl dsX6_error ⟨rfl, rfl, ⟨Nat.le_of_ble_eq_true rfl, Nat.le_of_ble_eq_true rfl⟩, Nat.le_of_ble_eq_true rfl, Nat.le_of_ble_eq_true rfl⟩ h 6 0 rfl rfl (st := []) rfl rfl (Nat.le_of_ble_eq_true rfl) dX6_share_28 rfl (fun r28 F28 G28 h => ?_)
        exact x_iret (wf := w6 cI cO a) K h dX6_share_31
/-! X6_whoHid -/
set_option maxHeartbeats 4000000 in
set_option maxRecDepth 100000 in
theorem xpl31 (cI : ClassId) (cO : ClassId) (a : Nat → Nat) (F : xF) (G : xA) : (w6 cI cO a F G).Perm (List.flatMap (bw6 cI cO a F G) [0, 1, 2, 3, 4, 5, 6, 7, 8, 9, 10, 11, 12, 13, 14, 15, 16, 17, 18, 19, 20, 21, 22, 23, 24, 25, 26, 27, 28, 29, 30, 31, 32, 33, 34, 35, 36, 37, 38, 39, 40, 41, 42, 43, 44, 45, 48, 49, 50, 51, 52, 53] ++ w2 cI (xsub a 97) (xsub F 42) (xsub G 66)) := xpermF (bf := bw6 cI cO a F G) (ns := [0, 1, 2, 3, 4, 5, 6, 7, 8, 9, 10, 11, 12, 13, 14, 15, 16, 17, 18, 19, 20, 21, 22, 23, 24, 25, 26, 27, 28, 29, 30, 31, 32, 33, 34, 35, 36, 37, 38, 39, 40, 41, 42, 43, 44, 45, 46, 47, 48, 49, 50, 51, 52, 53]) rfl [0, 1, 2, 3, 4, 5, 6, 7, 8, 9, 10, 11, 12, 13, 14, 15, 16, 17, 18, 19, 20, 21, 22, 23, 24, 25, 26, 27, 28, 29, 30, 31, 32, 33, 34, 35, 36, 37, 38, 39, 40, 41, 42, 43, 44, 45, 48, 49, 50, 51, 52, 53] [46, 47] (by decide +kernel) rfl rfl
set_option maxHeartbeats 4000000 in
set_option maxRecDepth 100000 in
theorem xpr31 (cI : ClassId) (cO : ClassId) (a : Nat → Nat) (F : xF) (G : xA) (F' : xF) (G' : xA) : (w6 cI cO a (xspl F 42 2 F') (xspl G 66 1 G')).Perm (List.flatMap (bw6 cI cO a F G) [0, 1, 2, 3, 4, 5, 6, 7, 8, 9, 10, 11, 12, 13, 14, 15, 16, 17, 18, 19, 20, 21, 22, 23, 24, 25, 26, 27, 28, 29, 30, 31, 32, 33, 34, 35, 36, 37, 38, 39, 40, 41, 42, 43, 44, 45, 48, 49, 50, 51, 52, 53] ++ w2 cI (xsub a 97) F' G') := xpermF (bf := bw6 cI cO a (xspl F 42 2 F') (xspl G 66 1 G')) (ns := [0, 1, 2, 3, 4, 5, 6, 7, 8, 9, 10, 11, 12, 13, 14, 15, 16, 17, 18, 19, 20, 21, 22, 23, 24, 25, 26, 27, 28, 29, 30, 31, 32, 33, 34, 35, 36, 37, 38, 39, 40, 41, 42, 43, 44, 45, 46, 47, 48, 49, 50, 51, 52, 53]) rfl [0, 1, 2, 3, 4, 5, 6, 7, 8, 9, 10, 11, 12, 13, 14, 15, 16, 17, 18, 19, 20, 21, 22, 23, 24, 25, 26, 27, 28, 29, 30, 31, 32, 33, 34, 35, 36, 37, 38, 39, 40, 41, 42, 43, 44, 45, 48, 49, 50, 51, 52, 53] [46, 47] (by decide +kernel) rfl rfl
set_option maxHeartbeats 4000000 in
set_option maxRecDepth 100000 in
theorem xpl32 (cI : ClassId) (cO : ClassId) (a : Nat → Nat) (F : xF) (G : xA) : (w6 cI cO a F G).Perm (List.flatMap (bw6 cI cO a F G) [0, 1, 2, 3, 4, 5, 6, 7, 8, 9, 10, 11, 12, 13, 14, 15, 16, 17, 18, 19, 20, 21, 22, 23, 24, 25, 26, 27, 28, 29, 30, 31, 32, 33, 34, 35, 36, 37, 38, 39, 40, 41, 42, 43, 44, 45, 46, 47, 50, 51, 52, 53] ++ w2 cI (xsub a 99) (xsub F 44) (xsub G 67)) := xpermF (bf := bw6 cI cO a F G) (ns := [0, 1, 2, 3, 4, 5, 6, 7, 8, 9, 10, 11, 12, 13, 14, 15, 16, 17, 18, 19, 20, 21, 22, 23, 24, 25, 26, 27, 28, 29, 30, 31, 32, 33, 34, 35, 36, 37, 38, 39, 40, 41, 42, 43, 44, 45, 46, 47, 48, 49, 50, 51, 52, 53]) rfl [0, 1, 2, 3, 4, 5, 6, 7, 8, 9, 10, 11, 12, 13, 14, 15, 16, 17, 18, 19, 20, 21, 22, 23, 24, 25, 26, 27, 28, 29, 30, 31, 32, 33, 34, 35, 36, 37, 38, 39, 40, 41, 42, 43, 44, 45, 46, 47, 50, 51, 52, 53] [48, 49] (by decide +kernel) rfl rfl
set_option maxHeartbeats 4000000 in
set_option maxRecDepth 100000 in
theorem xpr32 (cI : ClassId) (cO : ClassId) (a : Nat → Nat) (F : xF) (G : xA) (F' : xF) (G' : xA) : (w6 cI cO a (xspl F 44 2 F') (xspl G 67 1 G')).Perm (List.flatMap (bw6 cI cO a F G) [0, 1, 2, 3, 4, 5, 6, 7, 8, 9, 10, 11, 12, 13, 14, 15, 16, 17, 18, 19, 20, 21, 22, 23, 24, 25, 26, 27, 28, 29, 30, 31, 32, 33, 34, 35, 36, 37, 38, 39, 40, 41, 42, 43, 44, 45, 46, 47, 50, 51, 52, 53] ++ w2 cI (xsub a 99) F' G') := xpermF (bf := bw6 cI cO a (xspl F 44 2 F') (xspl G 67 1 G')) (ns := [0, 1, 2, 3, 4, 5, 6, 7, 8, 9, 10, 11, 12, 13, 14, 15, 16, 17, 18, 19, 20, 21, 22, 23, 24, 25, 26, 27, 28, 29, 30, 31, 32, 33, 34, 35, 36, 37, 38, 39, 40, 41, 42, 43, 44, 45, 46, 47, 48, 49, 50, 51, 52, 53]) rfl [0, 1, 2, 3, 4, 5, 6, 7, 8, 9, 10, 11, 12, 13, 14, 15, 16, 17, 18, 19, 20, 21, 22, 23, 24, 25, 26, 27, 28, 29, 30, 31, 32, 33, 34, 35, 36, 37, 38, 39, 40, 41, 42, 43, 44, 45, 46, 47, 50, 51, 52, 53] [48, 49] (by decide +kernel) rfl rfl
set_option maxHeartbeats 4000000 in
set_option maxRecDepth 100000 in
theorem xpl33 (cI : ClassId) (cO : ClassId) (a : Nat → Nat) (F : xF) (G : xA) : (w6 cI cO a F G).Perm (List.flatMap (bw6 cI cO a F G) [0, 1, 2, 3, 4, 5, 6, 7, 8, 9, 10, 11, 12, 13, 14, 15, 16, 17, 18, 19, 20, 21, 22, 23, 24, 25, 26, 27, 28, 29, 30, 31, 32, 33, 34, 35, 36, 37, 38, 39, 40, 41, 42, 43, 44, 45, 46, 47, 48, 49, 52, 53] ++ w2 cI (xsub a 101) (xsub F 46) (xsub G 68)) := xpermF (bf := bw6 cI cO a F G) (ns := [0, 1, 2, 3, 4, 5, 6, 7, 8, 9, 10, 11, 12, 13, 14, 15, 16, 17, 18, 19, 20, 21, 22, 23, 24, 25, 26, 27, 28, 29, 30, 31, 32, 33, 34, 35, 36, 37, 38, 39, 40, 41, 42, 43, 44, 45, 46, 47, 48, 49, 50, 51, 52, 53]) rfl [0, 1, 2, 3, 4, 5, 6, 7, 8, 9, 10, 11, 12, 13, 14, 15, 16, 17, 18, 19, 20, 21, 22, 23, 24, 25, 26, 27, 28, 29, 30, 31, 32, 33, 34, 35, 36, 37, 38, 39, 40, 41, 42, 43, 44, 45, 46, 47, 48, 49, 52, 53] [50, 51] (by decide +kernel) rfl rfl
set_option maxHeartbeats 4000000 in
set_option maxRecDepth 100000 in
theorem xpr33 (cI : ClassId) (cO : ClassId) (a : Nat → Nat) (F : xF) (G : xA) (F' : xF) (G' : xA) : (w6 cI cO a (xspl F 46 2 F') (xspl G 68 1 G')).Perm (List.flatMap (bw6 cI cO a F G) [0, 1, 2, 3, 4, 5, 6, 7, 8, 9, 10, 11, 12, 13, 14, 15, 16, 17, 18, 19, 20, 21, 22, 23, 24, 25, 26, 27, 28, 29, 30, 31, 32, 33, 34, 35, 36, 37, 38, 39, 40, 41, 42, 43, 44, 45, 46, 47, 48, 49, 52, 53] ++ w2 cI (xsub a 101) F' G') := xpermF (bf := bw6 cI cO a (xspl F 46 2 F') (xspl G 68 1 G')) (ns := [0, 1, 2, 3, 4, 5, 6, 7, 8, 9, 10, 11, 12, 13, 14, 15, 16, 17, 18, 19, 20, 21, 22, 23, 24, 25, 26, 27, 28, 29, 30, 31, 32, 33, 34, 35, 36, 37, 38, 39, 40, 41, 42, 43, 44, 45, 46, 47, 48, 49, 50, 51, 52, 53]) rfl [0, 1, 2, 3, 4, 5, 6, 7, 8, 9, 10, 11, 12, 13, 14, 15, 16, 17, 18, 19, 20, 21, 22, 23, 24, 25, 26, 27, 28, 29, 30, 31, 32, 33, 34, 35, 36, 37, 38, 39, 40, 41, 42, 43, 44, 45, 46, 47, 48, 49, 52, 53] [50, 51] (by decide +kernel) rfl rfl
set_option maxHeartbeats 4000000 in
set_option maxRecDepth 100000 in
theorem xpl34 (cI : ClassId) (cO : ClassId) (a : Nat → Nat) (F : xF) (G : xA) : (w6 cI cO a F G).Perm (List.flatMap (bw6 cI cO a F G) [0, 1, 2, 3, 4, 5, 6, 7, 8, 9, 10, 11, 12, 13, 14, 15, 16, 17, 18, 19, 20, 21, 22, 23, 24, 25, 26, 27, 28, 29, 30, 31, 32, 33, 34, 35, 36, 37, 38, 39, 40, 41, 42, 43, 44, 45, 46, 47, 48, 49, 50, 51] ++ w2 cI (xsub a 103) (xsub F 48) (xsub G 69)) := xpermF (bf := bw6 cI cO a F G) (ns := [0, 1, 2, 3, 4, 5, 6, 7, 8, 9, 10, 11, 12, 13, 14, 15, 16, 17, 18, 19, 20, 21, 22, 23, 24, 25, 26, 27, 28, 29, 30, 31, 32, 33, 34, 35, 36, 37, 38, 39, 40, 41, 42, 43, 44, 45, 46, 47, 48, 49, 50, 51, 52, 53]) rfl [0, 1, 2, 3, 4, 5, 6, 7, 8, 9, 10, 11, 12, 13, 14, 15, 16, 17, 18, 19, 20, 21, 22, 23, 24, 25, 26, 27, 28, 29, 30, 31, 32, 33, 34, 35, 36, 37, 38, 39, 40, 41, 42, 43, 44, 45, 46, 47, 48, 49, 50, 51] [52, 53] (by decide +kernel) rfl rfl
set_option maxHeartbeats 4000000 in
set_option maxRecDepth 100000 in
theorem xpr34 (cI : ClassId) (cO : ClassId) (a : Nat → Nat) (F : xF) (G : xA) (F' : xF) (G' : xA) : (w6 cI cO a (xspl F 48 2 F') (xspl G 69 1 G')).Perm (List.flatMap (bw6 cI cO a F G) [0, 1, 2, 3, 4, 5, 6, 7, 8, 9, 10, 11, 12, 13, 14, 15, 16, 17, 18, 19, 20, 21, 22, 23, 24, 25, 26, 27, 28, 29, 30, 31, 32, 33, 34, 35, 36, 37, 38, 39, 40, 41, 42, 43, 44, 45, 46, 47, 48, 49, 50, 51] ++ w2 cI (xsub a 103) F' G') := xpermF (bf := bw6 cI cO a (xspl F 48 2 F') (xspl G 69 1 G')) (ns := [0, 1, 2, 3, 4, 5, 6, 7, 8, 9, 10, 11, 12, 13, 14, 15, 16, 17, 18, 19, 20, 21, 22, 23, 24, 25, 26, 27, 28, 29, 30, 31, 32, 33, 34, 35, 36, 37, 38, 39, 40, 41, 42, 43, 44, 45, 46, 47, 48, 49, 50, 51, 52, 53]) rfl [0, 1, 2, 3, 4, 5, 6, 7, 8, 9, 10, 11, 12, 13, 14, 15, 16, 17, 18, 19, 20, 21, 22, 23, 24, 25, 26, 27, 28, 29, 30, 31, 32, 33, 34, 35, 36, 37, 38, 39, 40, 41, 42, 43, 44, 45, 46, 47, 48, 49, 50, 51] [52, 53] (by decide +kernel) rfl rfl
abbrev rmX6_whoHid : Room := { frames := 8, cells := 0, slots := 0, locals := 267 }
theorem dsX6_whoHid : xDesc yX6_whoHid 3 := by decide +kernel
theorem uX6_whoHid_f70 : Cond.fieldLink RX6 70 "PigNinths" "sheets" "[LPigNinths$Sheet;" ∈ wsX6_whoHid := nw_in nwl_X6_whoHid nwe_348 (by decide +kernel)
theorem hinX6_whoHid_X6 : ∀ w ∈ wsX60, w ∈ wsX6_whoHid := nw_all nwl_X6_whoHid nwl_X60 (by decide +kernel)
theorem uX6_whoHid_f212 : Cond.fieldLink RX6 212 "PigNinths$Sheet" "size" "I" ∈ wsX6_whoHid := nw_in nwl_X6_whoHid nwe_467 (by decide +kernel)
theorem hinX6_whoHid_X2 : ∀ w ∈ wsX20, w ∈ wsX6_whoHid := nw_all nwl_X6_whoHid nwl_X20 (by decide +kernel)
set_option maxHeartbeats 4000000 in
set_option maxRecDepth 100000 in
theorem tX6_whoHid_76 (K : XK p m c cX6_whoHid 10 s args wsX6_whoHid RX6 D (xtys cI cO) A meth (some .int)) {Q : Int32 → xF → xA → Prop} : ∀ (n : Nat), ∀ (x2 : Int32) (x3 : Int32) (x5 : Int32) (x6 : Int32) (x7 : Int32) (x8 : Int32) (F : xF) (G : xA), qX6_whoHid_76 Q n x2 x3 x5 x6 x7 x8 F G → XJ p l e rmX6_whoHid s m args below meth c 0 0 (MQ below (xQi D (w6 cI cO a) A Q) args s 0 0 A) D (xtys cI cO) A 10 (w6 cI cO a F G) 76 [(0, .ref (a 0)), (2, .int x2), (3, .int x3), (4, .ref (a 97)), (5, .int x5), (6, .int x6), (7, .int x7), (8, .int x8)] [] := by
  intro n
  induction n with
  | zero =>
    intro x2 x3 x5 x6 x7 x8 F G h
    exact False.elim h
  | succ n ih =>
    intro x2 x3 x5 x6 x7 x8 F G h
    refine x_iload (pc' := 78) K dX6_whoHid_76 7 rfl rfl ?_
    refine x_bipush (pc' := 80) (v := 9) K dX6_whoHid_78 (by decide) rfl ?_
    refine x_icmp_ge (tgt := 127) (pc' := 83) K dX6_whoHid_80 rfl rfl (fun c80 => ?_) (fun c80 => ?_)
    · replace h := h.1 c80
      refine x_iload_n (pc' := 128) K dX6_whoHid_127 2 rfl rfl ?_
      refine x_if_ne (tgt := 134) (pc' := 131) K dX6_whoHid_128 rfl rfl (fun c128 => ?_) (fun c128 => ?_)
      · replace h := h.1 c128
        refine x_iload (pc' := 136) K dX6_whoHid_134 5 rfl rfl ?_
        refine x_if_ge (tgt := 145) (pc' := 139) K dX6_whoHid_136 rfl rfl (fun c136 => ?_) (fun c136 => ?_)
        · replace h := h.1 c136
          refine x_iload_n (pc' := 146) K dX6_whoHid_145 2 rfl rfl ?_
          refine x_iconst (pc' := 147) (v := 1) K dX6_whoHid_146 (by decide) rfl ?_
          refine x_icmp_ne (tgt := 155) (pc' := 150) K dX6_whoHid_147 rfl rfl (fun c147 => ?_) (fun c147 => ?_)
          · replace h := h.1 c147
            refine x_iload (pc' := 157) K dX6_whoHid_155 6 rfl rfl ?_
            exact x_iret (wf := w6 cI cO a) K h dX6_whoHid_157
          · replace h := h.2 c147
            refine x_iload (pc' := 152) K dX6_whoHid_150 5 rfl rfl ?_
            refine x_goto (tgt := 157) K dX6_whoHid_152 rfl ?_
            exact x_iret (wf := w6 cI cO a) K h dX6_whoHid_157
        · replace h := h.2 c136
          refine x_aload_n (pc' := 140) K dX6_whoHid_139 0 rfl rfl ?_
          refine x_iconst (pc' := 141) (v := 2) K dX6_whoHid_140 (by decide) rfl ?_
          refine x_callI (pc' := 144) K (mX6_error l D cI cO a _) rfl gX6_whoHid_X6_error rfl dsX6_error ⟨rfl, rfl, ⟨Nat.le_of_ble_eq_true rfl, Nat.le_of_ble_eq_true rfl⟩, Nat.le_of_ble_eq_true rfl, Nat.le_of_ble_eq_true rfl⟩ h 6 0 rfl rfl (st := []) rfl rfl (Nat.le_of_ble_eq_true rfl) dX6_whoHid_141 rfl (fun r141 F141 G141 h => ?_)
          exact x_iret (wf := w6 cI cO a) K h dX6_whoHid_144
      · replace h := h.2 c128
        refine x_iload (pc' := 133) K dX6_whoHid_131 4 rfl rfl ?_
        exact x_iret (wf := w6 cI cO a) K h dX6_whoHid_133
    · replace h := h.2 c80
      refine x_aload_n (pc' := 84) K dX6_whoHid_83 0 rfl rfl ?_
      refine x_iload (pc' := 86) K dX6_whoHid_84 7 rfl rfl ?_
      refine x_aload (pc' := 88) K dX6_whoHid_86 3 rfl rfl ?_
      refine x_iload_n (pc' := 89) K dX6_whoHid_88 1 rfl rfl ?_
      refine x_callI (pc' := 92) K (mX6_leastMark_0 l D cI cO a _ _) rfl gX6_whoHid_X6_leastMark rfl dsX6_leastMark ⟨rfl, rfl, ⟨Nat.le_of_ble_eq_true rfl, Nat.le_of_ble_eq_true rfl⟩, Nat.le_of_ble_eq_true rfl, Nat.le_of_ble_eq_true rfl⟩ h 6 0 rfl rfl (st := []) rfl rfl (Nat.le_of_ble_eq_true rfl) dX6_whoHid_89 rfl (fun r89 F89 G89 h => ?_)
      refine x_istore (pc' := 94) (i := 9) K dX6_whoHid_92 (by decide) [1, 2, 3, 4, 5, 6, 7, 8, 0] (L' := [(0, .ref (a 0)), (2, .int _), (3, .int _), (4, .ref (a 97)), (5, .int _), (6, .int _), (7, .int _), (8, .int _), (9, .int _)]) rfl rfl ?_
      refine x_iload (pc' := 96) K dX6_whoHid_94 8 rfl rfl ?_
      refine x_if_lt (tgt := 121) (pc' := 99) K dX6_whoHid_96 rfl rfl (fun c96 => ?_) (fun c96 => ?_)
      · replace h := h.1 c96
        refine x_iinc (pc' := 124) (v := _ + (1 : Int32)) K dX6_whoHid_121 7 rfl rfl (by decide) [1, 2, 3, 4, 5, 6, 7, 0, 8] (L' := [(0, .ref (a 0)), (2, .int _), (3, .int _), (4, .ref (a 97)), (5, .int _), (6, .int _), (7, .int _), (8, .int _), (9, .int _)]) rfl rfl ?_
        refine x_goto (tgt := 76) K dX6_whoHid_124 rfl ?_
        refine x_locals [0, 1, 2, 3, 4, 5, 6, 7] (L' := [(0, .ref (a 0)), (2, .int _), (3, .int _), (4, .ref (a 97)), (5, .int _), (6, .int _), (7, .int _), (8, .int _)]) rfl ?_
        exact ih _ _ _ _ _ _ _ _ h
      · replace h := h.2 c96
        refine x_iload (pc' := 101) K dX6_whoHid_99 4 rfl rfl ?_
        refine x_iconst (pc' := 102) (v := 1) K dX6_whoHid_101 (by decide) rfl ?_
        refine x_iload (pc' := 104) K dX6_whoHid_102 7 rfl rfl ?_
        refine x_ishl (pc' := 105) K dX6_whoHid_104 rfl ?_
        refine x_ior (pc' := 106) K dX6_whoHid_105 rfl ?_
        refine x_istore (pc' := 108) (i := 5) K dX6_whoHid_106 (by decide) [1, 2, 3, 4, 0, 5, 6, 7, 8] (L' := [(0, .ref (a 0)), (2, .int _), (3, .int _), (4, .ref (a 97)), (5, .int _), (6, .int _), (7, .int _), (8, .int _), (9, .int _)]) rfl rfl ?_
        refine x_iload (pc' := 110) K dX6_whoHid_108 5 rfl rfl ?_
        refine x_if_ge (tgt := 121) (pc' := 113) K dX6_whoHid_110 rfl rfl (fun c110 => ?_) (fun c110 => ?_)
        · replace h := h.1 c110
          refine x_iinc (pc' := 124) (v := _ + (1 : Int32)) K dX6_whoHid_121 7 rfl rfl (by decide) [1, 2, 3, 4, 5, 6, 7, 0, 8] (L' := [(0, .ref (a 0)), (2, .int _), (3, .int _), (4, .ref (a 97)), (5, .int _), (6, .int _), (7, .int _), (8, .int _), (9, .int _)]) rfl rfl ?_
          refine x_goto (tgt := 76) K dX6_whoHid_124 rfl ?_
          refine x_locals [0, 1, 2, 3, 4, 5, 6, 7] (L' := [(0, .ref (a 0)), (2, .int _), (3, .int _), (4, .ref (a 97)), (5, .int _), (6, .int _), (7, .int _), (8, .int _)]) rfl ?_
          exact ih _ _ _ _ _ _ _ _ h
        · replace h := h.2 c110
          refine x_iload (pc' := 115) K dX6_whoHid_113 7 rfl rfl ?_
          refine x_istore (pc' := 117) (i := 6) K dX6_whoHid_115 (by decide) [1, 2, 3, 4, 5, 0, 6, 7, 8] (L' := [(0, .ref (a 0)), (2, .int _), (3, .int _), (4, .ref (a 97)), (5, .int _), (6, .int _), (7, .int _), (8, .int _), (9, .int _)]) rfl rfl ?_
          refine x_iload (pc' := 119) K dX6_whoHid_117 8 rfl rfl ?_
          refine x_istore (pc' := 121) (i := 7) K dX6_whoHid_119 (by decide) [1, 2, 3, 4, 5, 6, 0, 7, 8] (L' := [(0, .ref (a 0)), (2, .int _), (3, .int _), (4, .ref (a 97)), (5, .int _), (6, .int _), (7, .int _), (8, .int _), (9, .int _)]) rfl rfl ?_
          refine x_iinc (pc' := 124) (v := _ + (1 : Int32)) K dX6_whoHid_121 7 rfl rfl (by decide) [1, 2, 3, 4, 5, 6, 7, 0, 8] (L' := [(0, .ref (a 0)), (2, .int _), (3, .int _), (4, .ref (a 97)), (5, .int _), (6, .int _), (7, .int _), (8, .int _), (9, .int _)]) rfl rfl ?_
          refine x_goto (tgt := 76) K dX6_whoHid_124 rfl ?_
          refine x_locals [0, 1, 2, 3, 4, 5, 6, 7] (L' := [(0, .ref (a 0)), (2, .int _), (3, .int _), (4, .ref (a 97)), (5, .int _), (6, .int _), (7, .int _), (8, .int _)]) rfl ?_
          exact ih _ _ _ _ _ _ _ _ h
set_option maxHeartbeats 4000000 in
set_option maxRecDepth 100000 in
theorem tX6_whoHid_76_1 (K : XK p m c cX6_whoHid 10 s args wsX6_whoHid RX6 D (xtys cI cO) A meth (some .int)) {Q : Int32 → xF → xA → Prop} : ∀ (n : Nat), ∀ (x2 : Int32) (x3 : Int32) (x5 : Int32) (x6 : Int32) (x7 : Int32) (x8 : Int32) (F : xF) (G : xA), qX6_whoHid_76_1 Q n x2 x3 x5 x6 x7 x8 F G → XJ p l e rmX6_whoHid s m args below meth c 0 0 (MQ below (xQi D (w6 cI cO a) A Q) args s 0 0 A) D (xtys cI cO) A 10 (w6 cI cO a F G) 76 [(0, .ref (a 0)), (2, .int x2), (3, .int x3), (4, .ref (a 99)), (5, .int x5), (6, .int x6), (7, .int x7), (8, .int x8)] [] := by
  intro n
  induction n with
  | zero =>
    intro x2 x3 x5 x6 x7 x8 F G h
    exact False.elim h
  | succ n ih =>
    intro x2 x3 x5 x6 x7 x8 F G h
    refine x_iload (pc' := 78) K dX6_whoHid_76 7 rfl rfl ?_
    refine x_bipush (pc' := 80) (v := 9) K dX6_whoHid_78 (by decide) rfl ?_
    refine x_icmp_ge (tgt := 127) (pc' := 83) K dX6_whoHid_80 rfl rfl (fun c80 => ?_) (fun c80 => ?_)
    · replace h := h.1 c80
      refine x_iload_n (pc' := 128) K dX6_whoHid_127 2 rfl rfl ?_
      refine x_if_ne (tgt := 134) (pc' := 131) K dX6_whoHid_128 rfl rfl (fun c128 => ?_) (fun c128 => ?_)
      · replace h := h.1 c128
        refine x_iload (pc' := 136) K dX6_whoHid_134 5 rfl rfl ?_
        refine x_if_ge (tgt := 145) (pc' := 139) K dX6_whoHid_136 rfl rfl (fun c136 => ?_) (fun c136 => ?_)
        · replace h := h.1 c136
          refine x_iload_n (pc' := 146) K dX6_whoHid_145 2 rfl rfl ?_
          refine x_iconst (pc' := 147) (v := 1) K dX6_whoHid_146 (by decide) rfl ?_
          refine x_icmp_ne (tgt := 155) (pc' := 150) K dX6_whoHid_147 rfl rfl (fun c147 => ?_) (fun c147 => ?_)
          · replace h := h.1 c147
            refine x_iload (pc' := 157) K dX6_whoHid_155 6 rfl rfl ?_
            exact x_iret (wf := w6 cI cO a) K h dX6_whoHid_157
          · replace h := h.2 c147
            refine x_iload (pc' := 152) K dX6_whoHid_150 5 rfl rfl ?_
            refine x_goto (tgt := 157) K dX6_whoHid_152 rfl ?_
            exact x_iret (wf := w6 cI cO a) K h dX6_whoHid_157
        · replace h := h.2 c136
          refine x_aload_n (pc' := 140) K dX6_whoHid_139 0 rfl rfl ?_
          refine x_iconst (pc' := 141) (v := 2) K dX6_whoHid_140 (by decide) rfl ?_
          refine x_callI (pc' := 144) K (mX6_error l D cI cO a _) rfl gX6_whoHid_X6_error rfl dsX6_error ⟨rfl, rfl, ⟨Nat.le_of_ble_eq_true rfl, Nat.le_of_ble_eq_true rfl⟩, Nat.le_of_ble_eq_true rfl, Nat.le_of_ble_eq_true rfl⟩ h 6 0 rfl rfl (st := []) rfl rfl (Nat.le_of_ble_eq_true rfl) dX6_whoHid_141 rfl (fun r141 F141 G141 h => ?_)
          exact x_iret (wf := w6 cI cO a) K h dX6_whoHid_144
      · replace h := h.2 c128
        refine x_iload (pc' := 133) K dX6_whoHid_131 4 rfl rfl ?_
        exact x_iret (wf := w6 cI cO a) K h dX6_whoHid_133
    · replace h := h.2 c80
      refine x_aload_n (pc' := 84) K dX6_whoHid_83 0 rfl rfl ?_
      refine x_iload (pc' := 86) K dX6_whoHid_84 7 rfl rfl ?_
      refine x_aload (pc' := 88) K dX6_whoHid_86 3 rfl rfl ?_
      refine x_iload_n (pc' := 89) K dX6_whoHid_88 1 rfl rfl ?_
      refine x_callI (pc' := 92) K (mX6_leastMark_1 l D cI cO a _ _) rfl gX6_whoHid_X6_leastMark rfl dsX6_leastMark ⟨rfl, rfl, ⟨Nat.le_of_ble_eq_true rfl, Nat.le_of_ble_eq_true rfl⟩, Nat.le_of_ble_eq_true rfl, Nat.le_of_ble_eq_true rfl⟩ h 6 0 rfl rfl (st := []) rfl rfl (Nat.le_of_ble_eq_true rfl) dX6_whoHid_89 rfl (fun r89 F89 G89 h => ?_)
      refine x_istore (pc' := 94) (i := 9) K dX6_whoHid_92 (by decide) [1, 2, 3, 4, 5, 6, 7, 8, 0] (L' := [(0, .ref (a 0)), (2, .int _), (3, .int _), (4, .ref (a 99)), (5, .int _), (6, .int _), (7, .int _), (8, .int _), (9, .int _)]) rfl rfl ?_
      refine x_iload (pc' := 96) K dX6_whoHid_94 8 rfl rfl ?_
      refine x_if_lt (tgt := 121) (pc' := 99) K dX6_whoHid_96 rfl rfl (fun c96 => ?_) (fun c96 => ?_)
      · replace h := h.1 c96
        refine x_iinc (pc' := 124) (v := _ + (1 : Int32)) K dX6_whoHid_121 7 rfl rfl (by decide) [1, 2, 3, 4, 5, 6, 7, 0, 8] (L' := [(0, .ref (a 0)), (2, .int _), (3, .int _), (4, .ref (a 99)), (5, .int _), (6, .int _), (7, .int _), (8, .int _), (9, .int _)]) rfl rfl ?_
        refine x_goto (tgt := 76) K dX6_whoHid_124 rfl ?_
        refine x_locals [0, 1, 2, 3, 4, 5, 6, 7] (L' := [(0, .ref (a 0)), (2, .int _), (3, .int _), (4, .ref (a 99)), (5, .int _), (6, .int _), (7, .int _), (8, .int _)]) rfl ?_
        exact ih _ _ _ _ _ _ _ _ h
      · replace h := h.2 c96
        refine x_iload (pc' := 101) K dX6_whoHid_99 4 rfl rfl ?_
        refine x_iconst (pc' := 102) (v := 1) K dX6_whoHid_101 (by decide) rfl ?_
        refine x_iload (pc' := 104) K dX6_whoHid_102 7 rfl rfl ?_
        refine x_ishl (pc' := 105) K dX6_whoHid_104 rfl ?_
        refine x_ior (pc' := 106) K dX6_whoHid_105 rfl ?_
        refine x_istore (pc' := 108) (i := 5) K dX6_whoHid_106 (by decide) [1, 2, 3, 4, 0, 5, 6, 7, 8] (L' := [(0, .ref (a 0)), (2, .int _), (3, .int _), (4, .ref (a 99)), (5, .int _), (6, .int _), (7, .int _), (8, .int _), (9, .int _)]) rfl rfl ?_
        refine x_iload (pc' := 110) K dX6_whoHid_108 5 rfl rfl ?_
        refine x_if_ge (tgt := 121) (pc' := 113) K dX6_whoHid_110 rfl rfl (fun c110 => ?_) (fun c110 => ?_)
        · replace h := h.1 c110
          refine x_iinc (pc' := 124) (v := _ + (1 : Int32)) K dX6_whoHid_121 7 rfl rfl (by decide) [1, 2, 3, 4, 5, 6, 7, 0, 8] (L' := [(0, .ref (a 0)), (2, .int _), (3, .int _), (4, .ref (a 99)), (5, .int _), (6, .int _), (7, .int _), (8, .int _), (9, .int _)]) rfl rfl ?_
          refine x_goto (tgt := 76) K dX6_whoHid_124 rfl ?_
          refine x_locals [0, 1, 2, 3, 4, 5, 6, 7] (L' := [(0, .ref (a 0)), (2, .int _), (3, .int _), (4, .ref (a 99)), (5, .int _), (6, .int _), (7, .int _), (8, .int _)]) rfl ?_
          exact ih _ _ _ _ _ _ _ _ h
        · replace h := h.2 c110
          refine x_iload (pc' := 115) K dX6_whoHid_113 7 rfl rfl ?_
          refine x_istore (pc' := 117) (i := 6) K dX6_whoHid_115 (by decide) [1, 2, 3, 4, 5, 0, 6, 7, 8] (L' := [(0, .ref (a 0)), (2, .int _), (3, .int _), (4, .ref (a 99)), (5, .int _), (6, .int _), (7, .int _), (8, .int _), (9, .int _)]) rfl rfl ?_
          refine x_iload (pc' := 119) K dX6_whoHid_117 8 rfl rfl ?_
          refine x_istore (pc' := 121) (i := 7) K dX6_whoHid_119 (by decide) [1, 2, 3, 4, 5, 6, 0, 7, 8] (L' := [(0, .ref (a 0)), (2, .int _), (3, .int _), (4, .ref (a 99)), (5, .int _), (6, .int _), (7, .int _), (8, .int _), (9, .int _)]) rfl rfl ?_
          refine x_iinc (pc' := 124) (v := _ + (1 : Int32)) K dX6_whoHid_121 7 rfl rfl (by decide) [1, 2, 3, 4, 5, 6, 7, 0, 8] (L' := [(0, .ref (a 0)), (2, .int _), (3, .int _), (4, .ref (a 99)), (5, .int _), (6, .int _), (7, .int _), (8, .int _), (9, .int _)]) rfl rfl ?_
          refine x_goto (tgt := 76) K dX6_whoHid_124 rfl ?_
          refine x_locals [0, 1, 2, 3, 4, 5, 6, 7] (L' := [(0, .ref (a 0)), (2, .int _), (3, .int _), (4, .ref (a 99)), (5, .int _), (6, .int _), (7, .int _), (8, .int _)]) rfl ?_
          exact ih _ _ _ _ _ _ _ _ h
set_option maxHeartbeats 4000000 in
set_option maxRecDepth 100000 in
theorem tX6_whoHid_76_2 (K : XK p m c cX6_whoHid 10 s args wsX6_whoHid RX6 D (xtys cI cO) A meth (some .int)) {Q : Int32 → xF → xA → Prop} : ∀ (n : Nat), ∀ (x2 : Int32) (x3 : Int32) (x5 : Int32) (x6 : Int32) (x7 : Int32) (x8 : Int32) (F : xF) (G : xA), qX6_whoHid_76_2 Q n x2 x3 x5 x6 x7 x8 F G → XJ p l e rmX6_whoHid s m args below meth c 0 0 (MQ below (xQi D (w6 cI cO a) A Q) args s 0 0 A) D (xtys cI cO) A 10 (w6 cI cO a F G) 76 [(0, .ref (a 0)), (2, .int x2), (3, .int x3), (4, .ref (a 101)), (5, .int x5), (6, .int x6), (7, .int x7), (8, .int x8)] [] := by
  intro n
  induction n with
  | zero =>
    intro x2 x3 x5 x6 x7 x8 F G h
    exact False.elim h
  | succ n ih =>
    intro x2 x3 x5 x6 x7 x8 F G h
    refine x_iload (pc' := 78) K dX6_whoHid_76 7 rfl rfl ?_
    refine x_bipush (pc' := 80) (v := 9) K dX6_whoHid_78 (by decide) rfl ?_
    refine x_icmp_ge (tgt := 127) (pc' := 83) K dX6_whoHid_80 rfl rfl (fun c80 => ?_) (fun c80 => ?_)
    · replace h := h.1 c80
      refine x_iload_n (pc' := 128) K dX6_whoHid_127 2 rfl rfl ?_
      refine x_if_ne (tgt := 134) (pc' := 131) K dX6_whoHid_128 rfl rfl (fun c128 => ?_) (fun c128 => ?_)
      · replace h := h.1 c128
        refine x_iload (pc' := 136) K dX6_whoHid_134 5 rfl rfl ?_
        refine x_if_ge (tgt := 145) (pc' := 139) K dX6_whoHid_136 rfl rfl (fun c136 => ?_) (fun c136 => ?_)
        · replace h := h.1 c136
          refine x_iload_n (pc' := 146) K dX6_whoHid_145 2 rfl rfl ?_
          refine x_iconst (pc' := 147) (v := 1) K dX6_whoHid_146 (by decide) rfl ?_
          refine x_icmp_ne (tgt := 155) (pc' := 150) K dX6_whoHid_147 rfl rfl (fun c147 => ?_) (fun c147 => ?_)
          · replace h := h.1 c147
            refine x_iload (pc' := 157) K dX6_whoHid_155 6 rfl rfl ?_
            exact x_iret (wf := w6 cI cO a) K h dX6_whoHid_157
          · replace h := h.2 c147
            refine x_iload (pc' := 152) K dX6_whoHid_150 5 rfl rfl ?_
            refine x_goto (tgt := 157) K dX6_whoHid_152 rfl ?_
            exact x_iret (wf := w6 cI cO a) K h dX6_whoHid_157
        · replace h := h.2 c136
          refine x_aload_n (pc' := 140) K dX6_whoHid_139 0 rfl rfl ?_
          refine x_iconst (pc' := 141) (v := 2) K dX6_whoHid_140 (by decide) rfl ?_
          refine x_callI (pc' := 144) K (mX6_error l D cI cO a _) rfl gX6_whoHid_X6_error rfl dsX6_error ⟨rfl, rfl, ⟨Nat.le_of_ble_eq_true rfl, Nat.le_of_ble_eq_true rfl⟩, Nat.le_of_ble_eq_true rfl, Nat.le_of_ble_eq_true rfl⟩ h 6 0 rfl rfl (st := []) rfl rfl (Nat.le_of_ble_eq_true rfl) dX6_whoHid_141 rfl (fun r141 F141 G141 h => ?_)
          exact x_iret (wf := w6 cI cO a) K h dX6_whoHid_144
      · replace h := h.2 c128
        refine x_iload (pc' := 133) K dX6_whoHid_131 4 rfl rfl ?_
        exact x_iret (wf := w6 cI cO a) K h dX6_whoHid_133
    · replace h := h.2 c80
      refine x_aload_n (pc' := 84) K dX6_whoHid_83 0 rfl rfl ?_
      refine x_iload (pc' := 86) K dX6_whoHid_84 7 rfl rfl ?_
      refine x_aload (pc' := 88) K dX6_whoHid_86 3 rfl rfl ?_
      refine x_iload_n (pc' := 89) K dX6_whoHid_88 1 rfl rfl ?_
      refine x_callI (pc' := 92) K (mX6_leastMark_2 l D cI cO a _ _) rfl gX6_whoHid_X6_leastMark rfl dsX6_leastMark ⟨rfl, rfl, ⟨Nat.le_of_ble_eq_true rfl, Nat.le_of_ble_eq_true rfl⟩, Nat.le_of_ble_eq_true rfl, Nat.le_of_ble_eq_true rfl⟩ h 6 0 rfl rfl (st := []) rfl rfl (Nat.le_of_ble_eq_true rfl) dX6_whoHid_89 rfl (fun r89 F89 G89 h => ?_)
      refine x_istore (pc' := 94) (i := 9) K dX6_whoHid_92 (by decide) [1, 2, 3, 4, 5, 6, 7, 8, 0] (L' := [(0, .ref (a 0)), (2, .int _), (3, .int _), (4, .ref (a 101)), (5, .int _), (6, .int _), (7, .int _), (8, .int _), (9, .int _)]) rfl rfl ?_
      refine x_iload (pc' := 96) K dX6_whoHid_94 8 rfl rfl ?_
      refine x_if_lt (tgt := 121) (pc' := 99) K dX6_whoHid_96 rfl rfl (fun c96 => ?_) (fun c96 => ?_)
      · replace h := h.1 c96
        refine x_iinc (pc' := 124) (v := _ + (1 : Int32)) K dX6_whoHid_121 7 rfl rfl (by decide) [1, 2, 3, 4, 5, 6, 7, 0, 8] (L' := [(0, .ref (a 0)), (2, .int _), (3, .int _), (4, .ref (a 101)), (5, .int _), (6, .int _), (7, .int _), (8, .int _), (9, .int _)]) rfl rfl ?_
        refine x_goto (tgt := 76) K dX6_whoHid_124 rfl ?_
        refine x_locals [0, 1, 2, 3, 4, 5, 6, 7] (L' := [(0, .ref (a 0)), (2, .int _), (3, .int _), (4, .ref (a 101)), (5, .int _), (6, .int _), (7, .int _), (8, .int _)]) rfl ?_
        exact ih _ _ _ _ _ _ _ _ h
      · replace h := h.2 c96
        refine x_iload (pc' := 101) K dX6_whoHid_99 4 rfl rfl ?_
        refine x_iconst (pc' := 102) (v := 1) K dX6_whoHid_101 (by decide) rfl ?_
        refine x_iload (pc' := 104) K dX6_whoHid_102 7 rfl rfl ?_
        refine x_ishl (pc' := 105) K dX6_whoHid_104 rfl ?_
        refine x_ior (pc' := 106) K dX6_whoHid_105 rfl ?_
        refine x_istore (pc' := 108) (i := 5) K dX6_whoHid_106 (by decide) [1, 2, 3, 4, 0, 5, 6, 7, 8] (L' := [(0, .ref (a 0)), (2, .int _), (3, .int _), (4, .ref (a 101)), (5, .int _), (6, .int _), (7, .int _), (8, .int _), (9, .int _)]) rfl rfl ?_
        refine x_iload (pc' := 110) K dX6_whoHid_108 5 rfl rfl ?_
        refine x_if_ge (tgt := 121) (pc' := 113) K dX6_whoHid_110 rfl rfl (fun c110 => ?_) (fun c110 => ?_)
        · replace h := h.1 c110
          refine x_iinc (pc' := 124) (v := _ + (1 : Int32)) K dX6_whoHid_121 7 rfl rfl (by decide) [1, 2, 3, 4, 5, 6, 7, 0, 8] (L' := [(0, .ref (a 0)), (2, .int _), (3, .int _), (4, .ref (a 101)), (5, .int _), (6, .int _), (7, .int _), (8, .int _), (9, .int _)]) rfl rfl ?_
          refine x_goto (tgt := 76) K dX6_whoHid_124 rfl ?_
          refine x_locals [0, 1, 2, 3, 4, 5, 6, 7] (L' := [(0, .ref (a 0)), (2, .int _), (3, .int _), (4, .ref (a 101)), (5, .int _), (6, .int _), (7, .int _), (8, .int _)]) rfl ?_
          exact ih _ _ _ _ _ _ _ _ h
        · replace h := h.2 c110
          refine x_iload (pc' := 115) K dX6_whoHid_113 7 rfl rfl ?_
          refine x_istore (pc' := 117) (i := 6) K dX6_whoHid_115 (by decide) [1, 2, 3, 4, 5, 0, 6, 7, 8] (L' := [(0, .ref (a 0)), (2, .int _), (3, .int _), (4, .ref (a 101)), (5, .int _), (6, .int _), (7, .int _), (8, .int _), (9, .int _)]) rfl rfl ?_
          refine x_iload (pc' := 119) K dX6_whoHid_117 8 rfl rfl ?_
          refine x_istore (pc' := 121) (i := 7) K dX6_whoHid_119 (by decide) [1, 2, 3, 4, 5, 6, 0, 7, 8] (L' := [(0, .ref (a 0)), (2, .int _), (3, .int _), (4, .ref (a 101)), (5, .int _), (6, .int _), (7, .int _), (8, .int _), (9, .int _)]) rfl rfl ?_
          refine x_iinc (pc' := 124) (v := _ + (1 : Int32)) K dX6_whoHid_121 7 rfl rfl (by decide) [1, 2, 3, 4, 5, 6, 7, 0, 8] (L' := [(0, .ref (a 0)), (2, .int _), (3, .int _), (4, .ref (a 101)), (5, .int _), (6, .int _), (7, .int _), (8, .int _), (9, .int _)]) rfl rfl ?_
          refine x_goto (tgt := 76) K dX6_whoHid_124 rfl ?_
          refine x_locals [0, 1, 2, 3, 4, 5, 6, 7] (L' := [(0, .ref (a 0)), (2, .int _), (3, .int _), (4, .ref (a 101)), (5, .int _), (6, .int _), (7, .int _), (8, .int _)]) rfl ?_
          exact ih _ _ _ _ _ _ _ _ h
set_option maxHeartbeats 4000000 in
set_option maxRecDepth 100000 in
theorem tX6_whoHid_76_3 (K : XK p m c cX6_whoHid 10 s args wsX6_whoHid RX6 D (xtys cI cO) A meth (some .int)) {Q : Int32 → xF → xA → Prop} : ∀ (n : Nat), ∀ (x2 : Int32) (x3 : Int32) (x5 : Int32) (x6 : Int32) (x7 : Int32) (x8 : Int32) (F : xF) (G : xA), qX6_whoHid_76_3 Q n x2 x3 x5 x6 x7 x8 F G → XJ p l e rmX6_whoHid s m args below meth c 0 0 (MQ below (xQi D (w6 cI cO a) A Q) args s 0 0 A) D (xtys cI cO) A 10 (w6 cI cO a F G) 76 [(0, .ref (a 0)), (2, .int x2), (3, .int x3), (4, .ref (a 103)), (5, .int x5), (6, .int x6), (7, .int x7), (8, .int x8)] [] := by
  intro n
  induction n with
  | zero =>
    intro x2 x3 x5 x6 x7 x8 F G h
    exact False.elim h
  | succ n ih =>
    intro x2 x3 x5 x6 x7 x8 F G h
    refine x_iload (pc' := 78) K dX6_whoHid_76 7 rfl rfl ?_
    refine x_bipush (pc' := 80) (v := 9) K dX6_whoHid_78 (by decide) rfl ?_
    refine x_icmp_ge (tgt := 127) (pc' := 83) K dX6_whoHid_80 rfl rfl (fun c80 => ?_) (fun c80 => ?_)
    · replace h := h.1 c80
      refine x_iload_n (pc' := 128) K dX6_whoHid_127 2 rfl rfl ?_
      refine x_if_ne (tgt := 134) (pc' := 131) K dX6_whoHid_128 rfl rfl (fun c128 => ?_) (fun c128 => ?_)
      · replace h := h.1 c128
        refine x_iload (pc' := 136) K dX6_whoHid_134 5 rfl rfl ?_
        refine x_if_ge (tgt := 145) (pc' := 139) K dX6_whoHid_136 rfl rfl (fun c136 => ?_) (fun c136 => ?_)
        · replace h := h.1 c136
          refine x_iload_n (pc' := 146) K dX6_whoHid_145 2 rfl rfl ?_
          refine x_iconst (pc' := 147) (v := 1) K dX6_whoHid_146 (by decide) rfl ?_
          refine x_icmp_ne (tgt := 155) (pc' := 150) K dX6_whoHid_147 rfl rfl (fun c147 => ?_) (fun c147 => ?_)
          · replace h := h.1 c147
            refine x_iload (pc' := 157) K dX6_whoHid_155 6 rfl rfl ?_
            exact x_iret (wf := w6 cI cO a) K h dX6_whoHid_157
          · replace h := h.2 c147
            refine x_iload (pc' := 152) K dX6_whoHid_150 5 rfl rfl ?_
            refine x_goto (tgt := 157) K dX6_whoHid_152 rfl ?_
            exact x_iret (wf := w6 cI cO a) K h dX6_whoHid_157
        · replace h := h.2 c136
          refine x_aload_n (pc' := 140) K dX6_whoHid_139 0 rfl rfl ?_
          refine x_iconst (pc' := 141) (v := 2) K dX6_whoHid_140 (by decide) rfl ?_
          refine x_callI (pc' := 144) K (mX6_error l D cI cO a _) rfl gX6_whoHid_X6_error rfl dsX6_error ⟨rfl, rfl, ⟨Nat.le_of_ble_eq_true rfl, Nat.le_of_ble_eq_true rfl⟩, Nat.le_of_ble_eq_true rfl, Nat.le_of_ble_eq_true rfl⟩ h 6 0 rfl rfl (st := []) rfl rfl (Nat.le_of_ble_eq_true rfl) dX6_whoHid_141 rfl (fun r141 F141 G141 h => ?_)
          exact x_iret (wf := w6 cI cO a) K h dX6_whoHid_144
      · replace h := h.2 c128
        refine x_iload (pc' := 133) K dX6_whoHid_131 4 rfl rfl ?_
        exact x_iret (wf := w6 cI cO a) K h dX6_whoHid_133
    · replace h := h.2 c80
      refine x_aload_n (pc' := 84) K dX6_whoHid_83 0 rfl rfl ?_
      refine x_iload (pc' := 86) K dX6_whoHid_84 7 rfl rfl ?_
      refine x_aload (pc' := 88) K dX6_whoHid_86 3 rfl rfl ?_
      refine x_iload_n (pc' := 89) K dX6_whoHid_88 1 rfl rfl ?_
      refine x_callI (pc' := 92) K (mX6_leastMark_3 l D cI cO a _ _) rfl gX6_whoHid_X6_leastMark rfl dsX6_leastMark ⟨rfl, rfl, ⟨Nat.le_of_ble_eq_true rfl, Nat.le_of_ble_eq_true rfl⟩, Nat.le_of_ble_eq_true rfl, Nat.le_of_ble_eq_true rfl⟩ h 6 0 rfl rfl (st := []) rfl rfl (Nat.le_of_ble_eq_true rfl) dX6_whoHid_89 rfl (fun r89 F89 G89 h => ?_)
      refine x_istore (pc' := 94) (i := 9) K dX6_whoHid_92 (by decide) [1, 2, 3, 4, 5, 6, 7, 8, 0] (L' := [(0, .ref (a 0)), (2, .int _), (3, .int _), (4, .ref (a 103)), (5, .int _), (6, .int _), (7, .int _), (8, .int _), (9, .int _)]) rfl rfl ?_
      refine x_iload (pc' := 96) K dX6_whoHid_94 8 rfl rfl ?_
      refine x_if_lt (tgt := 121) (pc' := 99) K dX6_whoHid_96 rfl rfl (fun c96 => ?_) (fun c96 => ?_)
      · replace h := h.1 c96
        refine x_iinc (pc' := 124) (v := _ + (1 : Int32)) K dX6_whoHid_121 7 rfl rfl (by decide) [1, 2, 3, 4, 5, 6, 7, 0, 8] (L' := [(0, .ref (a 0)), (2, .int _), (3, .int _), (4, .ref (a 103)), (5, .int _), (6, .int _), (7, .int _), (8, .int _), (9, .int _)]) rfl rfl ?_
        refine x_goto (tgt := 76) K dX6_whoHid_124 rfl ?_
        refine x_locals [0, 1, 2, 3, 4, 5, 6, 7] (L' := [(0, .ref (a 0)), (2, .int _), (3, .int _), (4, .ref (a 103)), (5, .int _), (6, .int _), (7, .int _), (8, .int _)]) rfl ?_
        exact ih _ _ _ _ _ _ _ _ h
      · replace h := h.2 c96
        refine x_iload (pc' := 101) K dX6_whoHid_99 4 rfl rfl ?_
        refine x_iconst (pc' := 102) (v := 1) K dX6_whoHid_101 (by decide) rfl ?_
        refine x_iload (pc' := 104) K dX6_whoHid_102 7 rfl rfl ?_
        refine x_ishl (pc' := 105) K dX6_whoHid_104 rfl ?_
        refine x_ior (pc' := 106) K dX6_whoHid_105 rfl ?_
        refine x_istore (pc' := 108) (i := 5) K dX6_whoHid_106 (by decide) [1, 2, 3, 4, 0, 5, 6, 7, 8] (L' := [(0, .ref (a 0)), (2, .int _), (3, .int _), (4, .ref (a 103)), (5, .int _), (6, .int _), (7, .int _), (8, .int _), (9, .int _)]) rfl rfl ?_
        refine x_iload (pc' := 110) K dX6_whoHid_108 5 rfl rfl ?_
        refine x_if_ge (tgt := 121) (pc' := 113) K dX6_whoHid_110 rfl rfl (fun c110 => ?_) (fun c110 => ?_)
        · replace h := h.1 c110
          refine x_iinc (pc' := 124) (v := _ + (1 : Int32)) K dX6_whoHid_121 7 rfl rfl (by decide) [1, 2, 3, 4, 5, 6, 7, 0, 8] (L' := [(0, .ref (a 0)), (2, .int _), (3, .int _), (4, .ref (a 103)), (5, .int _), (6, .int _), (7, .int _), (8, .int _), (9, .int _)]) rfl rfl ?_
          refine x_goto (tgt := 76) K dX6_whoHid_124 rfl ?_
          refine x_locals [0, 1, 2, 3, 4, 5, 6, 7] (L' := [(0, .ref (a 0)), (2, .int _), (3, .int _), (4, .ref (a 103)), (5, .int _), (6, .int _), (7, .int _), (8, .int _)]) rfl ?_
          exact ih _ _ _ _ _ _ _ _ h
        · replace h := h.2 c110
          refine x_iload (pc' := 115) K dX6_whoHid_113 7 rfl rfl ?_
          refine x_istore (pc' := 117) (i := 6) K dX6_whoHid_115 (by decide) [1, 2, 3, 4, 5, 0, 6, 7, 8] (L' := [(0, .ref (a 0)), (2, .int _), (3, .int _), (4, .ref (a 103)), (5, .int _), (6, .int _), (7, .int _), (8, .int _), (9, .int _)]) rfl rfl ?_
          refine x_iload (pc' := 119) K dX6_whoHid_117 8 rfl rfl ?_
          refine x_istore (pc' := 121) (i := 7) K dX6_whoHid_119 (by decide) [1, 2, 3, 4, 5, 6, 0, 7, 8] (L' := [(0, .ref (a 0)), (2, .int _), (3, .int _), (4, .ref (a 103)), (5, .int _), (6, .int _), (7, .int _), (8, .int _), (9, .int _)]) rfl rfl ?_
          refine x_iinc (pc' := 124) (v := _ + (1 : Int32)) K dX6_whoHid_121 7 rfl rfl (by decide) [1, 2, 3, 4, 5, 6, 7, 0, 8] (L' := [(0, .ref (a 0)), (2, .int _), (3, .int _), (4, .ref (a 103)), (5, .int _), (6, .int _), (7, .int _), (8, .int _), (9, .int _)]) rfl rfl ?_
          refine x_goto (tgt := 76) K dX6_whoHid_124 rfl ?_
          refine x_locals [0, 1, 2, 3, 4, 5, 6, 7] (L' := [(0, .ref (a 0)), (2, .int _), (3, .int _), (4, .ref (a 103)), (5, .int _), (6, .int _), (7, .int _), (8, .int _)]) rfl ?_
          exact ih _ _ _ _ _ _ _ _ h
set_option maxHeartbeats 4000000 in
set_option maxRecDepth 100000 in
theorem mX6_whoHid (l : Launch) (D : va_G) (cI cO : ClassId) (a : Nat → Nat)  (x1 : Int32) (x2 : Int32) (x3 : Int32) : MI l yX6_whoHid wsX6_whoHid rmX6_whoHid D (xtys cI cO) [.ref (a 0), .int x1, .int x2, .int x3] (w6 cI cO a) (qX6_whoHid x1 x2 x3) := by
  refine MI_of (cc := cX6_whoHid) (maxL := 10) (own := RX6) (by decide) rfl rfl (Nat.le_of_ble_eq_true rfl) ?_
  intro p e s m args below meth c A F G Q h K
  refine x_locals [0, 1, 2, 3] (L' := [(0, .ref (a 0)), (1, .int _), (2, .int _), (3, .int _)]) rfl ?_
  refine x_iload_n (pc' := 1) K dX6_whoHid_0 1 rfl rfl ?_
  refine x_callS (pc' := 4) K (mX6_isSheet l D cI cO a _) rfl gX6_whoHid_X6_isSheet dsX6_isSheet ⟨rfl, rfl, ⟨Nat.le_of_ble_eq_true rfl, Nat.le_of_ble_eq_true rfl⟩, Nat.le_of_ble_eq_true rfl, Nat.le_of_ble_eq_true rfl⟩ h (st := []) rfl rfl (Nat.le_of_ble_eq_true rfl) dX6_whoHid_1 rfl (fun r1 h => ?_)
  refine x_if_eq (tgt := 26) (pc' := 7) K dX6_whoHid_4 rfl rfl (fun c4 => ?_) (fun c4 => ?_)
  · replace h := h.1 c4
    refine x_aload_n (pc' := 27) K dX6_whoHid_26 0 rfl rfl ?_
    refine x_iconst (pc' := 28) (v := 1) K dX6_whoHid_27 (by decide) rfl ?_
    refine x_callI (pc' := 31) K (mX6_error l D cI cO a _) rfl gX6_whoHid_X6_error rfl dsX6_error ⟨rfl, rfl, ⟨Nat.le_of_ble_eq_true rfl, Nat.le_of_ble_eq_true rfl⟩, Nat.le_of_ble_eq_true rfl, Nat.le_of_ble_eq_true rfl⟩ h 6 0 rfl rfl (st := []) rfl rfl (Nat.le_of_ble_eq_true rfl) dX6_whoHid_28 rfl (fun r28 F28 G28 h => ?_)
    exact x_iret (wf := w6 cI cO a) K h dX6_whoHid_31
  · replace h := h.2 c4
    refine x_iload_n (pc' := 8) K dX6_whoHid_7 2 rfl rfl ?_
    refine x_iconst (pc' := 9) (v := 1) K dX6_whoHid_8 (by decide) rfl ?_
    refine x_bipush (pc' := 11) (v := 18) K dX6_whoHid_9 (by decide) rfl ?_
    refine x_callS (pc' := 14) K (mX6_within l D cI cO a _ _ _) rfl gX6_whoHid_X6_within dsX6_within ⟨rfl, rfl, ⟨Nat.le_of_ble_eq_true rfl, Nat.le_of_ble_eq_true rfl⟩, Nat.le_of_ble_eq_true rfl, Nat.le_of_ble_eq_true rfl⟩ h (st := []) rfl rfl (Nat.le_of_ble_eq_true rfl) dX6_whoHid_11 rfl (fun r11 h => ?_)
    refine x_if_eq (tgt := 26) (pc' := 17) K dX6_whoHid_14 rfl rfl (fun c14 => ?_) (fun c14 => ?_)
    · replace h := h.1 c14
      refine x_aload_n (pc' := 27) K dX6_whoHid_26 0 rfl rfl ?_
      refine x_iconst (pc' := 28) (v := 1) K dX6_whoHid_27 (by decide) rfl ?_
      refine x_callI (pc' := 31) K (mX6_error l D cI cO a _) rfl gX6_whoHid_X6_error rfl dsX6_error ⟨rfl, rfl, ⟨Nat.le_of_ble_eq_true rfl, Nat.le_of_ble_eq_true rfl⟩, Nat.le_of_ble_eq_true rfl, Nat.le_of_ble_eq_true rfl⟩ h 6 0 rfl rfl (st := []) rfl rfl (Nat.le_of_ble_eq_true rfl) dX6_whoHid_28 rfl (fun r28 F28 G28 h => ?_)
      exact x_iret (wf := w6 cI cO a) K h dX6_whoHid_31
    · replace h := h.2 c14
      refine x_iload_n (pc' := 18) K dX6_whoHid_17 3 rfl rfl ?_
      refine x_iconst (pc' := 19) (v := 0) K dX6_whoHid_18 (by decide) rfl ?_
      refine x_iconst (pc' := 20) (v := 2) K dX6_whoHid_19 (by decide) rfl ?_
      refine x_callS (pc' := 23) K (mX6_within l D cI cO a _ _ _) rfl gX6_whoHid_X6_within dsX6_within ⟨rfl, rfl, ⟨Nat.le_of_ble_eq_true rfl, Nat.le_of_ble_eq_true rfl⟩, Nat.le_of_ble_eq_true rfl, Nat.le_of_ble_eq_true rfl⟩ h (st := []) rfl rfl (Nat.le_of_ble_eq_true rfl) dX6_whoHid_20 rfl (fun r20 h => ?_)
      refine x_if_ne (tgt := 32) (pc' := 26) K dX6_whoHid_23 rfl rfl (fun c23 => ?_) (fun c23 => ?_)
      · replace h := h.1 c23
        refine x_aload_n (pc' := 33) K dX6_whoHid_32 0 rfl rfl ?_
        refine xw6_0g_sheets (pc' := 36) K hinX6_whoHid_X6 uX6_whoHid_f70 dX6_whoHid_33 rfl ?_
        refine x_iload_n (pc' := 37) K dX6_whoHid_36 1 rfl rfl ?_
        obtain ⟨i37, h⟩ := h
        rcases xin4 i37 with e37 | e37 | e37 | e37
        · replace h := h.1 e37
          refine xw6_96q0 (pc' := 38) K i37 e37 dX6_whoHid_37 rfl ?_
          refine x_astore (pc' := 40) (i := 4) K dX6_whoHid_38 (by decide) [1, 2, 3, 4, 0] (L' := [(0, .ref (a 0)), (1, .int _), (2, .int _), (3, .int _), (4, .ref (a 97))]) rfl rfl ?_
          refine x_aload (pc' := 42) K dX6_whoHid_40 4 rfl rfl ?_
          refine x_subI (pc' := 45) (wn := fun F' G' => w6 cI cO a (xspl F 42 2 F') (xspl G 66 1 G')) K (mX2_isMissing l D cI cO (xsub a 97)) rfl gX6_whoHid_X2_isMissing rfl dsX2_isMissing ⟨rfl, rfl, ⟨Nat.le_of_ble_eq_true rfl, Nat.le_of_ble_eq_true rfl⟩, Nat.le_of_ble_eq_true rfl, Nat.le_of_ble_eq_true rfl⟩ h 2 0 rfl rfl (xpl31 cI cO a _ _) (fun F' G' => xpr31 cI cO a _ _ F' G') (st := []) rfl rfl (Nat.le_of_ble_eq_true rfl) dX6_whoHid_42 rfl (fun r42 F42 G42 h => ?_)
          obtain ⟨E42, eE42⟩ : ∃ x : xF, x = (xspl F 42 2 F42) := ⟨_, rfl⟩
          obtain ⟨H42, eH42⟩ : ∃ x : xA, x = (xspl G 66 1 G42) := ⟨_, rfl⟩
          refine x_weq (w' := w6 cI cO a E42 H42) (by subst eE42; subst eH42; rfl) ?_
          replace h := h E42 eE42
          replace h := h H42 eH42
          refine x_if_ne (tgt := 58) (pc' := 48) K dX6_whoHid_45 rfl rfl (fun c45 => ?_) (fun c45 => ?_)
          · replace h := h.1 c45
            refine x_aload_n (pc' := 59) K dX6_whoHid_58 0 rfl rfl ?_
            refine x_iconst (pc' := 60) (v := 2) K dX6_whoHid_59 (by decide) rfl ?_
            refine x_callI (pc' := 63) K (mX6_error l D cI cO a _) rfl gX6_whoHid_X6_error rfl dsX6_error ⟨rfl, rfl, ⟨Nat.le_of_ble_eq_true rfl, Nat.le_of_ble_eq_true rfl⟩, Nat.le_of_ble_eq_true rfl, Nat.le_of_ble_eq_true rfl⟩ h 6 0 rfl rfl (st := []) rfl rfl (Nat.le_of_ble_eq_true rfl) dX6_whoHid_60 rfl (fun r60 F60 G60 h => ?_)
            exact x_iret (wf := w6 cI cO a) K h dX6_whoHid_63
          · replace h := h.2 c45
            refine x_aload (pc' := 50) K dX6_whoHid_48 4 rfl rfl ?_
            refine xw6_97g_size (pc' := 53) K hinX6_whoHid_X2 uX6_whoHid_f212 dX6_whoHid_50 rfl ?_
            refine x_bipush (pc' := 55) (v := 9) K dX6_whoHid_53 (by decide) rfl ?_
            refine x_icmp_ge (tgt := 64) (pc' := 58) K dX6_whoHid_55 rfl rfl (fun c55 => ?_) (fun c55 => ?_)
            · replace h := h.1 c55
              refine x_iconst (pc' := 65) (v := 0) K dX6_whoHid_64 (by decide) rfl ?_
              refine x_istore (pc' := 67) (i := 5) K dX6_whoHid_65 (by decide) [1, 2, 3, 4, 5, 0] (L' := [(0, .ref (a 0)), (1, .int _), (2, .int _), (3, .int _), (4, .ref (a 97)), (5, .int _)]) rfl rfl ?_
              refine x_iconst (pc' := 68) (v := -1) K dX6_whoHid_67 (by decide) rfl ?_
              refine x_istore (pc' := 70) (i := 6) K dX6_whoHid_68 (by decide) [1, 2, 3, 4, 5, 6, 0] (L' := [(0, .ref (a 0)), (1, .int _), (2, .int _), (3, .int _), (4, .ref (a 97)), (5, .int _), (6, .int _)]) rfl rfl ?_
              refine x_iconst (pc' := 71) (v := -1) K dX6_whoHid_70 (by decide) rfl ?_
              refine x_istore (pc' := 73) (i := 7) K dX6_whoHid_71 (by decide) [1, 2, 3, 4, 5, 6, 7, 0] (L' := [(0, .ref (a 0)), (1, .int _), (2, .int _), (3, .int _), (4, .ref (a 97)), (5, .int _), (6, .int _), (7, .int _)]) rfl rfl ?_
              refine x_iconst (pc' := 74) (v := 0) K dX6_whoHid_73 (by decide) rfl ?_
              refine x_istore (pc' := 76) (i := 8) K dX6_whoHid_74 (by decide) [1, 2, 3, 4, 5, 6, 7, 8, 0] (L' := [(0, .ref (a 0)), (1, .int _), (2, .int _), (3, .int _), (4, .ref (a 97)), (5, .int _), (6, .int _), (7, .int _), (8, .int _)]) rfl rfl ?_
              refine x_locals [0, 2, 3, 4, 5, 6, 7, 8] (L' := [(0, .ref (a 0)), (2, .int _), (3, .int _), (4, .ref (a 97)), (5, .int _), (6, .int _), (7, .int _), (8, .int _)]) rfl ?_
              obtain ⟨n76, h⟩ := h
              exact tX6_whoHid_76 K n76 _ _ _ _ _ _ _ _ h
            · replace h := h.2 c55
              refine x_aload_n (pc' := 59) K dX6_whoHid_58 0 rfl rfl ?_
              refine x_iconst (pc' := 60) (v := 2) K dX6_whoHid_59 (by decide) rfl ?_
              refine x_callI (pc' := 63) K (mX6_error l D cI cO a _) rfl gX6_whoHid_X6_error rfl dsX6_error ⟨rfl, rfl, ⟨Nat.le_of_ble_eq_true rfl, Nat.le_of_ble_eq_true rfl⟩, Nat.le_of_ble_eq_true rfl, Nat.le_of_ble_eq_true rfl⟩ h 6 0 rfl rfl (st := []) rfl rfl (Nat.le_of_ble_eq_true rfl) dX6_whoHid_60 rfl (fun r60 F60 G60 h => ?_)
              exact x_iret (wf := w6 cI cO a) K h dX6_whoHid_63
        · replace h := h.2.1 e37
          refine xw6_96q1 (pc' := 38) K i37 e37 dX6_whoHid_37 rfl ?_
          refine x_astore (pc' := 40) (i := 4) K dX6_whoHid_38 (by decide) [1, 2, 3, 4, 0] (L' := [(0, .ref (a 0)), (1, .int _), (2, .int _), (3, .int _), (4, .ref (a 99))]) rfl rfl ?_
          refine x_aload (pc' := 42) K dX6_whoHid_40 4 rfl rfl ?_
          refine x_subI (pc' := 45) (wn := fun F' G' => w6 cI cO a (xspl F 44 2 F') (xspl G 67 1 G')) K (mX2_isMissing l D cI cO (xsub a 99)) rfl gX6_whoHid_X2_isMissing rfl dsX2_isMissing ⟨rfl, rfl, ⟨Nat.le_of_ble_eq_true rfl, Nat.le_of_ble_eq_true rfl⟩, Nat.le_of_ble_eq_true rfl, Nat.le_of_ble_eq_true rfl⟩ h 2 0 rfl rfl (xpl32 cI cO a _ _) (fun F' G' => xpr32 cI cO a _ _ F' G') (st := []) rfl rfl (Nat.le_of_ble_eq_true rfl) dX6_whoHid_42 rfl (fun r42 F42 G42 h => ?_)
          obtain ⟨E42, eE42⟩ : ∃ x : xF, x = (xspl F 44 2 F42) := ⟨_, rfl⟩
          obtain ⟨H42, eH42⟩ : ∃ x : xA, x = (xspl G 67 1 G42) := ⟨_, rfl⟩
          refine x_weq (w' := w6 cI cO a E42 H42) (by subst eE42; subst eH42; rfl) ?_
          replace h := h E42 eE42
          replace h := h H42 eH42
          refine x_if_ne (tgt := 58) (pc' := 48) K dX6_whoHid_45 rfl rfl (fun c45 => ?_) (fun c45 => ?_)
          · replace h := h.1 c45
            refine x_aload_n (pc' := 59) K dX6_whoHid_58 0 rfl rfl ?_
            refine x_iconst (pc' := 60) (v := 2) K dX6_whoHid_59 (by decide) rfl ?_
            refine x_callI (pc' := 63) K (mX6_error l D cI cO a _) rfl gX6_whoHid_X6_error rfl dsX6_error ⟨rfl, rfl, ⟨Nat.le_of_ble_eq_true rfl, Nat.le_of_ble_eq_true rfl⟩, Nat.le_of_ble_eq_true rfl, Nat.le_of_ble_eq_true rfl⟩ h 6 0 rfl rfl (st := []) rfl rfl (Nat.le_of_ble_eq_true rfl) dX6_whoHid_60 rfl (fun r60 F60 G60 h => ?_)
            exact x_iret (wf := w6 cI cO a) K h dX6_whoHid_63
          · replace h := h.2 c45
            refine x_aload (pc' := 50) K dX6_whoHid_48 4 rfl rfl ?_
            refine xw6_99g_size (pc' := 53) K hinX6_whoHid_X2 uX6_whoHid_f212 dX6_whoHid_50 rfl ?_
            refine x_bipush (pc' := 55) (v := 9) K dX6_whoHid_53 (by decide) rfl ?_
            refine x_icmp_ge (tgt := 64) (pc' := 58) K dX6_whoHid_55 rfl rfl (fun c55 => ?_) (fun c55 => ?_)
            · replace h := h.1 c55
              refine x_iconst (pc' := 65) (v := 0) K dX6_whoHid_64 (by decide) rfl ?_
              refine x_istore (pc' := 67) (i := 5) K dX6_whoHid_65 (by decide) [1, 2, 3, 4, 5, 0] (L' := [(0, .ref (a 0)), (1, .int _), (2, .int _), (3, .int _), (4, .ref (a 99)), (5, .int _)]) rfl rfl ?_
              refine x_iconst (pc' := 68) (v := -1) K dX6_whoHid_67 (by decide) rfl ?_
              refine x_istore (pc' := 70) (i := 6) K dX6_whoHid_68 (by decide) [1, 2, 3, 4, 5, 6, 0] (L' := [(0, .ref (a 0)), (1, .int _), (2, .int _), (3, .int _), (4, .ref (a 99)), (5, .int _), (6, .int _)]) rfl rfl ?_
              refine x_iconst (pc' := 71) (v := -1) K dX6_whoHid_70 (by decide) rfl ?_
              refine x_istore (pc' := 73) (i := 7) K dX6_whoHid_71 (by decide) [1, 2, 3, 4, 5, 6, 7, 0] (L' := [(0, .ref (a 0)), (1, .int _), (2, .int _), (3, .int _), (4, .ref (a 99)), (5, .int _), (6, .int _), (7, .int _)]) rfl rfl ?_
              refine x_iconst (pc' := 74) (v := 0) K dX6_whoHid_73 (by decide) rfl ?_
              refine x_istore (pc' := 76) (i := 8) K dX6_whoHid_74 (by decide) [1, 2, 3, 4, 5, 6, 7, 8, 0] (L' := [(0, .ref (a 0)), (1, .int _), (2, .int _), (3, .int _), (4, .ref (a 99)), (5, .int _), (6, .int _), (7, .int _), (8, .int _)]) rfl rfl ?_
              refine x_locals [0, 2, 3, 4, 5, 6, 7, 8] (L' := [(0, .ref (a 0)), (2, .int _), (3, .int _), (4, .ref (a 99)), (5, .int _), (6, .int _), (7, .int _), (8, .int _)]) rfl ?_
              obtain ⟨n76, h⟩ := h
              exact tX6_whoHid_76_1 K n76 _ _ _ _ _ _ _ _ h
            · replace h := h.2 c55
              refine x_aload_n (pc' := 59) K dX6_whoHid_58 0 rfl rfl ?_
              refine x_iconst (pc' := 60) (v := 2) K dX6_whoHid_59 (by decide) rfl ?_
              refine x_callI (pc' := 63) K (mX6_error l D cI cO a _) rfl gX6_whoHid_X6_error rfl dsX6_error ⟨rfl, rfl, ⟨Nat.le_of_ble_eq_true rfl, Nat.le_of_ble_eq_true rfl⟩, Nat.le_of_ble_eq_true rfl, Nat.le_of_ble_eq_true rfl⟩ h 6 0 rfl rfl (st := []) rfl rfl (Nat.le_of_ble_eq_true rfl) dX6_whoHid_60 rfl (fun r60 F60 G60 h => ?_)
              exact x_iret (wf := w6 cI cO a) K h dX6_whoHid_63
        · replace h := h.2.2.1 e37
          refine xw6_96q2 (pc' := 38) K i37 e37 dX6_whoHid_37 rfl ?_
          refine x_astore (pc' := 40) (i := 4) K dX6_whoHid_38 (by decide) [1, 2, 3, 4, 0] (L' := [(0, .ref (a 0)), (1, .int _), (2, .int _), (3, .int _), (4, .ref (a 101))]) rfl rfl ?_
          refine x_aload (pc' := 42) K dX6_whoHid_40 4 rfl rfl ?_
          refine x_subI (pc' := 45) (wn := fun F' G' => w6 cI cO a (xspl F 46 2 F') (xspl G 68 1 G')) K (mX2_isMissing l D cI cO (xsub a 101)) rfl gX6_whoHid_X2_isMissing rfl dsX2_isMissing ⟨rfl, rfl, ⟨Nat.le_of_ble_eq_true rfl, Nat.le_of_ble_eq_true rfl⟩, Nat.le_of_ble_eq_true rfl, Nat.le_of_ble_eq_true rfl⟩ h 2 0 rfl rfl (xpl33 cI cO a _ _) (fun F' G' => xpr33 cI cO a _ _ F' G') (st := []) rfl rfl (Nat.le_of_ble_eq_true rfl) dX6_whoHid_42 rfl (fun r42 F42 G42 h => ?_)
          obtain ⟨E42, eE42⟩ : ∃ x : xF, x = (xspl F 46 2 F42) := ⟨_, rfl⟩
          obtain ⟨H42, eH42⟩ : ∃ x : xA, x = (xspl G 68 1 G42) := ⟨_, rfl⟩
          refine x_weq (w' := w6 cI cO a E42 H42) (by subst eE42; subst eH42; rfl) ?_
          replace h := h E42 eE42
          replace h := h H42 eH42
          refine x_if_ne (tgt := 58) (pc' := 48) K dX6_whoHid_45 rfl rfl (fun c45 => ?_) (fun c45 => ?_)
          · replace h := h.1 c45
            refine x_aload_n (pc' := 59) K dX6_whoHid_58 0 rfl rfl ?_
            refine x_iconst (pc' := 60) (v := 2) K dX6_whoHid_59 (by decide) rfl ?_
            refine x_callI (pc' := 63) K (mX6_error l D cI cO a _) rfl gX6_whoHid_X6_error rfl dsX6_error ⟨rfl, rfl, ⟨Nat.le_of_ble_eq_true rfl, Nat.le_of_ble_eq_true rfl⟩, Nat.le_of_ble_eq_true rfl, Nat.le_of_ble_eq_true rfl⟩ h 6 0 rfl rfl (st := []) rfl rfl (Nat.le_of_ble_eq_true rfl) dX6_whoHid_60 rfl (fun r60 F60 G60 h => ?_)
            exact x_iret (wf := w6 cI cO a) K h dX6_whoHid_63
          · replace h := h.2 c45
            refine x_aload (pc' := 50) K dX6_whoHid_48 4 rfl rfl ?_
            refine xw6_101g_size (pc' := 53) K hinX6_whoHid_X2 uX6_whoHid_f212 dX6_whoHid_50 rfl ?_
            refine x_bipush (pc' := 55) (v := 9) K dX6_whoHid_53 (by decide) rfl ?_
            refine x_icmp_ge (tgt := 64) (pc' := 58) K dX6_whoHid_55 rfl rfl (fun c55 => ?_) (fun c55 => ?_)
            · replace h := h.1 c55
              refine x_iconst (pc' := 65) (v := 0) K dX6_whoHid_64 (by decide) rfl ?_
              refine x_istore (pc' := 67) (i := 5) K dX6_whoHid_65 (by decide) [1, 2, 3, 4, 5, 0] (L' := [(0, .ref (a 0)), (1, .int _), (2, .int _), (3, .int _), (4, .ref (a 101)), (5, .int _)]) rfl rfl ?_
              refine x_iconst (pc' := 68) (v := -1) K dX6_whoHid_67 (by decide) rfl ?_
              refine x_istore (pc' := 70) (i := 6) K dX6_whoHid_68 (by decide) [1, 2, 3, 4, 5, 6, 0] (L' := [(0, .ref (a 0)), (1, .int _), (2, .int _), (3, .int _), (4, .ref (a 101)), (5, .int _), (6, .int _)]) rfl rfl ?_
              refine x_iconst (pc' := 71) (v := -1) K dX6_whoHid_70 (by decide) rfl ?_
              refine x_istore (pc' := 73) (i := 7) K dX6_whoHid_71 (by decide) [1, 2, 3, 4, 5, 6, 7, 0] (L' := [(0, .ref (a 0)), (1, .int _), (2, .int _), (3, .int _), (4, .ref (a 101)), (5, .int _), (6, .int _), (7, .int _)]) rfl rfl ?_
              refine x_iconst (pc' := 74) (v := 0) K dX6_whoHid_73 (by decide) rfl ?_
              refine x_istore (pc' := 76) (i := 8) K dX6_whoHid_74 (by decide) [1, 2, 3, 4, 5, 6, 7, 8, 0] (L' := [(0, .ref (a 0)), (1, .int _), (2, .int _), (3, .int _), (4, .ref (a 101)), (5, .int _), (6, .int _), (7, .int _), (8, .int _)]) rfl rfl ?_
              refine x_locals [0, 2, 3, 4, 5, 6, 7, 8] (L' := [(0, .ref (a 0)), (2, .int _), (3, .int _), (4, .ref (a 101)), (5, .int _), (6, .int _), (7, .int _), (8, .int _)]) rfl ?_
              obtain ⟨n76, h⟩ := h
              exact tX6_whoHid_76_2 K n76 _ _ _ _ _ _ _ _ h
            · replace h := h.2 c55
              refine x_aload_n (pc' := 59) K dX6_whoHid_58 0 rfl rfl ?_
              refine x_iconst (pc' := 60) (v := 2) K dX6_whoHid_59 (by decide) rfl ?_
              refine x_callI (pc' := 63) K (mX6_error l D cI cO a _) rfl gX6_whoHid_X6_error rfl dsX6_error ⟨rfl, rfl, ⟨Nat.le_of_ble_eq_true rfl, Nat.le_of_ble_eq_true rfl⟩, Nat.le_of_ble_eq_true rfl, Nat.le_of_ble_eq_true rfl⟩ h 6 0 rfl rfl (st := []) rfl rfl (Nat.le_of_ble_eq_true rfl) dX6_whoHid_60 rfl (fun r60 F60 G60 h => ?_)
              exact x_iret (wf := w6 cI cO a) K h dX6_whoHid_63
        · replace h := h.2.2.2 e37
          refine xw6_96q3 (pc' := 38) K i37 e37 dX6_whoHid_37 rfl ?_
          refine x_astore (pc' := 40) (i := 4) K dX6_whoHid_38 (by decide) [1, 2, 3, 4, 0] (L' := [(0, .ref (a 0)), (1, .int _), (2, .int _), (3, .int _), (4, .ref (a 103))]) rfl rfl ?_
          refine x_aload (pc' := 42) K dX6_whoHid_40 4 rfl rfl ?_
          refine x_subI (pc' := 45) (wn := fun F' G' => w6 cI cO a (xspl F 48 2 F') (xspl G 69 1 G')) K (mX2_isMissing l D cI cO (xsub a 103)) rfl gX6_whoHid_X2_isMissing rfl dsX2_isMissing ⟨rfl, rfl, ⟨Nat.le_of_ble_eq_true rfl, Nat.le_of_ble_eq_true rfl⟩, Nat.le_of_ble_eq_true rfl, Nat.le_of_ble_eq_true rfl⟩ h 2 0 rfl rfl (xpl34 cI cO a _ _) (fun F' G' => xpr34 cI cO a _ _ F' G') (st := []) rfl rfl (Nat.le_of_ble_eq_true rfl) dX6_whoHid_42 rfl (fun r42 F42 G42 h => ?_)
          obtain ⟨E42, eE42⟩ : ∃ x : xF, x = (xspl F 48 2 F42) := ⟨_, rfl⟩
          obtain ⟨H42, eH42⟩ : ∃ x : xA, x = (xspl G 69 1 G42) := ⟨_, rfl⟩
          refine x_weq (w' := w6 cI cO a E42 H42) (by subst eE42; subst eH42; rfl) ?_
          replace h := h E42 eE42
          replace h := h H42 eH42
          refine x_if_ne (tgt := 58) (pc' := 48) K dX6_whoHid_45 rfl rfl (fun c45 => ?_) (fun c45 => ?_)
          · replace h := h.1 c45
            refine x_aload_n (pc' := 59) K dX6_whoHid_58 0 rfl rfl ?_
            refine x_iconst (pc' := 60) (v := 2) K dX6_whoHid_59 (by decide) rfl ?_
            refine x_callI (pc' := 63) K (mX6_error l D cI cO a _) rfl gX6_whoHid_X6_error rfl dsX6_error ⟨rfl, rfl, ⟨Nat.le_of_ble_eq_true rfl, Nat.le_of_ble_eq_true rfl⟩, Nat.le_of_ble_eq_true rfl, Nat.le_of_ble_eq_true rfl⟩ h 6 0 rfl rfl (st := []) rfl rfl (Nat.le_of_ble_eq_true rfl) dX6_whoHid_60 rfl (fun r60 F60 G60 h => ?_)
            exact x_iret (wf := w6 cI cO a) K h dX6_whoHid_63
          · replace h := h.2 c45
            refine x_aload (pc' := 50) K dX6_whoHid_48 4 rfl rfl ?_
            refine xw6_103g_size (pc' := 53) K hinX6_whoHid_X2 uX6_whoHid_f212 dX6_whoHid_50 rfl ?_
            refine x_bipush (pc' := 55) (v := 9) K dX6_whoHid_53 (by decide) rfl ?_
            refine x_icmp_ge (tgt := 64) (pc' := 58) K dX6_whoHid_55 rfl rfl (fun c55 => ?_) (fun c55 => ?_)
            · replace h := h.1 c55
              refine x_iconst (pc' := 65) (v := 0) K dX6_whoHid_64 (by decide) rfl ?_
              refine x_istore (pc' := 67) (i := 5) K dX6_whoHid_65 (by decide) [1, 2, 3, 4, 5, 0] (L' := [(0, .ref (a 0)), (1, .int _), (2, .int _), (3, .int _), (4, .ref (a 103)), (5, .int _)]) rfl rfl ?_
              refine x_iconst (pc' := 68) (v := -1) K dX6_whoHid_67 (by decide) rfl ?_
              refine x_istore (pc' := 70) (i := 6) K dX6_whoHid_68 (by decide) [1, 2, 3, 4, 5, 6, 0] (L' := [(0, .ref (a 0)), (1, .int _), (2, .int _), (3, .int _), (4, .ref (a 103)), (5, .int _), (6, .int _)]) rfl rfl ?_
              refine x_iconst (pc' := 71) (v := -1) K dX6_whoHid_70 (by decide) rfl ?_
              refine x_istore (pc' := 73) (i := 7) K dX6_whoHid_71 (by decide) [1, 2, 3, 4, 5, 6, 7, 0] (L' := [(0, .ref (a 0)), (1, .int _), (2, .int _), (3, .int _), (4, .ref (a 103)), (5, .int _), (6, .int _), (7, .int _)]) rfl rfl ?_
              refine x_iconst (pc' := 74) (v := 0) K dX6_whoHid_73 (by decide) rfl ?_
              refine x_istore (pc' := 76) (i := 8) K dX6_whoHid_74 (by decide) [1, 2, 3, 4, 5, 6, 7, 8, 0] (L' := [(0, .ref (a 0)), (1, .int _), (2, .int _), (3, .int _), (4, .ref (a 103)), (5, .int _), (6, .int _), (7, .int _), (8, .int _)]) rfl rfl ?_
              refine x_locals [0, 2, 3, 4, 5, 6, 7, 8] (L' := [(0, .ref (a 0)), (2, .int _), (3, .int _), (4, .ref (a 103)), (5, .int _), (6, .int _), (7, .int _), (8, .int _)]) rfl ?_
              obtain ⟨n76, h⟩ := h
              exact tX6_whoHid_76_3 K n76 _ _ _ _ _ _ _ _ h
            · replace h := h.2 c55
              refine x_aload_n (pc' := 59) K dX6_whoHid_58 0 rfl rfl ?_
              refine x_iconst (pc' := 60) (v := 2) K dX6_whoHid_59 (by decide) rfl ?_
              refine x_callI (pc' := 63) K (mX6_error l D cI cO a _) rfl gX6_whoHid_X6_error rfl dsX6_error ⟨rfl, rfl, ⟨Nat.le_of_ble_eq_true rfl, Nat.le_of_ble_eq_true rfl⟩, Nat.le_of_ble_eq_true rfl, Nat.le_of_ble_eq_true rfl⟩ h 6 0 rfl rfl (st := []) rfl rfl (Nat.le_of_ble_eq_true rfl) dX6_whoHid_60 rfl (fun r60 F60 G60 h => ?_)
              exact x_iret (wf := w6 cI cO a) K h dX6_whoHid_63
      · replace h := h.2 c23
        refine x_aload_n (pc' := 27) K dX6_whoHid_26 0 rfl rfl ?_
        refine x_iconst (pc' := 28) (v := 1) K dX6_whoHid_27 (by decide) rfl ?_
        refine x_callI (pc' := 31) K (mX6_error l D cI cO a _) rfl gX6_whoHid_X6_error rfl dsX6_error ⟨rfl, rfl, ⟨Nat.le_of_ble_eq_true rfl, Nat.le_of_ble_eq_true rfl⟩, Nat.le_of_ble_eq_true rfl, Nat.le_of_ble_eq_true rfl⟩ h 6 0 rfl rfl (st := []) rfl rfl (Nat.le_of_ble_eq_true rfl) dX6_whoHid_28 rfl (fun r28 F28 G28 h => ?_)
        exact x_iret (wf := w6 cI cO a) K h dX6_whoHid_31
/-! X6_voice -/
set_option maxHeartbeats 4000000 in
set_option maxRecDepth 100000 in
theorem xpl35 (cI : ClassId) (cO : ClassId) (a : Nat → Nat) (F : xF) (G : xA) : (w6 cI cO a F G).Perm (List.flatMap (bw6 cI cO a F G) [0, 1, 2, 3, 4, 5, 6, 7, 8, 9, 10, 11, 12, 13, 14, 15, 16, 17, 18, 19, 20, 21, 22, 23, 24, 25, 26, 27, 28, 29, 30, 31, 32, 33, 34, 35, 36, 37, 38, 39, 40, 41, 42, 45, 46, 47, 48, 49, 50, 51, 52, 53] ++ w4 cI (xsub a 93) (xsub F 37) (xsub G 65)) := xpermF (bf := bw6 cI cO a F G) (ns := [0, 1, 2, 3, 4, 5, 6, 7, 8, 9, 10, 11, 12, 13, 14, 15, 16, 17, 18, 19, 20, 21, 22, 23, 24, 25, 26, 27, 28, 29, 30, 31, 32, 33, 34, 35, 36, 37, 38, 39, 40, 41, 42, 43, 44, 45, 46, 47, 48, 49, 50, 51, 52, 53]) rfl [0, 1, 2, 3, 4, 5, 6, 7, 8, 9, 10, 11, 12, 13, 14, 15, 16, 17, 18, 19, 20, 21, 22, 23, 24, 25, 26, 27, 28, 29, 30, 31, 32, 33, 34, 35, 36, 37, 38, 39, 40, 41, 42, 45, 46, 47, 48, 49, 50, 51, 52, 53] [43, 44] (by decide +kernel) rfl rfl
set_option maxHeartbeats 4000000 in
set_option maxRecDepth 100000 in
theorem xpr35 (cI : ClassId) (cO : ClassId) (a : Nat → Nat) (F : xF) (G : xA) (F' : xF) (G' : xA) : (w6 cI cO a (xspl F 37 5 F') (xspl G 65 1 G')).Perm (List.flatMap (bw6 cI cO a F G) [0, 1, 2, 3, 4, 5, 6, 7, 8, 9, 10, 11, 12, 13, 14, 15, 16, 17, 18, 19, 20, 21, 22, 23, 24, 25, 26, 27, 28, 29, 30, 31, 32, 33, 34, 35, 36, 37, 38, 39, 40, 41, 42, 45, 46, 47, 48, 49, 50, 51, 52, 53] ++ w4 cI (xsub a 93) F' G') := xpermF (bf := bw6 cI cO a (xspl F 37 5 F') (xspl G 65 1 G')) (ns := [0, 1, 2, 3, 4, 5, 6, 7, 8, 9, 10, 11, 12, 13, 14, 15, 16, 17, 18, 19, 20, 21, 22, 23, 24, 25, 26, 27, 28, 29, 30, 31, 32, 33, 34, 35, 36, 37, 38, 39, 40, 41, 42, 43, 44, 45, 46, 47, 48, 49, 50, 51, 52, 53]) rfl [0, 1, 2, 3, 4, 5, 6, 7, 8, 9, 10, 11, 12, 13, 14, 15, 16, 17, 18, 19, 20, 21, 22, 23, 24, 25, 26, 27, 28, 29, 30, 31, 32, 33, 34, 35, 36, 37, 38, 39, 40, 41, 42, 45, 46, 47, 48, 49, 50, 51, 52, 53] [43, 44] (by decide +kernel) rfl rfl
abbrev rmX6_voice : Room := { frames := 173, cells := 0, slots := 0, locals := 10428 }
theorem dsX6_voice : xDesc yX6_voice 3 := by decide +kernel
theorem uX6_voice_f64 : Cond.fieldLink RX6 64 "PigNinths" "voices" "LPigNinths$Voices;" ∈ wsX6_voice := nw_in nwl_X6_voice nwe_346 (by decide +kernel)
theorem hinX6_voice_X6 : ∀ w ∈ wsX60, w ∈ wsX6_voice := nw_all nwl_X6_voice nwl_X60 (by decide +kernel)
theorem uX6_voice_f10 : Cond.fieldLink RX6 10 "PigNinths" "now" "LPigNinths$World;" ∈ wsX6_voice := nw_in nwl_X6_voice nwe_329 (by decide +kernel)
theorem uX6_voice_f105 : Cond.fieldLink RX6 105 "PigNinths$World" "kind" "[I" ∈ wsX6_voice := nw_in nwl_X6_voice nwe_382 (by decide +kernel)
theorem hinX6_voice_X5 : ∀ w ∈ wsX50, w ∈ wsX6_voice := nw_all nwl_X6_voice nwl_X50 (by decide +kernel)
theorem uX6_voice_f108 : Cond.fieldLink RX6 108 "PigNinths$World" "mark" "[I" ∈ wsX6_voice := nw_in nwl_X6_voice nwe_383 (by decide +kernel)
theorem uX6_voice_f221 : Cond.fieldLink RX6 221 "PigNinths$Voices" "parted" "Z" ∈ wsX6_voice := nw_in nwl_X6_voice nwe_477 (by decide +kernel)
theorem hinX6_voice_X4 : ∀ w ∈ wsX40, w ∈ wsX6_voice := nw_all nwl_X6_voice nwl_X40 (by decide +kernel)
set_option maxHeartbeats 4000000 in
set_option maxRecDepth 100000 in
theorem mX6_voice (l : Launch) (D : va_G) (cI cO : ClassId) (a : Nat → Nat)  (x1 : Int32) (x2 : Int32) (x3 : Int32) : MI l yX6_voice wsX6_voice rmX6_voice D (xtys cI cO) [.ref (a 0), .int x1, .int x2, .int x3] (w6 cI cO a) (qX6_voice x1 x2 x3) := by
  refine MI_of (cc := cX6_voice) (maxL := 5) (own := RX6) (by decide) rfl rfl (Nat.le_of_ble_eq_true rfl) ?_
  intro p e s m args below meth c A F G Q h K
  refine x_locals [0, 1, 2, 3] (L' := [(0, .ref (a 0)), (1, .int _), (2, .int _), (3, .int _)]) rfl ?_
  refine x_iload_n (pc' := 1) K dX6_voice_0 1 rfl rfl ?_
  refine x_callS (pc' := 4) K (mX6_isFarmer l D cI cO a _) rfl gX6_voice_X6_isFarmer dsX6_isFarmer ⟨rfl, rfl, ⟨Nat.le_of_ble_eq_true rfl, Nat.le_of_ble_eq_true rfl⟩, Nat.le_of_ble_eq_true rfl, Nat.le_of_ble_eq_true rfl⟩ h (st := []) rfl rfl (Nat.le_of_ble_eq_true rfl) dX6_voice_1 rfl (fun r1 h => ?_)
  refine x_if_eq (tgt := 16) (pc' := 7) K dX6_voice_4 rfl rfl (fun c4 => ?_) (fun c4 => ?_)
  · replace h := h.1 c4
    refine x_aload_n (pc' := 17) K dX6_voice_16 0 rfl rfl ?_
    refine x_iconst (pc' := 18) (v := 1) K dX6_voice_17 (by decide) rfl ?_
    refine x_callI (pc' := 21) K (mX6_error l D cI cO a _) rfl gX6_voice_X6_error rfl dsX6_error ⟨rfl, rfl, ⟨Nat.le_of_ble_eq_true rfl, Nat.le_of_ble_eq_true rfl⟩, Nat.le_of_ble_eq_true rfl, Nat.le_of_ble_eq_true rfl⟩ h 6 0 rfl rfl (st := []) rfl rfl (Nat.le_of_ble_eq_true rfl) dX6_voice_18 rfl (fun r18 F18 G18 h => ?_)
    exact x_iret (wf := w6 cI cO a) K h dX6_voice_21
  · replace h := h.2 c4
    refine x_iload_n (pc' := 8) K dX6_voice_7 2 rfl rfl ?_
    refine x_iconst (pc' := 9) (v := 0) K dX6_voice_8 (by decide) rfl ?_
    refine x_iconst (pc' := 10) (v := 3) K dX6_voice_9 (by decide) rfl ?_
    refine x_callS (pc' := 13) K (mX6_within l D cI cO a _ _ _) rfl gX6_voice_X6_within dsX6_within ⟨rfl, rfl, ⟨Nat.le_of_ble_eq_true rfl, Nat.le_of_ble_eq_true rfl⟩, Nat.le_of_ble_eq_true rfl, Nat.le_of_ble_eq_true rfl⟩ h (st := []) rfl rfl (Nat.le_of_ble_eq_true rfl) dX6_voice_10 rfl (fun r10 h => ?_)
    refine x_if_ne (tgt := 22) (pc' := 16) K dX6_voice_13 rfl rfl (fun c13 => ?_) (fun c13 => ?_)
    · replace h := h.1 c13
      refine x_aload_n (pc' := 23) K dX6_voice_22 0 rfl rfl ?_
      refine xw6_0g_voices (pc' := 26) K hinX6_voice_X6 uX6_voice_f64 dX6_voice_23 rfl ?_
      refine x_iload_n (pc' := 27) K dX6_voice_26 1 rfl rfl ?_
      refine x_aload_n (pc' := 28) K dX6_voice_27 0 rfl rfl ?_
      refine xw6_0g_now (pc' := 31) K hinX6_voice_X6 uX6_voice_f10 dX6_voice_28 rfl ?_
      refine xw6_1g_kind (pc' := 34) K hinX6_voice_X5 uX6_voice_f105 dX6_voice_31 rfl ?_
      refine x_iload_n (pc' := 35) K dX6_voice_34 1 rfl rfl ?_
      obtain ⟨i35, h⟩ := h
      refine xw6_4l (pc' := 36) K i35 rfl dX6_voice_35 rfl ?_
      refine x_aload_n (pc' := 37) K dX6_voice_36 0 rfl rfl ?_
      refine xw6_0g_now (pc' := 40) K hinX6_voice_X6 uX6_voice_f10 dX6_voice_37 rfl ?_
      refine xw6_1g_mark (pc' := 43) K hinX6_voice_X5 uX6_voice_f108 dX6_voice_40 rfl ?_
      refine x_iload_n (pc' := 44) K dX6_voice_43 1 rfl rfl ?_
      obtain ⟨i44, h⟩ := h
      refine xw6_5l (pc' := 45) K i44 rfl dX6_voice_44 rfl ?_
      refine x_iload_n (pc' := 46) K dX6_voice_45 2 rfl rfl ?_
      refine x_iload_n (pc' := 47) K dX6_voice_46 3 rfl rfl ?_
      refine x_subI (pc' := 50) (wn := fun F' G' => w6 cI cO a (xspl F 37 5 F') (xspl G 65 1 G')) K (mX4_answer l D cI cO (xsub a 93) _ _ _ _ _) rfl gX6_voice_X4_answer rfl dsX4_answer ⟨rfl, rfl, ⟨Nat.le_of_ble_eq_true rfl, Nat.le_of_ble_eq_true rfl⟩, Nat.le_of_ble_eq_true rfl, Nat.le_of_ble_eq_true rfl⟩ h 4 0 rfl rfl (xpl35 cI cO a _ _) (fun F' G' => xpr35 cI cO a _ _ F' G') (st := []) rfl rfl (Nat.le_of_ble_eq_true rfl) dX6_voice_47 rfl (fun r47 F47 G47 h => ?_)
      obtain ⟨E47, eE47⟩ : ∃ x : xF, x = (xspl F 37 5 F47) := ⟨_, rfl⟩
      obtain ⟨H47, eH47⟩ : ∃ x : xA, x = (xspl G 65 1 G47) := ⟨_, rfl⟩
      refine x_weq (w' := w6 cI cO a E47 H47) (by subst eE47; subst eH47; rfl) ?_
      replace h := h E47 eE47
      replace h := h H47 eH47
      refine x_istore (pc' := 52) (i := 4) K dX6_voice_50 (by decide) [1, 2, 3, 4, 0] (L' := [(0, .ref (a 0)), (1, .int _), (2, .int _), (3, .int _), (4, .int _)]) rfl rfl ?_
      refine x_aload_n (pc' := 53) K dX6_voice_52 0 rfl rfl ?_
      refine xw6_0g_voices (pc' := 56) K hinX6_voice_X6 uX6_voice_f64 dX6_voice_53 rfl ?_
      refine xw6_93g_parted (pc' := 59) K hinX6_voice_X4 uX6_voice_f221 dX6_voice_56 rfl ?_
      refine x_if_eq (tgt := 71) (pc' := 62) K dX6_voice_59 rfl rfl (fun c59 => ?_) (fun c59 => ?_)
      · replace h := h.1 c59
        refine x_iload (pc' := 73) K dX6_voice_71 4 rfl rfl ?_
        exact x_iret (wf := w6 cI cO a) K h dX6_voice_73
      · replace h := h.2 c59
        refine x_aload_n (pc' := 63) K dX6_voice_62 0 rfl rfl ?_
        refine x_bipush (pc' := 65) (v := 6) K dX6_voice_63 (by decide) rfl ?_
        refine x_callI (pc' := 68) K (mX6_error l D cI cO a _) rfl gX6_voice_X6_error rfl dsX6_error ⟨rfl, rfl, ⟨Nat.le_of_ble_eq_true rfl, Nat.le_of_ble_eq_true rfl⟩, Nat.le_of_ble_eq_true rfl, Nat.le_of_ble_eq_true rfl⟩ h 6 0 rfl rfl (st := []) rfl rfl (Nat.le_of_ble_eq_true rfl) dX6_voice_65 rfl (fun r65 F65 G65 h => ?_)
        refine x_goto (tgt := 73) K dX6_voice_68 rfl ?_
        exact x_iret (wf := w6 cI cO a) K h dX6_voice_73
    · replace h := h.2 c13
      refine x_aload_n (pc' := 17) K dX6_voice_16 0 rfl rfl ?_
      refine x_iconst (pc' := 18) (v := 1) K dX6_voice_17 (by decide) rfl ?_
      refine x_callI (pc' := 21) K (mX6_error l D cI cO a _) rfl gX6_voice_X6_error rfl dsX6_error ⟨rfl, rfl, ⟨Nat.le_of_ble_eq_true rfl, Nat.le_of_ble_eq_true rfl⟩, Nat.le_of_ble_eq_true rfl, Nat.le_of_ble_eq_true rfl⟩ h 6 0 rfl rfl (st := []) rfl rfl (Nat.le_of_ble_eq_true rfl) dX6_voice_18 rfl (fun r18 F18 G18 h => ?_)
      exact x_iret (wf := w6 cI cO a) K h dX6_voice_21
/-! X6_body -/
set_option maxHeartbeats 4000000 in
set_option maxRecDepth 100000 in
theorem xpl36 (cI : ClassId) (cO : ClassId) (a : Nat → Nat) (F : xF) (G : xA) : (w6 cI cO a F G).Perm (List.flatMap (bw6 cI cO a F G) [0, 1, 2, 3, 4, 5, 6, 7, 8, 9, 10, 11, 12, 13, 14, 15, 16, 17, 18, 19, 20, 21, 22, 23, 24, 25, 26, 27, 28, 29, 30, 31, 32, 33, 34, 35, 36, 37, 38, 39, 40, 41, 42, 43, 45, 46, 47, 48, 49, 50, 51, 52, 53] ++ w1 30 cI (xsub a 94) (xsub F 41) (xsub G 65)) := xpermF (bf := bw6 cI cO a F G) (ns := [0, 1, 2, 3, 4, 5, 6, 7, 8, 9, 10, 11, 12, 13, 14, 15, 16, 17, 18, 19, 20, 21, 22, 23, 24, 25, 26, 27, 28, 29, 30, 31, 32, 33, 34, 35, 36, 37, 38, 39, 40, 41, 42, 43, 44, 45, 46, 47, 48, 49, 50, 51, 52, 53]) rfl [0, 1, 2, 3, 4, 5, 6, 7, 8, 9, 10, 11, 12, 13, 14, 15, 16, 17, 18, 19, 20, 21, 22, 23, 24, 25, 26, 27, 28, 29, 30, 31, 32, 33, 34, 35, 36, 37, 38, 39, 40, 41, 42, 43, 45, 46, 47, 48, 49, 50, 51, 52, 53] [44] (by decide +kernel) rfl rfl
set_option maxHeartbeats 4000000 in
set_option maxRecDepth 100000 in
theorem xpr36 (cI : ClassId) (cO : ClassId) (a : Nat → Nat) (F : xF) (G : xA) (F' : xF) (G' : xA) : (w6 cI cO a (xspl F 41 1 F') (xspl G 65 1 G')).Perm (List.flatMap (bw6 cI cO a F G) [0, 1, 2, 3, 4, 5, 6, 7, 8, 9, 10, 11, 12, 13, 14, 15, 16, 17, 18, 19, 20, 21, 22, 23, 24, 25, 26, 27, 28, 29, 30, 31, 32, 33, 34, 35, 36, 37, 38, 39, 40, 41, 42, 43, 45, 46, 47, 48, 49, 50, 51, 52, 53] ++ w1 30 cI (xsub a 94) F' G') := xpermF (bf := bw6 cI cO a (xspl F 41 1 F') (xspl G 65 1 G')) (ns := [0, 1, 2, 3, 4, 5, 6, 7, 8, 9, 10, 11, 12, 13, 14, 15, 16, 17, 18, 19, 20, 21, 22, 23, 24, 25, 26, 27, 28, 29, 30, 31, 32, 33, 34, 35, 36, 37, 38, 39, 40, 41, 42, 43, 44, 45, 46, 47, 48, 49, 50, 51, 52, 53]) rfl [0, 1, 2, 3, 4, 5, 6, 7, 8, 9, 10, 11, 12, 13, 14, 15, 16, 17, 18, 19, 20, 21, 22, 23, 24, 25, 26, 27, 28, 29, 30, 31, 32, 33, 34, 35, 36, 37, 38, 39, 40, 41, 42, 43, 45, 46, 47, 48, 49, 50, 51, 52, 53] [44] (by decide +kernel) rfl rfl
abbrev rmX6_body : Room := { frames := 3, cells := 0, slots := 0, locals := 82 }
theorem dsX6_body : xDesc yX6_body 1 := by decide +kernel
theorem uX6_body_f64 : Cond.fieldLink RX6 64 "PigNinths" "voices" "LPigNinths$Voices;" ∈ wsX6_body := nw_in nwl_X6_body nwe_346 (by decide +kernel)
theorem hinX6_body_X6 : ∀ w ∈ wsX60, w ∈ wsX6_body := nw_all nwl_X6_body nwl_X60 (by decide +kernel)
theorem uX6_body_f225 : Cond.fieldLink RX6 225 "PigNinths$Voices" "trace" "LPigNinths$Row;" ∈ wsX6_body := nw_in nwl_X6_body nwe_483 (by decide +kernel)
theorem hinX6_body_X4 : ∀ w ∈ wsX40, w ∈ wsX6_body := nw_all nwl_X6_body nwl_X40 (by decide +kernel)
theorem uX6_body_f135 : Cond.fieldLink RX6 135 "PigNinths$Row" "size" "I" ∈ wsX6_body := nw_in nwl_X6_body nwe_404 (by decide +kernel)
theorem hinX6_body_X1 : ∀ w ∈ wsX10, w ∈ wsX6_body := nw_all nwl_X6_body nwl_X10 (by decide +kernel)
set_option maxHeartbeats 4000000 in
set_option maxRecDepth 100000 in
theorem mX6_body (l : Launch) (D : va_G) (cI cO : ClassId) (a : Nat → Nat)  (x1 : Int32) : MI l yX6_body wsX6_body rmX6_body D (xtys cI cO) [.ref (a 0), .int x1] (w6 cI cO a) (qX6_body x1) := by
  refine MI_of (cc := cX6_body) (maxL := 2) (own := RX6) (by decide) rfl rfl (Nat.le_of_ble_eq_true rfl) ?_
  intro p e s m args below meth c A F G Q h K
  refine x_locals [0, 1] (L' := [(0, .ref (a 0)), (1, .int _)]) rfl ?_
  refine x_iload_n (pc' := 1) K dX6_body_0 1 rfl rfl ?_
  refine x_iconst (pc' := 2) (v := 0) K dX6_body_1 (by decide) rfl ?_
  refine x_aload_n (pc' := 3) K dX6_body_2 0 rfl rfl ?_
  refine xw6_0g_voices (pc' := 6) K hinX6_body_X6 uX6_body_f64 dX6_body_3 rfl ?_
  refine xw6_93g_trace (pc' := 9) K hinX6_body_X4 uX6_body_f225 dX6_body_6 rfl ?_
  refine xw6_94g_size (pc' := 12) K hinX6_body_X1 uX6_body_f135 dX6_body_9 rfl ?_
  refine x_iconst (pc' := 13) (v := 1) K dX6_body_12 (by decide) rfl ?_
  refine x_isub (pc' := 14) K dX6_body_13 rfl ?_
  refine x_callS (pc' := 17) K (mX6_within l D cI cO a _ _ _) rfl gX6_body_X6_within dsX6_within ⟨rfl, rfl, ⟨Nat.le_of_ble_eq_true rfl, Nat.le_of_ble_eq_true rfl⟩, Nat.le_of_ble_eq_true rfl, Nat.le_of_ble_eq_true rfl⟩ h (st := []) rfl rfl (Nat.le_of_ble_eq_true rfl) dX6_body_14 rfl (fun r14 h => ?_)
  refine x_if_ne (tgt := 26) (pc' := 20) K dX6_body_17 rfl rfl (fun c17 => ?_) (fun c17 => ?_)
  · replace h := h.1 c17
    refine x_aload_n (pc' := 27) K dX6_body_26 0 rfl rfl ?_
    refine xw6_0g_voices (pc' := 30) K hinX6_body_X6 uX6_body_f64 dX6_body_27 rfl ?_
    refine xw6_93g_trace (pc' := 33) K hinX6_body_X4 uX6_body_f225 dX6_body_30 rfl ?_
    refine x_iload_n (pc' := 34) K dX6_body_33 1 rfl rfl ?_
    refine x_subI (pc' := 37) (wn := fun F' G' => w6 cI cO a (xspl F 41 1 F') (xspl G 65 1 G')) K (mX1_at l D cI cO (xsub a 94) 30 _) rfl gX6_body_X1_at rfl dsX1_at ⟨rfl, rfl, ⟨Nat.le_of_ble_eq_true rfl, Nat.le_of_ble_eq_true rfl⟩, Nat.le_of_ble_eq_true rfl, Nat.le_of_ble_eq_true rfl⟩ h 1 0 rfl rfl (xpl36 cI cO a _ _) (fun F' G' => xpr36 cI cO a _ _ F' G') (st := []) rfl rfl (Nat.le_of_ble_eq_true rfl) dX6_body_34 rfl (fun r34 F34 G34 h => ?_)
    obtain ⟨E34, eE34⟩ : ∃ x : xF, x = (xspl F 41 1 F34) := ⟨_, rfl⟩
    obtain ⟨H34, eH34⟩ : ∃ x : xA, x = (xspl G 65 1 G34) := ⟨_, rfl⟩
    refine x_weq (w' := w6 cI cO a E34 H34) (by subst eE34; subst eH34; rfl) ?_
    replace h := h E34 eE34
    replace h := h H34 eH34
    exact x_iret (wf := w6 cI cO a) K h dX6_body_37
  · replace h := h.2 c17
    refine x_aload_n (pc' := 21) K dX6_body_20 0 rfl rfl ?_
    refine x_iconst (pc' := 22) (v := 2) K dX6_body_21 (by decide) rfl ?_
    refine x_callI (pc' := 25) K (mX6_error l D cI cO a _) rfl gX6_body_X6_error rfl dsX6_error ⟨rfl, rfl, ⟨Nat.le_of_ble_eq_true rfl, Nat.le_of_ble_eq_true rfl⟩, Nat.le_of_ble_eq_true rfl, Nat.le_of_ble_eq_true rfl⟩ h 6 0 rfl rfl (st := []) rfl rfl (Nat.le_of_ble_eq_true rfl) dX6_body_22 rfl (fun r22 F22 G22 h => ?_)
    exact x_iret (wf := w6 cI cO a) K h dX6_body_25
/-! X6_sheet -/
abbrev rmX6_sheet : Room := { frames := 4, cells := 0, slots := 0, locals := 105 }
theorem dsX6_sheet : xDesc yX6_sheet 3 := by decide +kernel
theorem uX6_sheet_f70 : Cond.fieldLink RX6 70 "PigNinths" "sheets" "[LPigNinths$Sheet;" ∈ wsX6_sheet := nw_in nwl_X6_sheet nwe_348 (by decide +kernel)
theorem hinX6_sheet_X6 : ∀ w ∈ wsX60, w ∈ wsX6_sheet := nw_all nwl_X6_sheet nwl_X60 (by decide +kernel)
set_option maxHeartbeats 4000000 in
set_option maxRecDepth 100000 in
theorem tX6_sheet_49 (K : XK p m c cX6_sheet 4 s args wsX6_sheet RX6 D (xtys cI cO) A meth (some .int)) {Q : Int32 → xF → xA → Prop} : ∀ (x1 : Int32) (x2 : Int32) (x3 : Int32) (F : xF) (G : xA), qX6_sheet_49 Q x1 x2 x3 F G → XJ p l e rmX6_sheet s m args below meth c 0 0 (MQ below (xQi D (w6 cI cO a) A Q) args s 0 0 A) D (xtys cI cO) A 4 (w6 cI cO a F G) 49 [(0, .ref (a 0)), (1, .int x1), (2, .int x2), (3, .int x3)] [] := by
  intro x1 x2 x3 F G h
  refine x_iload_n (pc' := 50) K dX6_sheet_49 2 rfl rfl ?_
  refine x_if_eq (tgt := 65) (pc' := 53) K dX6_sheet_50 rfl rfl (fun c50 => ?_) (fun c50 => ?_)
  · replace h := h.1 c50
    refine x_aload_n (pc' := 66) K dX6_sheet_65 0 rfl rfl ?_
    refine xw6_0g_sheets (pc' := 69) K hinX6_sheet_X6 uX6_sheet_f70 dX6_sheet_66 rfl ?_
    refine x_iload_n (pc' := 70) K dX6_sheet_69 1 rfl rfl ?_
    obtain ⟨i70, h⟩ := h
    rcases xin4 i70 with e70 | e70 | e70 | e70
    · replace h := h.1 e70
      refine xw6_96q0 (pc' := 71) K i70 e70 dX6_sheet_70 rfl ?_
      refine x_iload_n (pc' := 72) K dX6_sheet_71 2 rfl rfl ?_
      refine x_iload_n (pc' := 73) K dX6_sheet_72 3 rfl rfl ?_
      refine x_subV (pc' := 76) (wn := fun F' G' => w6 cI cO a (xspl F 42 2 F') (xspl G 66 1 G')) K (mX2_becomes l D cI cO (xsub a 97) _ _) rfl gX6_sheet_X2_becomes rfl dsX2_becomes ⟨rfl, rfl, ⟨Nat.le_of_ble_eq_true rfl, Nat.le_of_ble_eq_true rfl⟩, Nat.le_of_ble_eq_true rfl, Nat.le_of_ble_eq_true rfl⟩ h 2 0 rfl rfl (xpl31 cI cO a _ _) (fun F' G' => xpr31 cI cO a _ _ F' G') (st := []) rfl rfl (Nat.le_of_ble_eq_true rfl) dX6_sheet_73 rfl (fun F73 G73 h => ?_)
      obtain ⟨E73, eE73⟩ : ∃ x : xF, x = (xspl F 42 2 F73) := ⟨_, rfl⟩
      obtain ⟨H73, eH73⟩ : ∃ x : xA, x = (xspl G 66 1 G73) := ⟨_, rfl⟩
      refine x_weq (w' := w6 cI cO a E73 H73) (by subst eE73; subst eH73; rfl) ?_
      replace h := h E73 eE73
      replace h := h H73 eH73
      refine x_iconst (pc' := 77) (v := 1) K dX6_sheet_76 (by decide) rfl ?_
      exact x_iret (wf := w6 cI cO a) K h dX6_sheet_77
    · replace h := h.2.1 e70
      refine xw6_96q1 (pc' := 71) K i70 e70 dX6_sheet_70 rfl ?_
      refine x_iload_n (pc' := 72) K dX6_sheet_71 2 rfl rfl ?_
      refine x_iload_n (pc' := 73) K dX6_sheet_72 3 rfl rfl ?_
      refine x_subV (pc' := 76) (wn := fun F' G' => w6 cI cO a (xspl F 44 2 F') (xspl G 67 1 G')) K (mX2_becomes l D cI cO (xsub a 99) _ _) rfl gX6_sheet_X2_becomes rfl dsX2_becomes ⟨rfl, rfl, ⟨Nat.le_of_ble_eq_true rfl, Nat.le_of_ble_eq_true rfl⟩, Nat.le_of_ble_eq_true rfl, Nat.le_of_ble_eq_true rfl⟩ h 2 0 rfl rfl (xpl32 cI cO a _ _) (fun F' G' => xpr32 cI cO a _ _ F' G') (st := []) rfl rfl (Nat.le_of_ble_eq_true rfl) dX6_sheet_73 rfl (fun F73 G73 h => ?_)
      obtain ⟨E73, eE73⟩ : ∃ x : xF, x = (xspl F 44 2 F73) := ⟨_, rfl⟩
      obtain ⟨H73, eH73⟩ : ∃ x : xA, x = (xspl G 67 1 G73) := ⟨_, rfl⟩
      refine x_weq (w' := w6 cI cO a E73 H73) (by subst eE73; subst eH73; rfl) ?_
      replace h := h E73 eE73
      replace h := h H73 eH73
      refine x_iconst (pc' := 77) (v := 1) K dX6_sheet_76 (by decide) rfl ?_
      exact x_iret (wf := w6 cI cO a) K h dX6_sheet_77
    · replace h := h.2.2.1 e70
      refine xw6_96q2 (pc' := 71) K i70 e70 dX6_sheet_70 rfl ?_
      refine x_iload_n (pc' := 72) K dX6_sheet_71 2 rfl rfl ?_
      refine x_iload_n (pc' := 73) K dX6_sheet_72 3 rfl rfl ?_
      refine x_subV (pc' := 76) (wn := fun F' G' => w6 cI cO a (xspl F 46 2 F') (xspl G 68 1 G')) K (mX2_becomes l D cI cO (xsub a 101) _ _) rfl gX6_sheet_X2_becomes rfl dsX2_becomes ⟨rfl, rfl, ⟨Nat.le_of_ble_eq_true rfl, Nat.le_of_ble_eq_true rfl⟩, Nat.le_of_ble_eq_true rfl, Nat.le_of_ble_eq_true rfl⟩ h 2 0 rfl rfl (xpl33 cI cO a _ _) (fun F' G' => xpr33 cI cO a _ _ F' G') (st := []) rfl rfl (Nat.le_of_ble_eq_true rfl) dX6_sheet_73 rfl (fun F73 G73 h => ?_)
      obtain ⟨E73, eE73⟩ : ∃ x : xF, x = (xspl F 46 2 F73) := ⟨_, rfl⟩
      obtain ⟨H73, eH73⟩ : ∃ x : xA, x = (xspl G 68 1 G73) := ⟨_, rfl⟩
      refine x_weq (w' := w6 cI cO a E73 H73) (by subst eE73; subst eH73; rfl) ?_
      replace h := h E73 eE73
      replace h := h H73 eH73
      refine x_iconst (pc' := 77) (v := 1) K dX6_sheet_76 (by decide) rfl ?_
      exact x_iret (wf := w6 cI cO a) K h dX6_sheet_77
    · replace h := h.2.2.2 e70
      refine xw6_96q3 (pc' := 71) K i70 e70 dX6_sheet_70 rfl ?_
      refine x_iload_n (pc' := 72) K dX6_sheet_71 2 rfl rfl ?_
      refine x_iload_n (pc' := 73) K dX6_sheet_72 3 rfl rfl ?_
      refine x_subV (pc' := 76) (wn := fun F' G' => w6 cI cO a (xspl F 48 2 F') (xspl G 69 1 G')) K (mX2_becomes l D cI cO (xsub a 103) _ _) rfl gX6_sheet_X2_becomes rfl dsX2_becomes ⟨rfl, rfl, ⟨Nat.le_of_ble_eq_true rfl, Nat.le_of_ble_eq_true rfl⟩, Nat.le_of_ble_eq_true rfl, Nat.le_of_ble_eq_true rfl⟩ h 2 0 rfl rfl (xpl34 cI cO a _ _) (fun F' G' => xpr34 cI cO a _ _ F' G') (st := []) rfl rfl (Nat.le_of_ble_eq_true rfl) dX6_sheet_73 rfl (fun F73 G73 h => ?_)
      obtain ⟨E73, eE73⟩ : ∃ x : xF, x = (xspl F 48 2 F73) := ⟨_, rfl⟩
      obtain ⟨H73, eH73⟩ : ∃ x : xA, x = (xspl G 69 1 G73) := ⟨_, rfl⟩
      refine x_weq (w' := w6 cI cO a E73 H73) (by subst eE73; subst eH73; rfl) ?_
      replace h := h E73 eE73
      replace h := h H73 eH73
      refine x_iconst (pc' := 77) (v := 1) K dX6_sheet_76 (by decide) rfl ?_
      exact x_iret (wf := w6 cI cO a) K h dX6_sheet_77
  · replace h := h.2 c50
    refine x_iload_n (pc' := 54) K dX6_sheet_53 3 rfl rfl ?_
    refine x_bipush (pc' := 56) (v := 24) K dX6_sheet_54 (by decide) rfl ?_
    refine x_icmp_le (tgt := 65) (pc' := 59) K dX6_sheet_56 rfl rfl (fun c56 => ?_) (fun c56 => ?_)
    · replace h := h.1 c56
      refine x_aload_n (pc' := 66) K dX6_sheet_65 0 rfl rfl ?_
      refine xw6_0g_sheets (pc' := 69) K hinX6_sheet_X6 uX6_sheet_f70 dX6_sheet_66 rfl ?_
      refine x_iload_n (pc' := 70) K dX6_sheet_69 1 rfl rfl ?_
      obtain ⟨i70, h⟩ := h
      rcases xin4 i70 with e70 | e70 | e70 | e70
      · replace h := h.1 e70
        refine xw6_96q0 (pc' := 71) K i70 e70 dX6_sheet_70 rfl ?_
        refine x_iload_n (pc' := 72) K dX6_sheet_71 2 rfl rfl ?_
        refine x_iload_n (pc' := 73) K dX6_sheet_72 3 rfl rfl ?_
        refine x_subV (pc' := 76) (wn := fun F' G' => w6 cI cO a (xspl F 42 2 F') (xspl G 66 1 G')) K (mX2_becomes l D cI cO (xsub a 97) _ _) rfl gX6_sheet_X2_becomes rfl dsX2_becomes ⟨rfl, rfl, ⟨Nat.le_of_ble_eq_true rfl, Nat.le_of_ble_eq_true rfl⟩, Nat.le_of_ble_eq_true rfl, Nat.le_of_ble_eq_true rfl⟩ h 2 0 rfl rfl (xpl31 cI cO a _ _) (fun F' G' => xpr31 cI cO a _ _ F' G') (st := []) rfl rfl (Nat.le_of_ble_eq_true rfl) dX6_sheet_73 rfl (fun F73 G73 h => ?_)
        obtain ⟨E73, eE73⟩ : ∃ x : xF, x = (xspl F 42 2 F73) := ⟨_, rfl⟩
        obtain ⟨H73, eH73⟩ : ∃ x : xA, x = (xspl G 66 1 G73) := ⟨_, rfl⟩
        refine x_weq (w' := w6 cI cO a E73 H73) (by subst eE73; subst eH73; rfl) ?_
        replace h := h E73 eE73
        replace h := h H73 eH73
        refine x_iconst (pc' := 77) (v := 1) K dX6_sheet_76 (by decide) rfl ?_
        exact x_iret (wf := w6 cI cO a) K h dX6_sheet_77
      · replace h := h.2.1 e70
        refine xw6_96q1 (pc' := 71) K i70 e70 dX6_sheet_70 rfl ?_
        refine x_iload_n (pc' := 72) K dX6_sheet_71 2 rfl rfl ?_
        refine x_iload_n (pc' := 73) K dX6_sheet_72 3 rfl rfl ?_
        refine x_subV (pc' := 76) (wn := fun F' G' => w6 cI cO a (xspl F 44 2 F') (xspl G 67 1 G')) K (mX2_becomes l D cI cO (xsub a 99) _ _) rfl gX6_sheet_X2_becomes rfl dsX2_becomes ⟨rfl, rfl, ⟨Nat.le_of_ble_eq_true rfl, Nat.le_of_ble_eq_true rfl⟩, Nat.le_of_ble_eq_true rfl, Nat.le_of_ble_eq_true rfl⟩ h 2 0 rfl rfl (xpl32 cI cO a _ _) (fun F' G' => xpr32 cI cO a _ _ F' G') (st := []) rfl rfl (Nat.le_of_ble_eq_true rfl) dX6_sheet_73 rfl (fun F73 G73 h => ?_)
        obtain ⟨E73, eE73⟩ : ∃ x : xF, x = (xspl F 44 2 F73) := ⟨_, rfl⟩
        obtain ⟨H73, eH73⟩ : ∃ x : xA, x = (xspl G 67 1 G73) := ⟨_, rfl⟩
        refine x_weq (w' := w6 cI cO a E73 H73) (by subst eE73; subst eH73; rfl) ?_
        replace h := h E73 eE73
        replace h := h H73 eH73
        refine x_iconst (pc' := 77) (v := 1) K dX6_sheet_76 (by decide) rfl ?_
        exact x_iret (wf := w6 cI cO a) K h dX6_sheet_77
      · replace h := h.2.2.1 e70
        refine xw6_96q2 (pc' := 71) K i70 e70 dX6_sheet_70 rfl ?_
        refine x_iload_n (pc' := 72) K dX6_sheet_71 2 rfl rfl ?_
        refine x_iload_n (pc' := 73) K dX6_sheet_72 3 rfl rfl ?_
        refine x_subV (pc' := 76) (wn := fun F' G' => w6 cI cO a (xspl F 46 2 F') (xspl G 68 1 G')) K (mX2_becomes l D cI cO (xsub a 101) _ _) rfl gX6_sheet_X2_becomes rfl dsX2_becomes ⟨rfl, rfl, ⟨Nat.le_of_ble_eq_true rfl, Nat.le_of_ble_eq_true rfl⟩, Nat.le_of_ble_eq_true rfl, Nat.le_of_ble_eq_true rfl⟩ h 2 0 rfl rfl (xpl33 cI cO a _ _) (fun F' G' => xpr33 cI cO a _ _ F' G') (st := []) rfl rfl (Nat.le_of_ble_eq_true rfl) dX6_sheet_73 rfl (fun F73 G73 h => ?_)
        obtain ⟨E73, eE73⟩ : ∃ x : xF, x = (xspl F 46 2 F73) := ⟨_, rfl⟩
        obtain ⟨H73, eH73⟩ : ∃ x : xA, x = (xspl G 68 1 G73) := ⟨_, rfl⟩
        refine x_weq (w' := w6 cI cO a E73 H73) (by subst eE73; subst eH73; rfl) ?_
        replace h := h E73 eE73
        replace h := h H73 eH73
        refine x_iconst (pc' := 77) (v := 1) K dX6_sheet_76 (by decide) rfl ?_
        exact x_iret (wf := w6 cI cO a) K h dX6_sheet_77
      · replace h := h.2.2.2 e70
        refine xw6_96q3 (pc' := 71) K i70 e70 dX6_sheet_70 rfl ?_
        refine x_iload_n (pc' := 72) K dX6_sheet_71 2 rfl rfl ?_
        refine x_iload_n (pc' := 73) K dX6_sheet_72 3 rfl rfl ?_
        refine x_subV (pc' := 76) (wn := fun F' G' => w6 cI cO a (xspl F 48 2 F') (xspl G 69 1 G')) K (mX2_becomes l D cI cO (xsub a 103) _ _) rfl gX6_sheet_X2_becomes rfl dsX2_becomes ⟨rfl, rfl, ⟨Nat.le_of_ble_eq_true rfl, Nat.le_of_ble_eq_true rfl⟩, Nat.le_of_ble_eq_true rfl, Nat.le_of_ble_eq_true rfl⟩ h 2 0 rfl rfl (xpl34 cI cO a _ _) (fun F' G' => xpr34 cI cO a _ _ F' G') (st := []) rfl rfl (Nat.le_of_ble_eq_true rfl) dX6_sheet_73 rfl (fun F73 G73 h => ?_)
        obtain ⟨E73, eE73⟩ : ∃ x : xF, x = (xspl F 48 2 F73) := ⟨_, rfl⟩
        obtain ⟨H73, eH73⟩ : ∃ x : xA, x = (xspl G 69 1 G73) := ⟨_, rfl⟩
        refine x_weq (w' := w6 cI cO a E73 H73) (by subst eE73; subst eH73; rfl) ?_
        replace h := h E73 eE73
        replace h := h H73 eH73
        refine x_iconst (pc' := 77) (v := 1) K dX6_sheet_76 (by decide) rfl ?_
        exact x_iret (wf := w6 cI cO a) K h dX6_sheet_77
    · replace h := h.2 c56
      refine x_aload_n (pc' := 60) K dX6_sheet_59 0 rfl rfl ?_
      refine x_iconst (pc' := 61) (v := 1) K dX6_sheet_60 (by decide) rfl ?_
      refine x_callI (pc' := 64) K (mX6_error l D cI cO a _) rfl gX6_sheet_X6_error rfl dsX6_error ⟨rfl, rfl, ⟨Nat.le_of_ble_eq_true rfl, Nat.le_of_ble_eq_true rfl⟩, Nat.le_of_ble_eq_true rfl, Nat.le_of_ble_eq_true rfl⟩ h 6 0 rfl rfl (st := []) rfl rfl (Nat.le_of_ble_eq_true rfl) dX6_sheet_61 rfl (fun r61 F61 G61 h => ?_)
      exact x_iret (wf := w6 cI cO a) K h dX6_sheet_64
set_option maxHeartbeats 4000000 in
set_option maxRecDepth 100000 in
theorem mX6_sheet (l : Launch) (D : va_G) (cI cO : ClassId) (a : Nat → Nat)  (x1 : Int32) (x2 : Int32) (x3 : Int32) : MI l yX6_sheet wsX6_sheet rmX6_sheet D (xtys cI cO) [.ref (a 0), .int x1, .int x2, .int x3] (w6 cI cO a) (qX6_sheet x1 x2 x3) := by
  refine MI_of (cc := cX6_sheet) (maxL := 4) (own := RX6) (by decide) rfl rfl (Nat.le_of_ble_eq_true rfl) ?_
  intro p e s m args below meth c A F G Q h K
  refine x_locals [0, 1, 2, 3] (L' := [(0, .ref (a 0)), (1, .int _), (2, .int _), (3, .int _)]) rfl ?_
  refine x_iload_n (pc' := 1) K dX6_sheet_0 1 rfl rfl ?_
  refine x_callS (pc' := 4) K (mX6_isSheet l D cI cO a _) rfl gX6_sheet_X6_isSheet dsX6_isSheet ⟨rfl, rfl, ⟨Nat.le_of_ble_eq_true rfl, Nat.le_of_ble_eq_true rfl⟩, Nat.le_of_ble_eq_true rfl, Nat.le_of_ble_eq_true rfl⟩ h (st := []) rfl rfl (Nat.le_of_ble_eq_true rfl) dX6_sheet_1 rfl (fun r1 h => ?_)
  refine x_if_eq (tgt := 29) (pc' := 7) K dX6_sheet_4 rfl rfl (fun c4 => ?_) (fun c4 => ?_)
  · replace h := h.1 c4
    refine x_aload_n (pc' := 30) K dX6_sheet_29 0 rfl rfl ?_
    refine x_iconst (pc' := 31) (v := 1) K dX6_sheet_30 (by decide) rfl ?_
    refine x_callI (pc' := 34) K (mX6_error l D cI cO a _) rfl gX6_sheet_X6_error rfl dsX6_error ⟨rfl, rfl, ⟨Nat.le_of_ble_eq_true rfl, Nat.le_of_ble_eq_true rfl⟩, Nat.le_of_ble_eq_true rfl, Nat.le_of_ble_eq_true rfl⟩ h 6 0 rfl rfl (st := []) rfl rfl (Nat.le_of_ble_eq_true rfl) dX6_sheet_31 rfl (fun r31 F31 G31 h => ?_)
    exact x_iret (wf := w6 cI cO a) K h dX6_sheet_34
  · replace h := h.2 c4
    refine x_iload_n (pc' := 8) K dX6_sheet_7 2 rfl rfl ?_
    refine x_if_eq (tgt := 35) (pc' := 11) K dX6_sheet_8 rfl rfl (fun c8 => ?_) (fun c8 => ?_)
    · replace h := h.1 c8
      refine x_iload_n (pc' := 36) K dX6_sheet_35 2 rfl rfl ?_
      refine x_if_eq (tgt := 49) (pc' := 39) K dX6_sheet_36 rfl rfl (fun c36 => ?_) (fun c36 => ?_)
      · replace h := h.1 c36
        exact tX6_sheet_49 K _ _ _ _ _ h
      · replace h := h.2 c36
        refine x_iload_n (pc' := 40) K dX6_sheet_39 3 rfl rfl ?_
        refine x_if_ge (tgt := 49) (pc' := 43) K dX6_sheet_40 rfl rfl (fun c40 => ?_) (fun c40 => ?_)
        · replace h := h.1 c40
          exact tX6_sheet_49 K _ _ _ _ _ h
        · replace h := h.2 c40
          refine x_aload_n (pc' := 44) K dX6_sheet_43 0 rfl rfl ?_
          refine x_iconst (pc' := 45) (v := 3) K dX6_sheet_44 (by decide) rfl ?_
          refine x_callI (pc' := 48) K (mX6_error l D cI cO a _) rfl gX6_sheet_X6_error rfl dsX6_error ⟨rfl, rfl, ⟨Nat.le_of_ble_eq_true rfl, Nat.le_of_ble_eq_true rfl⟩, Nat.le_of_ble_eq_true rfl, Nat.le_of_ble_eq_true rfl⟩ h 6 0 rfl rfl (st := []) rfl rfl (Nat.le_of_ble_eq_true rfl) dX6_sheet_45 rfl (fun r45 F45 G45 h => ?_)
          exact x_iret (wf := w6 cI cO a) K h dX6_sheet_48
    · replace h := h.2 c8
      refine x_iload_n (pc' := 12) K dX6_sheet_11 2 rfl rfl ?_
      refine x_bipush (pc' := 14) (v := 8) K dX6_sheet_12 (by decide) rfl ?_
      refine x_icmp_eq (tgt := 35) (pc' := 17) K dX6_sheet_14 rfl rfl (fun c14 => ?_) (fun c14 => ?_)
      · replace h := h.1 c14
        refine x_iload_n (pc' := 36) K dX6_sheet_35 2 rfl rfl ?_
        refine x_if_eq (tgt := 49) (pc' := 39) K dX6_sheet_36 rfl rfl (fun c36 => ?_) (fun c36 => ?_)
        · replace h := h.1 c36
          exact tX6_sheet_49 K _ _ _ _ _ h
        · replace h := h.2 c36
          refine x_iload_n (pc' := 40) K dX6_sheet_39 3 rfl rfl ?_
          refine x_if_ge (tgt := 49) (pc' := 43) K dX6_sheet_40 rfl rfl (fun c40 => ?_) (fun c40 => ?_)
          · replace h := h.1 c40
            exact tX6_sheet_49 K _ _ _ _ _ h
          · replace h := h.2 c40
            refine x_aload_n (pc' := 44) K dX6_sheet_43 0 rfl rfl ?_
            refine x_iconst (pc' := 45) (v := 3) K dX6_sheet_44 (by decide) rfl ?_
            refine x_callI (pc' := 48) K (mX6_error l D cI cO a _) rfl gX6_sheet_X6_error rfl dsX6_error ⟨rfl, rfl, ⟨Nat.le_of_ble_eq_true rfl, Nat.le_of_ble_eq_true rfl⟩, Nat.le_of_ble_eq_true rfl, Nat.le_of_ble_eq_true rfl⟩ h 6 0 rfl rfl (st := []) rfl rfl (Nat.le_of_ble_eq_true rfl) dX6_sheet_45 rfl (fun r45 F45 G45 h => ?_)
            exact x_iret (wf := w6 cI cO a) K h dX6_sheet_48
      · replace h := h.2 c14
        refine x_iload_n (pc' := 18) K dX6_sheet_17 2 rfl rfl ?_
        refine x_bipush (pc' := 20) (v := 16) K dX6_sheet_18 (by decide) rfl ?_
        refine x_icmp_eq (tgt := 35) (pc' := 23) K dX6_sheet_20 rfl rfl (fun c20 => ?_) (fun c20 => ?_)
        · replace h := h.1 c20
          refine x_iload_n (pc' := 36) K dX6_sheet_35 2 rfl rfl ?_
          refine x_if_eq (tgt := 49) (pc' := 39) K dX6_sheet_36 rfl rfl (fun c36 => ?_) (fun c36 => ?_)
          · replace h := h.1 c36
            exact tX6_sheet_49 K _ _ _ _ _ h
          · replace h := h.2 c36
            refine x_iload_n (pc' := 40) K dX6_sheet_39 3 rfl rfl ?_
            refine x_if_ge (tgt := 49) (pc' := 43) K dX6_sheet_40 rfl rfl (fun c40 => ?_) (fun c40 => ?_)
            · replace h := h.1 c40
              exact tX6_sheet_49 K _ _ _ _ _ h
            · replace h := h.2 c40
              refine x_aload_n (pc' := 44) K dX6_sheet_43 0 rfl rfl ?_
              refine x_iconst (pc' := 45) (v := 3) K dX6_sheet_44 (by decide) rfl ?_
              refine x_callI (pc' := 48) K (mX6_error l D cI cO a _) rfl gX6_sheet_X6_error rfl dsX6_error ⟨rfl, rfl, ⟨Nat.le_of_ble_eq_true rfl, Nat.le_of_ble_eq_true rfl⟩, Nat.le_of_ble_eq_true rfl, Nat.le_of_ble_eq_true rfl⟩ h 6 0 rfl rfl (st := []) rfl rfl (Nat.le_of_ble_eq_true rfl) dX6_sheet_45 rfl (fun r45 F45 G45 h => ?_)
              exact x_iret (wf := w6 cI cO a) K h dX6_sheet_48
        · replace h := h.2 c20
          refine x_iload_n (pc' := 24) K dX6_sheet_23 2 rfl rfl ?_
          refine x_bipush (pc' := 26) (v := 32) K dX6_sheet_24 (by decide) rfl ?_
          refine x_icmp_eq (tgt := 35) (pc' := 29) K dX6_sheet_26 rfl rfl (fun c26 => ?_) (fun c26 => ?_)
          · replace h := h.1 c26
            refine x_iload_n (pc' := 36) K dX6_sheet_35 2 rfl rfl ?_
            refine x_if_eq (tgt := 49) (pc' := 39) K dX6_sheet_36 rfl rfl (fun c36 => ?_) (fun c36 => ?_)
            · replace h := h.1 c36
              exact tX6_sheet_49 K _ _ _ _ _ h
            · replace h := h.2 c36
              refine x_iload_n (pc' := 40) K dX6_sheet_39 3 rfl rfl ?_
              refine x_if_ge (tgt := 49) (pc' := 43) K dX6_sheet_40 rfl rfl (fun c40 => ?_) (fun c40 => ?_)
              · replace h := h.1 c40
                exact tX6_sheet_49 K _ _ _ _ _ h
              · replace h := h.2 c40
                refine x_aload_n (pc' := 44) K dX6_sheet_43 0 rfl rfl ?_
                refine x_iconst (pc' := 45) (v := 3) K dX6_sheet_44 (by decide) rfl ?_
                refine x_callI (pc' := 48) K (mX6_error l D cI cO a _) rfl gX6_sheet_X6_error rfl dsX6_error ⟨rfl, rfl, ⟨Nat.le_of_ble_eq_true rfl, Nat.le_of_ble_eq_true rfl⟩, Nat.le_of_ble_eq_true rfl, Nat.le_of_ble_eq_true rfl⟩ h 6 0 rfl rfl (st := []) rfl rfl (Nat.le_of_ble_eq_true rfl) dX6_sheet_45 rfl (fun r45 F45 G45 h => ?_)
                exact x_iret (wf := w6 cI cO a) K h dX6_sheet_48
          · replace h := h.2 c26
            refine x_aload_n (pc' := 30) K dX6_sheet_29 0 rfl rfl ?_
            refine x_iconst (pc' := 31) (v := 1) K dX6_sheet_30 (by decide) rfl ?_
            refine x_callI (pc' := 34) K (mX6_error l D cI cO a _) rfl gX6_sheet_X6_error rfl dsX6_error ⟨rfl, rfl, ⟨Nat.le_of_ble_eq_true rfl, Nat.le_of_ble_eq_true rfl⟩, Nat.le_of_ble_eq_true rfl, Nat.le_of_ble_eq_true rfl⟩ h 6 0 rfl rfl (st := []) rfl rfl (Nat.le_of_ble_eq_true rfl) dX6_sheet_31 rfl (fun r31 F31 G31 h => ?_)
            exact x_iret (wf := w6 cI cO a) K h dX6_sheet_34
end
