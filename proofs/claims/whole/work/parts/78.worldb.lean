section
variable {p : Program} {l : Launch} {e : Env} {s : State} {m : MethodId} {args : Array Value} {below : List Frame} {meth : Method} {c : Code} {D : va_G} {cI cO : ClassId} {A : Nat → Prop} {a : Nat → Nat} {d : Nat}
/-! X5_feedsOf -/
set_option maxHeartbeats 4000000 in
set_option maxRecDepth 100000 in
theorem xpl4 (cI : ClassId) (a : Nat → Nat) (F : xF) (G : xA) : (w5 cI a F G).Perm (xpick (bw5 cI a F G) [0, 1, 2, 3, 6, 7] ++ w3 cI (xsub a 11) (xsub F 5) (xsub G 10)) := xperm0 (bl := bw5 cI a F G) (n := 8) rfl rfl [0, 1, 2, 3, 6, 7] [4, 5] (by decide +kernel) rfl rfl
set_option maxHeartbeats 4000000 in
set_option maxRecDepth 100000 in
theorem xpr4 (cI : ClassId) (a : Nat → Nat) (F : xF) (G : xA) (F' : xF) (G' : xA) : (w5 cI a (xspl F 5 1 F') (xspl G 10 2 G')).Perm (xpick (bw5 cI a F G) [0, 1, 2, 3, 6, 7] ++ w3 cI (xsub a 11) F' G') := xperm0 (bl := bw5 cI a (xspl F 5 1 F') (xspl G 10 2 G')) (n := 8) rfl rfl [0, 1, 2, 3, 6, 7] [4, 5] (by decide +kernel) rfl rfl
abbrev rmX5_feedsOf : Room := { frames := 4, cells := 0, slots := 0, locals := 109 }
theorem dsX5_feedsOf : xDesc yX5_feedsOf 2 := by decide +kernel
theorem uX5_feedsOf_f21 : Cond.fieldLink RX5 21 "PigNinths$World" "mark" "[I" ∈ wsX5_feedsOf := nw_in nwl_X5_feedsOf nwe_233 (by decide +kernel)
theorem hinX5_feedsOf_X5 : ∀ w ∈ wsX50, w ∈ wsX5_feedsOf := nw_all nwl_X5_feedsOf nwl_X50 (by decide +kernel)
theorem uX5_feedsOf_f18 : Cond.fieldLink RX5 18 "PigNinths$World" "kind" "[I" ∈ wsX5_feedsOf := nw_in nwl_X5_feedsOf nwe_232 (by decide +kernel)
theorem uX5_feedsOf_f39 : Cond.fieldLink RX5 39 "PigNinths$World" "feeding" "LPigNinths$Text;" ∈ wsX5_feedsOf := nw_in nwl_X5_feedsOf nwe_240 (by decide +kernel)
theorem uX5_feedsOf_f53 : Cond.fieldLink RX5 53 "PigNinths$World" "hunger" "I" ∈ wsX5_feedsOf := nw_in nwl_X5_feedsOf nwe_244 (by decide +kernel)
set_option maxHeartbeats 4000000 in
set_option maxRecDepth 100000 in
theorem mX5_feedsOf (l : Launch) (D : va_G) (cI cO : ClassId) (a : Nat → Nat)  (x1 : Int32) (x2 : Int32) : MI l yX5_feedsOf wsX5_feedsOf rmX5_feedsOf D (xtys cI cO) [.ref (a 0), .int x1, .int x2] (w5 cI a) (qX5_feedsOf x1 x2) := by
  refine MI_of (cc := cX5_feedsOf) (maxL := 4) (own := RX5) (by decide) rfl rfl (Nat.le_of_ble_eq_true rfl) ?_
  intro p e s m args below meth c A F G Q h K
  refine x_locals [0, 1, 2] (L' := [(0, .ref (a 0)), (1, .int _), (2, .int _)]) rfl ?_
  refine x_aload_n (pc' := 1) K dX5_feedsOf_0 0 rfl rfl ?_
  refine xw5_0g_mark (pc' := 4) K hinX5_feedsOf_X5 uX5_feedsOf_f21 dX5_feedsOf_1 rfl ?_
  refine x_iload_n (pc' := 5) K dX5_feedsOf_4 1 rfl rfl ?_
  obtain ⟨i5, h⟩ := h
  refine xw5_4l (pc' := 6) K i5 rfl dX5_feedsOf_5 rfl ?_
  refine x_istore_n (pc' := 7) (i := 3) K dX5_feedsOf_6 rfl (by decide) [1, 2, 3, 0] (L' := [(0, .ref (a 0)), (1, .int _), (2, .int _), (3, .int _)]) rfl rfl ?_
  refine x_aload_n (pc' := 8) K dX5_feedsOf_7 0 rfl rfl ?_
  refine xw5_0g_kind (pc' := 11) K hinX5_feedsOf_X5 uX5_feedsOf_f18 dX5_feedsOf_8 rfl ?_
  refine x_iload_n (pc' := 12) K dX5_feedsOf_11 1 rfl rfl ?_
  obtain ⟨i12, h⟩ := h
  refine xw5_3l (pc' := 13) K i12 rfl dX5_feedsOf_12 rfl ?_
  refine (Classical.em ((G 2 x1.toNatClampNeg) = (1 : Int32))).elim (fun e13 => ?_) (fun e13_1 => ?_)
  · replace h := h.1 e13
    refine x_tableIn (tgt := 52) (off := 39) K dX5_feedsOf_13 (by rw [e13]; decide) (by rw [e13]; decide) (by rw [e13]; rfl) rfl ?_
    refine x_iconst (pc' := 53) (v := 4) K dX5_feedsOf_52 (by decide) rfl ?_
    refine x_iload_n (pc' := 54) K dX5_feedsOf_53 3 rfl rfl ?_
    refine x_iconst (pc' := 55) (v := 2) K dX5_feedsOf_54 (by decide) rfl ?_
    refine x_idiv (pc' := 56) K dX5_feedsOf_55 (by decide) rfl ?_
    refine x_isub (pc' := 57) K dX5_feedsOf_56 rfl ?_
    refine x_callS (pc' := 60) K (mX5_held l D cI cO a _) rfl gX5_feedsOf_X5_held dsX5_held ⟨rfl, rfl, ⟨Nat.le_of_ble_eq_true rfl, Nat.le_of_ble_eq_true rfl⟩, Nat.le_of_ble_eq_true rfl, Nat.le_of_ble_eq_true rfl⟩ h (st := []) rfl rfl (Nat.le_of_ble_eq_true rfl) dX5_feedsOf_57 rfl (fun r57 h => ?_)
    exact x_iret (wf := w5 cI a) K h dX5_feedsOf_60
  · replace h := h.2 e13_1
    refine (Classical.em ((G 2 x1.toNatClampNeg) = (2 : Int32))).elim (fun e13 => ?_) (fun e13_2 => ?_)
    · replace h := h.1 e13
      refine x_tableIn (tgt := 61) (off := 48) K dX5_feedsOf_13 (by rw [e13]; decide) (by rw [e13]; decide) (by rw [e13]; rfl) rfl ?_
      refine x_iconst (pc' := 62) (v := 4) K dX5_feedsOf_61 (by decide) rfl ?_
      refine x_iload_n (pc' := 63) K dX5_feedsOf_62 3 rfl rfl ?_
      refine x_iconst (pc' := 64) (v := 2) K dX5_feedsOf_63 (by decide) rfl ?_
      refine x_idiv (pc' := 65) K dX5_feedsOf_64 (by decide) rfl ?_
      refine x_iadd (pc' := 66) K dX5_feedsOf_65 rfl ?_
      refine x_callS (pc' := 69) K (mX5_held l D cI cO a _) rfl gX5_feedsOf_X5_held dsX5_held ⟨rfl, rfl, ⟨Nat.le_of_ble_eq_true rfl, Nat.le_of_ble_eq_true rfl⟩, Nat.le_of_ble_eq_true rfl, Nat.le_of_ble_eq_true rfl⟩ h (st := []) rfl rfl (Nat.le_of_ble_eq_true rfl) dX5_feedsOf_66 rfl (fun r66 h => ?_)
      exact x_iret (wf := w5 cI a) K h dX5_feedsOf_69
    · replace h := h.2 e13_2
      refine (Classical.em ((G 2 x1.toNatClampNeg) = (4 : Int32))).elim (fun e13 => ?_) (fun e13_3 => ?_)
      · replace h := h.1 e13
        refine x_tableIn (tgt := 70) (off := 57) K dX5_feedsOf_13 (by rw [e13]; decide) (by rw [e13]; decide) (by rw [e13]; rfl) rfl ?_
        refine x_iconst (pc' := 71) (v := 4) K dX5_feedsOf_70 (by decide) rfl ?_
        refine x_iload_n (pc' := 72) K dX5_feedsOf_71 3 rfl rfl ?_
        refine x_iconst (pc' := 73) (v := 2) K dX5_feedsOf_72 (by decide) rfl ?_
        refine x_idiv (pc' := 74) K dX5_feedsOf_73 (by decide) rfl ?_
        refine x_isub (pc' := 75) K dX5_feedsOf_74 rfl ?_
        refine x_iconst (pc' := 76) (v := 2) K dX5_feedsOf_75 (by decide) rfl ?_
        refine x_isub (pc' := 77) K dX5_feedsOf_76 rfl ?_
        refine x_callS (pc' := 80) K (mX5_held l D cI cO a _) rfl gX5_feedsOf_X5_held dsX5_held ⟨rfl, rfl, ⟨Nat.le_of_ble_eq_true rfl, Nat.le_of_ble_eq_true rfl⟩, Nat.le_of_ble_eq_true rfl, Nat.le_of_ble_eq_true rfl⟩ h (st := []) rfl rfl (Nat.le_of_ble_eq_true rfl) dX5_feedsOf_77 rfl (fun r77 h => ?_)
        exact x_iret (wf := w5 cI a) K h dX5_feedsOf_80
      · replace h := h.2 e13_3
        refine (Classical.em ((G 2 x1.toNatClampNeg) = (5 : Int32))).elim (fun e13 => ?_) (fun e13_4 => ?_)
        · replace h := h.1 e13
          refine x_tableIn (tgt := 81) (off := 68) K dX5_feedsOf_13 (by rw [e13]; decide) (by rw [e13]; decide) (by rw [e13]; rfl) rfl ?_
          refine x_iconst (pc' := 82) (v := 2) K dX5_feedsOf_81 (by decide) rfl ?_
          refine x_iconst (pc' := 83) (v := 4) K dX5_feedsOf_82 (by decide) rfl ?_
          refine x_iload_n (pc' := 84) K dX5_feedsOf_83 3 rfl rfl ?_
          refine x_iconst (pc' := 85) (v := 2) K dX5_feedsOf_84 (by decide) rfl ?_
          refine x_idiv (pc' := 86) K dX5_feedsOf_85 (by decide) rfl ?_
          refine x_iadd (pc' := 87) K dX5_feedsOf_86 rfl ?_
          refine x_imul (pc' := 88) K dX5_feedsOf_87 rfl ?_
          refine x_callS (pc' := 91) K (mX5_held l D cI cO a _) rfl gX5_feedsOf_X5_held dsX5_held ⟨rfl, rfl, ⟨Nat.le_of_ble_eq_true rfl, Nat.le_of_ble_eq_true rfl⟩, Nat.le_of_ble_eq_true rfl, Nat.le_of_ble_eq_true rfl⟩ h (st := []) rfl rfl (Nat.le_of_ble_eq_true rfl) dX5_feedsOf_88 rfl (fun r88 h => ?_)
          exact x_iret (wf := w5 cI a) K h dX5_feedsOf_91
        · replace h := h.2 e13_4
          refine (Classical.em ((G 2 x1.toNatClampNeg) = (6 : Int32))).elim (fun e13 => ?_) (fun e13_5 => ?_)
          · replace h := h.1 e13
            refine x_tableIn (tgt := 92) (off := 79) K dX5_feedsOf_13 (by rw [e13]; decide) (by rw [e13]; decide) (by rw [e13]; rfl) rfl ?_
            refine x_aload_n (pc' := 93) K dX5_feedsOf_92 0 rfl rfl ?_
            refine xw5_0g_feeding (pc' := 96) K hinX5_feedsOf_X5 uX5_feedsOf_f39 dX5_feedsOf_93 rfl ?_
            refine x_subI (pc' := 99) (wn := fun F' G' => w5 cI a (xspl F 5 1 F') (xspl G 10 2 G')) K (mX3_isThere l D cI cO (xsub a 11)) rfl gX5_feedsOf_X3_isThere rfl dsX3_isThere ⟨rfl, rfl, ⟨Nat.le_of_ble_eq_true rfl, Nat.le_of_ble_eq_true rfl⟩, Nat.le_of_ble_eq_true rfl, Nat.le_of_ble_eq_true rfl⟩ h 3 0 rfl rfl (xpl4 cI a _ _) (fun F' G' => xpr4 cI a _ _ F' G') (st := []) rfl rfl (Nat.le_of_ble_eq_true rfl) dX5_feedsOf_96 rfl (fun r96 F96 G96 h => ?_)
            obtain ⟨E96, eE96⟩ : ∃ x : xF, x = (xspl F 5 1 F96) := ⟨_, rfl⟩
            obtain ⟨H96, eH96⟩ : ∃ x : xA, x = (xspl G 10 2 G96) := ⟨_, rfl⟩
            refine x_weq (w' := w5 cI a E96 H96) (by subst eE96; subst eH96; rfl) ?_
            replace h := h E96 eE96
            replace h := h H96 eH96
            refine x_if_eq (tgt := 121) (pc' := 102) K dX5_feedsOf_99 rfl rfl (fun c99 => ?_) (fun c99 => ?_)
            · replace h := h.1 c99
              refine x_iconst (pc' := 122) (v := 4) K dX5_feedsOf_121 (by decide) rfl ?_
              exact x_iret (wf := w5 cI a) K h dX5_feedsOf_122
            · replace h := h.2 c99
              refine x_aload_n (pc' := 103) K dX5_feedsOf_102 0 rfl rfl ?_
              refine xw5_0g_feeding (pc' := 106) K hinX5_feedsOf_X5 uX5_feedsOf_f39 dX5_feedsOf_103 rfl ?_
              refine x_iload_n (pc' := 107) K dX5_feedsOf_106 2 rfl rfl ?_
              refine x_aload_n (pc' := 108) K dX5_feedsOf_107 0 rfl rfl ?_
              refine xw5_0g_hunger (pc' := 111) K hinX5_feedsOf_X5 uX5_feedsOf_f53 dX5_feedsOf_108 rfl ?_
              refine x_iload_n (pc' := 112) K dX5_feedsOf_111 3 rfl rfl ?_
              refine x_subI (pc' := 115) (wn := fun F' G' => w5 cI a (xspl E96 5 1 F') (xspl H96 10 2 G')) K (mX3_value l D cI cO (xsub a 11) _ _ _) rfl gX5_feedsOf_X3_value rfl dsX3_value ⟨rfl, rfl, ⟨Nat.le_of_ble_eq_true rfl, Nat.le_of_ble_eq_true rfl⟩, Nat.le_of_ble_eq_true rfl, Nat.le_of_ble_eq_true rfl⟩ h 3 0 rfl rfl (xpl4 cI a _ _) (fun F' G' => xpr4 cI a _ _ F' G') (st := []) rfl rfl (Nat.le_of_ble_eq_true rfl) dX5_feedsOf_112 rfl (fun r112 F112 G112 h => ?_)
              obtain ⟨E112, eE112⟩ : ∃ x : xF, x = (xspl E96 5 1 F112) := ⟨_, rfl⟩
              obtain ⟨H112, eH112⟩ : ∃ x : xA, x = (xspl H96 10 2 G112) := ⟨_, rfl⟩
              refine x_weq (w' := w5 cI a E112 H112) (by subst eE112; subst eH112; rfl) ?_
              replace h := h E112 eE112
              replace h := h H112 eH112
              refine x_callS (pc' := 118) K (mX5_held l D cI cO a _) rfl gX5_feedsOf_X5_held dsX5_held ⟨rfl, rfl, ⟨Nat.le_of_ble_eq_true rfl, Nat.le_of_ble_eq_true rfl⟩, Nat.le_of_ble_eq_true rfl, Nat.le_of_ble_eq_true rfl⟩ h (st := []) rfl rfl (Nat.le_of_ble_eq_true rfl) dX5_feedsOf_115 rfl (fun r115 h => ?_)
              refine x_goto (tgt := 122) K dX5_feedsOf_118 rfl ?_
              exact x_iret (wf := w5 cI a) K h dX5_feedsOf_122
          · replace h := h.2 e13_5
            have f13_1 := xtin (i := 1) e13_1 (by decide)
            have f13_2 := xtin (i := 2) e13_2 (by decide)
            have f13_3 := xtin (i := 4) e13_3 (by decide)
            have f13_4 := xtin (i := 5) e13_4 (by decide)
            have f13_5 := xtin (i := 6) e13_5 (by decide)
            refine (Classical.em ((G 2 x1.toNatClampNeg).toInt < 1 ∨ 6 < (G 2 x1.toNatClampNeg).toInt)).elim (fun g13 => ?_) (fun g13 => ?_)
            · refine x_tableOut (tgt := 123) K dX5_feedsOf_13 g13 rfl ?_
              refine x_iconst (pc' := 124) (v := 4) K dX5_feedsOf_123 (by decide) rfl ?_
              exact x_iret (wf := w5 cI a) K h dX5_feedsOf_124
            · have g := not_or.mp g13
              refine x_tableIn (tgt := 123) (off := 110) K dX5_feedsOf_13 g.1 g.2 (xtbl [1, 2, 4, 5, 6] (1) (6) (by decide +kernel) g.1 g.2 (by intro v hv; simp only [List.mem_cons, List.not_mem_nil, or_false] at hv; omega)) rfl ?_
              refine x_iconst (pc' := 124) (v := 4) K dX5_feedsOf_123 (by decide) rfl ?_
              exact x_iret (wf := w5 cI a) K h dX5_feedsOf_124
/-! X5_takeFrom -/
set_option maxHeartbeats 4000000 in
set_option maxRecDepth 100000 in
theorem xpl5 (cI : ClassId) (a : Nat → Nat) (F : xF) (G : xA) : (w55 cI a F G).Perm (xpick (bw55 cI a F G) [0, 1, 2, 3, 4, 6, 7, 8, 9, 10, 11, 12, 14, 15] ++ w11 60 60 cI (xcat 2 (xsub a 13) (xsub a 32)) (xcat 1 (xsub F 5) (xsub F 12)) (xcat 1 (xsub G 11) (xsub G 25))) := xperm0 (bl := bw55 cI a F G) (n := 16) rfl rfl [0, 1, 2, 3, 4, 6, 7, 8, 9, 10, 11, 12, 14, 15] [5, 13] (by decide +kernel) rfl rfl
set_option maxHeartbeats 4000000 in
set_option maxRecDepth 100000 in
theorem xpr5 (cI : ClassId) (a : Nat → Nat) (F : xF) (G : xA) (F' : xF) (G' : xA) : (w55 cI a (xspl (xspl F 5 1 F') 12 1 (xsub F' 1)) (xspl (xspl G 11 1 G') 25 1 (xsub G' 1))).Perm (xpick (bw55 cI a F G) [0, 1, 2, 3, 4, 6, 7, 8, 9, 10, 11, 12, 14, 15] ++ w11 60 60 cI (xcat 2 (xsub a 13) (xsub a 32)) F' G') := xperm0 (bl := bw55 cI a (xspl (xspl F 5 1 F') 12 1 (xsub F' 1)) (xspl (xspl G 11 1 G') 25 1 (xsub G' 1))) (n := 16) rfl rfl [0, 1, 2, 3, 4, 6, 7, 8, 9, 10, 11, 12, 14, 15] [5, 13] (by decide +kernel) rfl rfl
set_option maxHeartbeats 4000000 in
set_option maxRecDepth 100000 in
theorem xpl6 (cI : ClassId) (a : Nat → Nat) (F : xF) (G : xA) : (w55 cI a F G).Perm (xpick (bw55 cI a F G) [0, 1, 2, 3, 4, 5, 6, 8, 9, 10, 11, 12, 13, 14] ++ w11 60 60 cI (xcat 2 (xsub a 17) (xsub a 36)) (xcat 1 (xsub F 6) (xsub F 13)) (xcat 1 (xsub G 13) (xsub G 27))) := xperm0 (bl := bw55 cI a F G) (n := 16) rfl rfl [0, 1, 2, 3, 4, 5, 6, 8, 9, 10, 11, 12, 13, 14] [7, 15] (by decide +kernel) rfl rfl
set_option maxHeartbeats 4000000 in
set_option maxRecDepth 100000 in
theorem xpr6 (cI : ClassId) (a : Nat → Nat) (F : xF) (G : xA) (F' : xF) (G' : xA) : (w55 cI a (xspl (xspl F 6 1 F') 13 1 (xsub F' 1)) (xspl (xspl G 13 1 G') 27 1 (xsub G' 1))).Perm (xpick (bw55 cI a F G) [0, 1, 2, 3, 4, 5, 6, 8, 9, 10, 11, 12, 13, 14] ++ w11 60 60 cI (xcat 2 (xsub a 17) (xsub a 36)) F' G') := xperm0 (bl := bw55 cI a (xspl (xspl F 6 1 F') 13 1 (xsub F' 1)) (xspl (xspl G 13 1 G') 27 1 (xsub G' 1))) (n := 16) rfl rfl [0, 1, 2, 3, 4, 5, 6, 8, 9, 10, 11, 12, 13, 14] [7, 15] (by decide +kernel) rfl rfl
abbrev rmX5_takeFrom : Room := { frames := 4, cells := 0, slots := 0, locals := 221 }
theorem dsX5_takeFrom : xDesc yX5_takeFrom 1 := by decide +kernel
theorem uX5_takeFrom_f9 : Cond.fieldLink RX5 9 "PigNinths$World" "owner" "[I" ∈ wsX5_takeFrom := nw_in nwl_X5_takeFrom nwe_230 (by decide +kernel)
theorem hinX5_takeFrom_X5 : ∀ w ∈ wsX50, w ∈ wsX5_takeFrom := nw_all nwl_X5_takeFrom nwl_X50 (by decide +kernel)
theorem uX5_takeFrom_m74 : Cond.methodLink RX5 74 arraycopyName ∈ wsX5_takeFrom := nw_in nwl_X5_takeFrom nwe_253 (by decide +kernel)
theorem uX5_takeFrom_cn : Cond.native arraycopyName ∈ wsX5_takeFrom := nw_in nwl_X5_takeFrom nwe_99 (by decide +kernel)
theorem uX5_takeFrom_cs : Cond.static arraycopyName ∈ wsX5_takeFrom := nw_in nwl_X5_takeFrom nwe_100 (by decide +kernel)
theorem uX5_takeFrom_ci : Cond.initialized "java/lang/System" ∈ wsX5_takeFrom := nw_in nwl_X5_takeFrom nwe_101 (by decide +kernel)
theorem uX5_takeFrom_f18 : Cond.fieldLink RX5 18 "PigNinths$World" "kind" "[I" ∈ wsX5_takeFrom := nw_in nwl_X5_takeFrom nwe_232 (by decide +kernel)
theorem uX5_takeFrom_f21 : Cond.fieldLink RX5 21 "PigNinths$World" "mark" "[I" ∈ wsX5_takeFrom := nw_in nwl_X5_takeFrom nwe_233 (by decide +kernel)
theorem uX5_takeFrom_f24 : Cond.fieldLink RX5 24 "PigNinths$World" "purse" "[I" ∈ wsX5_takeFrom := nw_in nwl_X5_takeFrom nwe_234 (by decide +kernel)
theorem uX5_takeFrom_f27 : Cond.fieldLink RX5 27 "PigNinths$World" "hid" "[I" ∈ wsX5_takeFrom := nw_in nwl_X5_takeFrom nwe_235 (by decide +kernel)
theorem uX5_takeFrom_f30 : Cond.fieldLink RX5 30 "PigNinths$World" "turn" "[I" ∈ wsX5_takeFrom := nw_in nwl_X5_takeFrom nwe_236 (by decide +kernel)
theorem uX5_takeFrom_f33 : Cond.fieldLink RX5 33 "PigNinths$World" "leash" "[I" ∈ wsX5_takeFrom := nw_in nwl_X5_takeFrom nwe_237 (by decide +kernel)
theorem uX5_takeFrom_f39 : Cond.fieldLink RX5 39 "PigNinths$World" "feeding" "LPigNinths$Text;" ∈ wsX5_takeFrom := nw_in nwl_X5_takeFrom nwe_240 (by decide +kernel)
theorem uX5_takeFrom_f80 : Cond.fieldLink RX5 80 "PigNinths$Text" "code" "LPigNinths$Row;" ∈ wsX5_takeFrom := nw_in nwl_X5_takeFrom nwe_254 (by decide +kernel)
theorem hinX5_takeFrom_X3 : ∀ w ∈ wsX30, w ∈ wsX5_takeFrom := nw_all nwl_X5_takeFrom nwl_X30 (by decide +kernel)
theorem uX5_takeFrom_f43 : Cond.fieldLink RX5 43 "PigNinths$World" "nose" "LPigNinths$Text;" ∈ wsX5_takeFrom := nw_in nwl_X5_takeFrom nwe_241 (by decide +kernel)
theorem uX5_takeFrom_f46 : Cond.fieldLink RX5 46 "PigNinths$World" "rain" "I" ∈ wsX5_takeFrom := nw_in nwl_X5_takeFrom nwe_242 (by decide +kernel)
theorem uX5_takeFrom_f53 : Cond.fieldLink RX5 53 "PigNinths$World" "hunger" "I" ∈ wsX5_takeFrom := nw_in nwl_X5_takeFrom nwe_244 (by decide +kernel)
theorem uX5_takeFrom_f56 : Cond.fieldLink RX5 56 "PigNinths$World" "day" "I" ∈ wsX5_takeFrom := nw_in nwl_X5_takeFrom nwe_245 (by decide +kernel)
theorem uX5_takeFrom_f59 : Cond.fieldLink RX5 59 "PigNinths$World" "drawn" "I" ∈ wsX5_takeFrom := nw_in nwl_X5_takeFrom nwe_246 (by decide +kernel)
set_option maxHeartbeats 4000000 in
set_option maxRecDepth 100000 in
theorem mX5_takeFrom (l : Launch) (D : va_G) (cI cO : ClassId) (a : Nat → Nat)   : MV l yX5_takeFrom wsX5_takeFrom rmX5_takeFrom D (xtys cI cO) [.ref (a 0), .ref (a 19)] (w55 cI a) qX5_takeFrom := by
  refine MV_of (cc := cX5_takeFrom) (maxL := 2) (own := RX5) (by decide) rfl rfl (Nat.le_of_ble_eq_true rfl) ?_
  intro p e s m args below meth c A F G Q h K
  refine x_locals [0, 1] (L' := [(0, .ref (a 0)), (1, .ref (a 19))]) rfl ?_
  refine x_aload_n (pc' := 1) K dX5_takeFrom_0 1 rfl rfl ?_
  refine xw55_19g_owner (pc' := 4) K hinX5_takeFrom_X5 uX5_takeFrom_f9 dX5_takeFrom_1 rfl ?_
  refine x_iconst (pc' := 5) (v := 0) K dX5_takeFrom_4 (by decide) rfl ?_
  refine x_aload_n (pc' := 6) K dX5_takeFrom_5 0 rfl rfl ?_
  refine xw55_0g_owner (pc' := 9) K hinX5_takeFrom_X5 uX5_takeFrom_f9 dX5_takeFrom_6 rfl ?_
  refine x_iconst (pc' := 10) (v := 0) K dX5_takeFrom_9 (by decide) rfl ?_
  refine x_bipush (pc' := 12) (v := 16) K dX5_takeFrom_10 (by decide) rfl ?_
  refine x_copy (pc' := 15) (w' := w55 cI a F (va_up G 0 (va_cpy (G 14) (G 0) (0 : Int32).toNatClampNeg (0 : Int32).toNatClampNeg (16 : Int32).toNatClampNeg))) K uX5_takeFrom_m74 uX5_takeFrom_cn uX5_takeFrom_cs uX5_takeFrom_ci 20 1 (f := G 14) (g := G 0) (n0 := 16) (n1 := 16) (cA := cI) rfl rfl rfl (by decide) (by decide) (by decide) (by decide +kernel) (by decide +kernel) rfl (by decide +kernel) (by decide +kernel) dX5_takeFrom_12 rfl ?_
  obtain ⟨G12, eG12⟩ : ∃ x : xA, x = va_up G 0 (va_cpy (G 14) (G 0) (0 : Int32).toNatClampNeg (0 : Int32).toNatClampNeg (16 : Int32).toNatClampNeg) := ⟨_, rfl⟩
  refine x_weq (w' := w55 cI a F G12) (by subst eG12; rfl) ?_
  replace h := h G12 eG12
  refine x_aload_n (pc' := 16) K dX5_takeFrom_15 1 rfl rfl ?_
  refine xw55_19g_kind (pc' := 19) K hinX5_takeFrom_X5 uX5_takeFrom_f18 dX5_takeFrom_16 rfl ?_
  refine x_iconst (pc' := 20) (v := 0) K dX5_takeFrom_19 (by decide) rfl ?_
  refine x_aload_n (pc' := 21) K dX5_takeFrom_20 0 rfl rfl ?_
  refine xw55_0g_kind (pc' := 24) K hinX5_takeFrom_X5 uX5_takeFrom_f18 dX5_takeFrom_21 rfl ?_
  refine x_iconst (pc' := 25) (v := 0) K dX5_takeFrom_24 (by decide) rfl ?_
  refine x_bipush (pc' := 27) (v := 9) K dX5_takeFrom_25 (by decide) rfl ?_
  refine x_copy (pc' := 30) (w' := w55 cI a F (va_up G12 2 (va_cpy (G12 16) (G12 2) (0 : Int32).toNatClampNeg (0 : Int32).toNatClampNeg (9 : Int32).toNatClampNeg))) K uX5_takeFrom_m74 uX5_takeFrom_cn uX5_takeFrom_cs uX5_takeFrom_ci 22 3 (f := G12 16) (g := G12 2) (n0 := 9) (n1 := 9) (cA := cI) rfl rfl rfl (by decide) (by decide) (by decide) (by decide +kernel) (by decide +kernel) rfl (by decide +kernel) (by decide +kernel) dX5_takeFrom_27 rfl ?_
  obtain ⟨G27, eG27⟩ : ∃ x : xA, x = va_up G12 2 (va_cpy (G12 16) (G12 2) (0 : Int32).toNatClampNeg (0 : Int32).toNatClampNeg (9 : Int32).toNatClampNeg) := ⟨_, rfl⟩
  refine x_weq (w' := w55 cI a F G27) (by subst eG27; rfl) ?_
  replace h := h G27 eG27
  refine x_aload_n (pc' := 31) K dX5_takeFrom_30 1 rfl rfl ?_
  refine xw55_19g_mark (pc' := 34) K hinX5_takeFrom_X5 uX5_takeFrom_f21 dX5_takeFrom_31 rfl ?_
  refine x_iconst (pc' := 35) (v := 0) K dX5_takeFrom_34 (by decide) rfl ?_
  refine x_aload_n (pc' := 36) K dX5_takeFrom_35 0 rfl rfl ?_
  refine xw55_0g_mark (pc' := 39) K hinX5_takeFrom_X5 uX5_takeFrom_f21 dX5_takeFrom_36 rfl ?_
  refine x_iconst (pc' := 40) (v := 0) K dX5_takeFrom_39 (by decide) rfl ?_
  refine x_bipush (pc' := 42) (v := 9) K dX5_takeFrom_40 (by decide) rfl ?_
  refine x_copy (pc' := 45) (w' := w55 cI a F (va_up G27 3 (va_cpy (G27 17) (G27 3) (0 : Int32).toNatClampNeg (0 : Int32).toNatClampNeg (9 : Int32).toNatClampNeg))) K uX5_takeFrom_m74 uX5_takeFrom_cn uX5_takeFrom_cs uX5_takeFrom_ci 23 4 (f := G27 17) (g := G27 3) (n0 := 9) (n1 := 9) (cA := cI) rfl rfl rfl (by decide) (by decide) (by decide) (by decide +kernel) (by decide +kernel) rfl (by decide +kernel) (by decide +kernel) dX5_takeFrom_42 rfl ?_
  obtain ⟨G42, eG42⟩ : ∃ x : xA, x = va_up G27 3 (va_cpy (G27 17) (G27 3) (0 : Int32).toNatClampNeg (0 : Int32).toNatClampNeg (9 : Int32).toNatClampNeg) := ⟨_, rfl⟩
  refine x_weq (w' := w55 cI a F G42) (by subst eG42; rfl) ?_
  replace h := h G42 eG42
  refine x_aload_n (pc' := 46) K dX5_takeFrom_45 1 rfl rfl ?_
  refine xw55_19g_purse (pc' := 49) K hinX5_takeFrom_X5 uX5_takeFrom_f24 dX5_takeFrom_46 rfl ?_
  refine x_iconst (pc' := 50) (v := 0) K dX5_takeFrom_49 (by decide) rfl ?_
  refine x_aload_n (pc' := 51) K dX5_takeFrom_50 0 rfl rfl ?_
  refine xw55_0g_purse (pc' := 54) K hinX5_takeFrom_X5 uX5_takeFrom_f24 dX5_takeFrom_51 rfl ?_
  refine x_iconst (pc' := 55) (v := 0) K dX5_takeFrom_54 (by decide) rfl ?_
  refine x_bipush (pc' := 57) (v := 9) K dX5_takeFrom_55 (by decide) rfl ?_
  refine x_copy (pc' := 60) (w' := w55 cI a F (va_up G42 4 (va_cpy (G42 18) (G42 4) (0 : Int32).toNatClampNeg (0 : Int32).toNatClampNeg (9 : Int32).toNatClampNeg))) K uX5_takeFrom_m74 uX5_takeFrom_cn uX5_takeFrom_cs uX5_takeFrom_ci 24 5 (f := G42 18) (g := G42 4) (n0 := 9) (n1 := 9) (cA := cI) rfl rfl rfl (by decide) (by decide) (by decide) (by decide +kernel) (by decide +kernel) rfl (by decide +kernel) (by decide +kernel) dX5_takeFrom_57 rfl ?_
  obtain ⟨G57, eG57⟩ : ∃ x : xA, x = va_up G42 4 (va_cpy (G42 18) (G42 4) (0 : Int32).toNatClampNeg (0 : Int32).toNatClampNeg (9 : Int32).toNatClampNeg) := ⟨_, rfl⟩
  refine x_weq (w' := w55 cI a F G57) (by subst eG57; rfl) ?_
  replace h := h G57 eG57
  refine x_aload_n (pc' := 61) K dX5_takeFrom_60 1 rfl rfl ?_
  refine xw55_19g_hid (pc' := 64) K hinX5_takeFrom_X5 uX5_takeFrom_f27 dX5_takeFrom_61 rfl ?_
  refine x_iconst (pc' := 65) (v := 0) K dX5_takeFrom_64 (by decide) rfl ?_
  refine x_aload_n (pc' := 66) K dX5_takeFrom_65 0 rfl rfl ?_
  refine xw55_0g_hid (pc' := 69) K hinX5_takeFrom_X5 uX5_takeFrom_f27 dX5_takeFrom_66 rfl ?_
  refine x_iconst (pc' := 70) (v := 0) K dX5_takeFrom_69 (by decide) rfl ?_
  refine x_bipush (pc' := 72) (v := 9) K dX5_takeFrom_70 (by decide) rfl ?_
  refine x_copy (pc' := 75) (w' := w55 cI a F (va_up G57 5 (va_cpy (G57 19) (G57 5) (0 : Int32).toNatClampNeg (0 : Int32).toNatClampNeg (9 : Int32).toNatClampNeg))) K uX5_takeFrom_m74 uX5_takeFrom_cn uX5_takeFrom_cs uX5_takeFrom_ci 25 6 (f := G57 19) (g := G57 5) (n0 := 9) (n1 := 9) (cA := cI) rfl rfl rfl (by decide) (by decide) (by decide) (by decide +kernel) (by decide +kernel) rfl (by decide +kernel) (by decide +kernel) dX5_takeFrom_72 rfl ?_
  obtain ⟨G72, eG72⟩ : ∃ x : xA, x = va_up G57 5 (va_cpy (G57 19) (G57 5) (0 : Int32).toNatClampNeg (0 : Int32).toNatClampNeg (9 : Int32).toNatClampNeg) := ⟨_, rfl⟩
  refine x_weq (w' := w55 cI a F G72) (by subst eG72; rfl) ?_
  replace h := h G72 eG72
  refine x_aload_n (pc' := 76) K dX5_takeFrom_75 1 rfl rfl ?_
  refine xw55_19g_turn (pc' := 79) K hinX5_takeFrom_X5 uX5_takeFrom_f30 dX5_takeFrom_76 rfl ?_
  refine x_iconst (pc' := 80) (v := 0) K dX5_takeFrom_79 (by decide) rfl ?_
  refine x_aload_n (pc' := 81) K dX5_takeFrom_80 0 rfl rfl ?_
  refine xw55_0g_turn (pc' := 84) K hinX5_takeFrom_X5 uX5_takeFrom_f30 dX5_takeFrom_81 rfl ?_
  refine x_iconst (pc' := 85) (v := 0) K dX5_takeFrom_84 (by decide) rfl ?_
  refine x_bipush (pc' := 87) (v := 9) K dX5_takeFrom_85 (by decide) rfl ?_
  refine x_copy (pc' := 90) (w' := w55 cI a F (va_up G72 6 (va_cpy (G72 20) (G72 6) (0 : Int32).toNatClampNeg (0 : Int32).toNatClampNeg (9 : Int32).toNatClampNeg))) K uX5_takeFrom_m74 uX5_takeFrom_cn uX5_takeFrom_cs uX5_takeFrom_ci 26 7 (f := G72 20) (g := G72 6) (n0 := 9) (n1 := 9) (cA := cI) rfl rfl rfl (by decide) (by decide) (by decide) (by decide +kernel) (by decide +kernel) rfl (by decide +kernel) (by decide +kernel) dX5_takeFrom_87 rfl ?_
  obtain ⟨G87, eG87⟩ : ∃ x : xA, x = va_up G72 6 (va_cpy (G72 20) (G72 6) (0 : Int32).toNatClampNeg (0 : Int32).toNatClampNeg (9 : Int32).toNatClampNeg) := ⟨_, rfl⟩
  refine x_weq (w' := w55 cI a F G87) (by subst eG87; rfl) ?_
  replace h := h G87 eG87
  refine x_aload_n (pc' := 91) K dX5_takeFrom_90 1 rfl rfl ?_
  refine xw55_19g_leash (pc' := 94) K hinX5_takeFrom_X5 uX5_takeFrom_f33 dX5_takeFrom_91 rfl ?_
  refine x_iconst (pc' := 95) (v := 0) K dX5_takeFrom_94 (by decide) rfl ?_
  refine x_aload_n (pc' := 96) K dX5_takeFrom_95 0 rfl rfl ?_
  refine xw55_0g_leash (pc' := 99) K hinX5_takeFrom_X5 uX5_takeFrom_f33 dX5_takeFrom_96 rfl ?_
  refine x_iconst (pc' := 100) (v := 0) K dX5_takeFrom_99 (by decide) rfl ?_
  refine x_bipush (pc' := 102) (v := 36) K dX5_takeFrom_100 (by decide) rfl ?_
  refine x_copy (pc' := 105) (w' := w55 cI a F (va_up G87 7 (va_cpy (G87 21) (G87 7) (0 : Int32).toNatClampNeg (0 : Int32).toNatClampNeg (36 : Int32).toNatClampNeg))) K uX5_takeFrom_m74 uX5_takeFrom_cn uX5_takeFrom_cs uX5_takeFrom_ci 27 8 (f := G87 21) (g := G87 7) (n0 := 36) (n1 := 36) (cA := cI) rfl rfl rfl (by decide) (by decide) (by decide) (by decide +kernel) (by decide +kernel) rfl (by decide +kernel) (by decide +kernel) dX5_takeFrom_102 rfl ?_
  obtain ⟨G102, eG102⟩ : ∃ x : xA, x = va_up G87 7 (va_cpy (G87 21) (G87 7) (0 : Int32).toNatClampNeg (0 : Int32).toNatClampNeg (36 : Int32).toNatClampNeg) := ⟨_, rfl⟩
  refine x_weq (w' := w55 cI a F G102) (by subst eG102; rfl) ?_
  replace h := h G102 eG102
  refine x_aload_n (pc' := 106) K dX5_takeFrom_105 0 rfl rfl ?_
  refine xw55_0g_feeding (pc' := 109) K hinX5_takeFrom_X5 uX5_takeFrom_f39 dX5_takeFrom_106 rfl ?_
  refine xw55_11g_code (pc' := 112) K hinX5_takeFrom_X3 uX5_takeFrom_f80 dX5_takeFrom_109 rfl ?_
  refine x_aload_n (pc' := 113) K dX5_takeFrom_112 1 rfl rfl ?_
  refine xw55_19g_feeding (pc' := 116) K hinX5_takeFrom_X5 uX5_takeFrom_f39 dX5_takeFrom_113 rfl ?_
  refine xw55_30g_code (pc' := 119) K hinX5_takeFrom_X3 uX5_takeFrom_f80 dX5_takeFrom_116 rfl ?_
  refine x_subV (pc' := 122) (wn := fun F' G' => w55 cI a (xspl (xspl F 5 1 F') 12 1 (xsub F' 1)) (xspl (xspl G102 11 1 G') 25 1 (xsub G' 1))) K (mX1_takeFrom l D cI cO (xcat 2 (xsub a 13) (xsub a 32)) 60 60) rfl gX5_takeFrom_X1_takeFrom rfl dsX1_takeFrom ⟨rfl, rfl, ⟨Nat.le_of_ble_eq_true rfl, Nat.le_of_ble_eq_true rfl⟩, Nat.le_of_ble_eq_true rfl, Nat.le_of_ble_eq_true rfl⟩ h 1 0 rfl rfl (xpl5 cI a _ _) (fun F' G' => xpr5 cI a _ _ F' G') (st := []) rfl rfl (Nat.le_of_ble_eq_true rfl) dX5_takeFrom_119 rfl (fun F119 G119 h => ?_)
  obtain ⟨E119, eE119⟩ : ∃ x : xF, x = (xspl (xspl F 5 1 F119) 12 1 (xsub F119 1)) := ⟨_, rfl⟩
  obtain ⟨H119, eH119⟩ : ∃ x : xA, x = (xspl (xspl G102 11 1 G119) 25 1 (xsub G119 1)) := ⟨_, rfl⟩
  refine x_weq (w' := w55 cI a E119 H119) (by subst eE119; subst eH119; rfl) ?_
  replace h := h E119 eE119
  replace h := h H119 eH119
  refine x_aload_n (pc' := 123) K dX5_takeFrom_122 0 rfl rfl ?_
  refine xw55_0g_nose (pc' := 126) K hinX5_takeFrom_X5 uX5_takeFrom_f43 dX5_takeFrom_123 rfl ?_
  refine xw55_15g_code (pc' := 129) K hinX5_takeFrom_X3 uX5_takeFrom_f80 dX5_takeFrom_126 rfl ?_
  refine x_aload_n (pc' := 130) K dX5_takeFrom_129 1 rfl rfl ?_
  refine xw55_19g_nose (pc' := 133) K hinX5_takeFrom_X5 uX5_takeFrom_f43 dX5_takeFrom_130 rfl ?_
  refine xw55_34g_code (pc' := 136) K hinX5_takeFrom_X3 uX5_takeFrom_f80 dX5_takeFrom_133 rfl ?_
  refine x_subV (pc' := 139) (wn := fun F' G' => w55 cI a (xspl (xspl E119 6 1 F') 13 1 (xsub F' 1)) (xspl (xspl H119 13 1 G') 27 1 (xsub G' 1))) K (mX1_takeFrom l D cI cO (xcat 2 (xsub a 17) (xsub a 36)) 60 60) rfl gX5_takeFrom_X1_takeFrom rfl dsX1_takeFrom ⟨rfl, rfl, ⟨Nat.le_of_ble_eq_true rfl, Nat.le_of_ble_eq_true rfl⟩, Nat.le_of_ble_eq_true rfl, Nat.le_of_ble_eq_true rfl⟩ h 1 0 rfl rfl (xpl6 cI a _ _) (fun F' G' => xpr6 cI a _ _ F' G') (st := []) rfl rfl (Nat.le_of_ble_eq_true rfl) dX5_takeFrom_136 rfl (fun F136 G136 h => ?_)
  obtain ⟨E136, eE136⟩ : ∃ x : xF, x = (xspl (xspl E119 6 1 F136) 13 1 (xsub F136 1)) := ⟨_, rfl⟩
  obtain ⟨H136, eH136⟩ : ∃ x : xA, x = (xspl (xspl H119 13 1 G136) 27 1 (xsub G136 1)) := ⟨_, rfl⟩
  refine x_weq (w' := w55 cI a E136 H136) (by subst eE136; subst eH136; rfl) ?_
  replace h := h E136 eE136
  replace h := h H136 eH136
  refine x_aload_n (pc' := 140) K dX5_takeFrom_139 0 rfl rfl ?_
  refine x_aload_n (pc' := 141) K dX5_takeFrom_140 1 rfl rfl ?_
  refine xw55_19g_rain (pc' := 144) K hinX5_takeFrom_X5 uX5_takeFrom_f46 dX5_takeFrom_141 rfl ?_
  refine xw55_0p_rain (pc' := 147) K hinX5_takeFrom_X5 uX5_takeFrom_f46 dX5_takeFrom_144 rfl (fun F144 eF144 => ?_)
  replace h := h F144 eF144
  refine x_aload_n (pc' := 148) K dX5_takeFrom_147 0 rfl rfl ?_
  refine x_aload_n (pc' := 149) K dX5_takeFrom_148 1 rfl rfl ?_
  refine xw55_19g_hunger (pc' := 152) K hinX5_takeFrom_X5 uX5_takeFrom_f53 dX5_takeFrom_149 rfl ?_
  refine xw55_0p_hunger (pc' := 155) K hinX5_takeFrom_X5 uX5_takeFrom_f53 dX5_takeFrom_152 rfl (fun F152 eF152 => ?_)
  replace h := h F152 eF152
  refine x_aload_n (pc' := 156) K dX5_takeFrom_155 0 rfl rfl ?_
  refine x_aload_n (pc' := 157) K dX5_takeFrom_156 1 rfl rfl ?_
  refine xw55_19g_day (pc' := 160) K hinX5_takeFrom_X5 uX5_takeFrom_f56 dX5_takeFrom_157 rfl ?_
  refine xw55_0p_day (pc' := 163) K hinX5_takeFrom_X5 uX5_takeFrom_f56 dX5_takeFrom_160 rfl (fun F160 eF160 => ?_)
  replace h := h F160 eF160
  refine x_aload_n (pc' := 164) K dX5_takeFrom_163 0 rfl rfl ?_
  refine x_aload_n (pc' := 165) K dX5_takeFrom_164 1 rfl rfl ?_
  refine xw55_19g_drawn (pc' := 168) K hinX5_takeFrom_X5 uX5_takeFrom_f59 dX5_takeFrom_165 rfl ?_
  refine xw55_0p_drawn (pc' := 171) K hinX5_takeFrom_X5 uX5_takeFrom_f59 dX5_takeFrom_168 rfl (fun F168 eF168 => ?_)
  replace h := h F168 eF168
  refine x_aload_n (pc' := 172) K dX5_takeFrom_171 0 rfl rfl ?_
  refine x_aload_n (pc' := 173) K dX5_takeFrom_172 1 rfl rfl ?_
  refine x_callV (pc' := 176) K (mX5_takeWoodFrom l D cI cO a) rfl gX5_takeFrom_X5_takeWoodFrom rfl dsX5_takeWoodFrom ⟨rfl, rfl, ⟨Nat.le_of_ble_eq_true rfl, Nat.le_of_ble_eq_true rfl⟩, Nat.le_of_ble_eq_true rfl, Nat.le_of_ble_eq_true rfl⟩ h 5 0 rfl rfl (st := []) rfl rfl (Nat.le_of_ble_eq_true rfl) dX5_takeFrom_173 rfl (fun F173 G173 h => ?_)
  exact x_vret (wf := w55 cI a) K h dX5_takeFrom_176
/-! X5_oneDay -/
abbrev rmX5_oneDay : Room := { frames := 6, cells := 0, slots := 0, locals := 155 }
theorem dsX5_oneDay : xDesc yX5_oneDay 1 := by decide +kernel
theorem uX5_oneDay_f53 : Cond.fieldLink RX5 53 "PigNinths$World" "hunger" "I" ∈ wsX5_oneDay := nw_in nwl_X5_oneDay nwe_244 (by decide +kernel)
theorem hinX5_oneDay_X5 : ∀ w ∈ wsX50, w ∈ wsX5_oneDay := nw_all nwl_X5_oneDay nwl_X50 (by decide +kernel)
theorem uX5_oneDay_f56 : Cond.fieldLink RX5 56 "PigNinths$World" "day" "I" ∈ wsX5_oneDay := nw_in nwl_X5_oneDay nwe_245 (by decide +kernel)
set_option maxHeartbeats 4000000 in
set_option maxRecDepth 100000 in
theorem mX5_oneDay (l : Launch) (D : va_G) (cI cO : ClassId) (a : Nat → Nat)  (x1 : Int32) : MI l yX5_oneDay wsX5_oneDay rmX5_oneDay D (xtys cI cO) [.ref (a 0), .int x1] (w5 cI a) (qX5_oneDay x1) := by
  refine MI_of (cc := cX5_oneDay) (maxL := 4) (own := RX5) (by decide) rfl rfl (Nat.le_of_ble_eq_true rfl) ?_
  intro p e s m args below meth c A F G Q h K
  refine x_locals [0, 1] (L' := [(0, .ref (a 0)), (1, .int _)]) rfl ?_
  refine x_aload_n (pc' := 1) K dX5_oneDay_0 0 rfl rfl ?_
  refine x_callI (pc' := 4) K (mX5_whoHasIt l D cI cO a) rfl gX5_oneDay_X5_whoHasIt rfl dsX5_whoHasIt ⟨rfl, rfl, ⟨Nat.le_of_ble_eq_true rfl, Nat.le_of_ble_eq_true rfl⟩, Nat.le_of_ble_eq_true rfl, Nat.le_of_ble_eq_true rfl⟩ h 5 0 rfl rfl (st := []) rfl rfl (Nat.le_of_ble_eq_true rfl) dX5_oneDay_1 rfl (fun r1 F1 G1 h => ?_)
  refine x_istore_n (pc' := 5) (i := 2) K dX5_oneDay_4 rfl (by decide) [1, 2, 0] (L' := [(0, .ref (a 0)), (1, .int _), (2, .int _)]) rfl rfl ?_
  refine x_aload_n (pc' := 6) K dX5_oneDay_5 0 rfl rfl ?_
  refine x_callV (pc' := 9) K (mX5_morning l D cI cO a) rfl gX5_oneDay_X5_morning rfl dsX5_morning ⟨rfl, rfl, ⟨Nat.le_of_ble_eq_true rfl, Nat.le_of_ble_eq_true rfl⟩, Nat.le_of_ble_eq_true rfl, Nat.le_of_ble_eq_true rfl⟩ h 5 0 rfl rfl (st := []) rfl rfl (Nat.le_of_ble_eq_true rfl) dX5_oneDay_6 rfl (fun F6 G6 h => ?_)
  refine x_aload_n (pc' := 10) K dX5_oneDay_9 0 rfl rfl ?_
  refine x_iload_n (pc' := 11) K dX5_oneDay_10 2 rfl rfl ?_
  refine x_callI (pc' := 14) K (mX5_hours l D cI cO a _) rfl gX5_oneDay_X5_hours rfl dsX5_hours ⟨rfl, rfl, ⟨Nat.le_of_ble_eq_true rfl, Nat.le_of_ble_eq_true rfl⟩, Nat.le_of_ble_eq_true rfl, Nat.le_of_ble_eq_true rfl⟩ h 5 0 rfl rfl (st := []) rfl rfl (Nat.le_of_ble_eq_true rfl) dX5_oneDay_11 rfl (fun r11 F11 G11 h => ?_)
  refine x_istore_n (pc' := 15) (i := 3) K dX5_oneDay_14 rfl (by decide) [1, 2, 3, 0] (L' := [(0, .ref (a 0)), (1, .int _), (2, .int _), (3, .int _)]) rfl rfl ?_
  refine x_aload_n (pc' := 16) K dX5_oneDay_15 0 rfl rfl ?_
  refine x_iload_n (pc' := 17) K dX5_oneDay_16 2 rfl rfl ?_
  refine x_iload_n (pc' := 18) K dX5_oneDay_17 3 rfl rfl ?_
  refine x_callV (pc' := 21) K (mX5_partOut l D cI cO a _ _) rfl gX5_oneDay_X5_partOut rfl dsX5_partOut ⟨rfl, rfl, ⟨Nat.le_of_ble_eq_true rfl, Nat.le_of_ble_eq_true rfl⟩, Nat.le_of_ble_eq_true rfl, Nat.le_of_ble_eq_true rfl⟩ h 5 0 rfl rfl (st := []) rfl rfl (Nat.le_of_ble_eq_true rfl) dX5_oneDay_18 rfl (fun F18 G18 h => ?_)
  refine x_aload_n (pc' := 22) K dX5_oneDay_21 0 rfl rfl ?_
  refine x_bipush (pc' := 24) (v := 9) K dX5_oneDay_22 (by decide) rfl ?_
  refine x_iload_n (pc' := 25) K dX5_oneDay_24 1 rfl rfl ?_
  refine x_iconst (pc' := 26) (v := -1) K dX5_oneDay_25 (by decide) rfl ?_
  refine x_icmp_ne (tgt := 38) (pc' := 29) K dX5_oneDay_26 rfl rfl (fun c26 => ?_) (fun c26 => ?_)
  · replace h := h.1 c26
    refine x_iload_n (pc' := 39) K dX5_oneDay_38 1 rfl rfl ?_
    refine x_isub (pc' := 40) K dX5_oneDay_39 rfl ?_
    refine xw5_0p_hunger (pc' := 43) K hinX5_oneDay_X5 uX5_oneDay_f53 dX5_oneDay_40 rfl (fun F40 eF40 => ?_)
    replace h := h F40 eF40
    refine x_aload_n (pc' := 44) K dX5_oneDay_43 0 rfl rfl ?_
    refine x_dup (pc' := 45) K dX5_oneDay_44 rfl rfl ?_
    refine xw5_0g_day (pc' := 48) K hinX5_oneDay_X5 uX5_oneDay_f56 dX5_oneDay_45 rfl ?_
    refine x_iconst (pc' := 49) (v := 1) K dX5_oneDay_48 (by decide) rfl ?_
    refine x_iadd (pc' := 50) K dX5_oneDay_49 rfl ?_
    refine xw5_0p_day (pc' := 53) K hinX5_oneDay_X5 uX5_oneDay_f56 dX5_oneDay_50 rfl (fun F50 eF50 => ?_)
    replace h := h F50 eF50
    refine x_iload_n (pc' := 54) K dX5_oneDay_53 3 rfl rfl ?_
    exact x_iret (wf := w5 cI a) K h dX5_oneDay_54
  · replace h := h.2 c26
    refine x_aload_n (pc' := 30) K dX5_oneDay_29 0 rfl rfl ?_
    refine x_iload_n (pc' := 31) K dX5_oneDay_30 2 rfl rfl ?_
    refine x_iload_n (pc' := 32) K dX5_oneDay_31 3 rfl rfl ?_
    refine x_callI (pc' := 35) K (mX5_feedsOf l D cI cO a _ _) rfl gX5_oneDay_X5_feedsOf rfl dsX5_feedsOf ⟨rfl, rfl, ⟨Nat.le_of_ble_eq_true rfl, Nat.le_of_ble_eq_true rfl⟩, Nat.le_of_ble_eq_true rfl, Nat.le_of_ble_eq_true rfl⟩ h 5 0 rfl rfl (st := [.int _, .ref (a 0)]) rfl rfl (Nat.le_of_ble_eq_true rfl) dX5_oneDay_32 rfl (fun r32 F32 G32 h => ?_)
    refine x_goto (tgt := 39) K dX5_oneDay_35 rfl ?_
    refine x_isub (pc' := 40) K dX5_oneDay_39 rfl ?_
    refine xw5_0p_hunger (pc' := 43) K hinX5_oneDay_X5 uX5_oneDay_f53 dX5_oneDay_40 rfl (fun F40 eF40 => ?_)
    replace h := h F40 eF40
    refine x_aload_n (pc' := 44) K dX5_oneDay_43 0 rfl rfl ?_
    refine x_dup (pc' := 45) K dX5_oneDay_44 rfl rfl ?_
    refine xw5_0g_day (pc' := 48) K hinX5_oneDay_X5 uX5_oneDay_f56 dX5_oneDay_45 rfl ?_
    refine x_iconst (pc' := 49) (v := 1) K dX5_oneDay_48 (by decide) rfl ?_
    refine x_iadd (pc' := 50) K dX5_oneDay_49 rfl ?_
    refine xw5_0p_day (pc' := 53) K hinX5_oneDay_X5 uX5_oneDay_f56 dX5_oneDay_50 rfl (fun F50 eF50 => ?_)
    replace h := h F50 eF50
    refine x_iload_n (pc' := 54) K dX5_oneDay_53 3 rfl rfl ?_
    exact x_iret (wf := w5 cI a) K h dX5_oneDay_54
/-! X5_goOn -/
abbrev rmX5_goOn : Room := { frames := 7, cells := 0, slots := 0, locals := 178 }
theorem dsX5_goOn : xDesc yX5_goOn 1 := by decide +kernel
set_option maxHeartbeats 4000000 in
set_option maxRecDepth 100000 in
theorem tX5_goOn_4 (K : XK p m c cX5_goOn 4 s args wsX5_goOn RX5 D (xtys cI cO) A meth (some .int)) {Q : Int32 → xF → xA → Prop} : ∀ (n : Nat), ∀ (x1 : Int32) (x2 : Int32) (x3 : Int32) (F : xF) (G : xA), qX5_goOn_4 Q n x1 x2 x3 F G → XJ p l e rmX5_goOn s m args below meth c 0 0 (MQ below (xQi D (w5 cI a) A Q) args s 0 0 A) D (xtys cI cO) A 4 (w5 cI a F G) 4 [(0, .ref (a 0)), (1, .int x1), (2, .int x2), (3, .int x3)] [] := by
  intro n
  induction n with
  | zero =>
    intro x1 x2 x3 F G h
    exact False.elim h
  | succ n ih =>
    intro x1 x2 x3 F G h
    refine x_iload_n (pc' := 5) K dX5_goOn_4 3 rfl rfl ?_
    refine x_iload_n (pc' := 6) K dX5_goOn_5 1 rfl rfl ?_
    refine x_icmp_ge (tgt := 23) (pc' := 9) K dX5_goOn_6 rfl rfl (fun c6 => ?_) (fun c6 => ?_)
    · replace h := h.1 c6
      refine x_iload_n (pc' := 24) K dX5_goOn_23 2 rfl rfl ?_
      exact x_iret (wf := w5 cI a) K h dX5_goOn_24
    · replace h := h.2 c6
      refine x_iload_n (pc' := 10) K dX5_goOn_9 2 rfl rfl ?_
      refine x_aload_n (pc' := 11) K dX5_goOn_10 0 rfl rfl ?_
      refine x_iconst (pc' := 12) (v := -1) K dX5_goOn_11 (by decide) rfl ?_
      refine x_callI (pc' := 15) K (mX5_oneDay l D cI cO a _) rfl gX5_goOn_X5_oneDay rfl dsX5_oneDay ⟨rfl, rfl, ⟨Nat.le_of_ble_eq_true rfl, Nat.le_of_ble_eq_true rfl⟩, Nat.le_of_ble_eq_true rfl, Nat.le_of_ble_eq_true rfl⟩ h 5 0 rfl rfl (st := [.int _]) rfl rfl (Nat.le_of_ble_eq_true rfl) dX5_goOn_12 rfl (fun r12 F12 G12 h => ?_)
      refine x_iadd (pc' := 16) K dX5_goOn_15 rfl ?_
      refine x_istore_n (pc' := 17) (i := 2) K dX5_goOn_16 rfl (by decide) [1, 2, 0, 3] (L' := [(0, .ref (a 0)), (1, .int _), (2, .int _), (3, .int _)]) rfl rfl ?_
      refine x_iinc (pc' := 20) (v := _ + (1 : Int32)) K dX5_goOn_17 3 rfl rfl (by decide) [1, 2, 3, 0] (L' := [(0, .ref (a 0)), (1, .int _), (2, .int _), (3, .int _)]) rfl rfl ?_
      refine x_goto (tgt := 4) K dX5_goOn_20 rfl ?_
      exact ih _ _ _ _ _ h
set_option maxHeartbeats 4000000 in
set_option maxRecDepth 100000 in
theorem mX5_goOn (l : Launch) (D : va_G) (cI cO : ClassId) (a : Nat → Nat)  (x1 : Int32) : MI l yX5_goOn wsX5_goOn rmX5_goOn D (xtys cI cO) [.ref (a 0), .int x1] (w5 cI a) (qX5_goOn x1) := by
  refine MI_of (cc := cX5_goOn) (maxL := 4) (own := RX5) (by decide) rfl rfl (Nat.le_of_ble_eq_true rfl) ?_
  intro p e s m args below meth c A F G Q h K
  refine x_locals [0, 1] (L' := [(0, .ref (a 0)), (1, .int _)]) rfl ?_
  refine x_iconst (pc' := 1) (v := 0) K dX5_goOn_0 (by decide) rfl ?_
  refine x_istore_n (pc' := 2) (i := 2) K dX5_goOn_1 rfl (by decide) [1, 2, 0] (L' := [(0, .ref (a 0)), (1, .int _), (2, .int _)]) rfl rfl ?_
  refine x_iconst (pc' := 3) (v := 0) K dX5_goOn_2 (by decide) rfl ?_
  refine x_istore_n (pc' := 4) (i := 3) K dX5_goOn_3 rfl (by decide) [1, 2, 3, 0] (L' := [(0, .ref (a 0)), (1, .int _), (2, .int _), (3, .int _)]) rfl rfl ?_
  obtain ⟨n4, h⟩ := h
  exact tX5_goOn_4 K n4 _ _ _ _ _ h
end
