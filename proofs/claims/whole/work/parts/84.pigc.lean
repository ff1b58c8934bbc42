section
variable {p : Program} {l : Launch} {e : Env} {s : State} {m : MethodId} {args : Array Value} {below : List Frame} {meth : Method} {c : Code} {D : va_G} {cI cO : ClassId} {A : Nat → Prop} {a : Nat → Nat} {d : Nat}
/-! X6_text -/
set_option maxHeartbeats 4000000 in
set_option maxRecDepth 100000 in
theorem xpl26 (cI : ClassId) (cO : ClassId) (a : Nat → Nat) (F : xF) (G : xA) : (w6 cI cO a F G).Perm (List.flatMap (bw6 cI cO a F G) [0, 1, 2, 3, 4, 5, 6, 7, 8, 9, 10, 11, 12, 13, 14, 15, 16, 17, 18, 19, 20, 21, 22, 23, 24, 25, 26, 27, 28, 29, 30, 31, 32, 34, 35, 36, 37, 38, 39, 43, 44, 45, 46, 47, 48, 49, 50, 51, 52, 53] ++ w01 cI (xcat 5 (xsub a 88) (xsub a 77)) (xcat 4 (xsub F 33) (xsub F 29)) (xcat 2 (xsub G 63) (xsub G 56))) := xpermF (bf := bw6 cI cO a F G) (ns := [0, 1, 2, 3, 4, 5, 6, 7, 8, 9, 10, 11, 12, 13, 14, 15, 16, 17, 18, 19, 20, 21, 22, 23, 24, 25, 26, 27, 28, 29, 30, 31, 32, 33, 34, 35, 36, 37, 38, 39, 40, 41, 42, 43, 44, 45, 46, 47, 48, 49, 50, 51, 52, 53]) rfl [0, 1, 2, 3, 4, 5, 6, 7, 8, 9, 10, 11, 12, 13, 14, 15, 16, 17, 18, 19, 20, 21, 22, 23, 24, 25, 26, 27, 28, 29, 30, 31, 32, 34, 35, 36, 37, 38, 39, 43, 44, 45, 46, 47, 48, 49, 50, 51, 52, 53] [40, 41, 42, 33] (by decide +kernel) rfl rfl
set_option maxHeartbeats 4000000 in
set_option maxRecDepth 100000 in
theorem xpr26 (cI : ClassId) (cO : ClassId) (a : Nat → Nat) (F : xF) (G : xA) (F' : xF) (G' : xA) : (w6 cI cO a (xspl (xspl F 33 4 F') 29 1 (xsub F' 4)) (xspl (xspl G 63 2 G') 56 1 (xsub G' 2))).Perm (List.flatMap (bw6 cI cO a F G) [0, 1, 2, 3, 4, 5, 6, 7, 8, 9, 10, 11, 12, 13, 14, 15, 16, 17, 18, 19, 20, 21, 22, 23, 24, 25, 26, 27, 28, 29, 30, 31, 32, 34, 35, 36, 37, 38, 39, 43, 44, 45, 46, 47, 48, 49, 50, 51, 52, 53] ++ w01 cI (xcat 5 (xsub a 88) (xsub a 77)) F' G') := xpermF (bf := bw6 cI cO a (xspl (xspl F 33 4 F') 29 1 (xsub F' 4)) (xspl (xspl G 63 2 G') 56 1 (xsub G' 2))) (ns := [0, 1, 2, 3, 4, 5, 6, 7, 8, 9, 10, 11, 12, 13, 14, 15, 16, 17, 18, 19, 20, 21, 22, 23, 24, 25, 26, 27, 28, 29, 30, 31, 32, 33, 34, 35, 36, 37, 38, 39, 40, 41, 42, 43, 44, 45, 46, 47, 48, 49, 50, 51, 52, 53]) rfl [0, 1, 2, 3, 4, 5, 6, 7, 8, 9, 10, 11, 12, 13, 14, 15, 16, 17, 18, 19, 20, 21, 22, 23, 24, 25, 26, 27, 28, 29, 30, 31, 32, 34, 35, 36, 37, 38, 39, 43, 44, 45, 46, 47, 48, 49, 50, 51, 52, 53] [40, 41, 42, 33] (by decide +kernel) rfl rfl
set_option maxHeartbeats 4000000 in
set_option maxRecDepth 100000 in
theorem xpl27 (cI : ClassId) (cO : ClassId) (a : Nat → Nat) (F : xF) (G : xA) : (w6 cI cO a F G).Perm (List.flatMap (bw6 cI cO a F G) [0, 1, 2, 3, 4, 5, 7, 8, 9, 10, 11, 12, 13, 14, 15, 16, 17, 18, 19, 20, 21, 22, 23, 24, 25, 26, 27, 28, 29, 30, 31, 32, 33, 34, 35, 36, 37, 38, 39, 40, 42, 43, 44, 45, 46, 47, 48, 49, 50, 51, 52, 53] ++ w11 60 60 cI (xcat 2 (xsub a 14) (xsub a 89)) (xcat 1 (xsub F 5) (xsub F 35)) (xcat 1 (xsub G 11) (xsub G 63))) := xpermF (bf := bw6 cI cO a F G) (ns := [0, 1, 2, 3, 4, 5, 6, 7, 8, 9, 10, 11, 12, 13, 14, 15, 16, 17, 18, 19, 20, 21, 22, 23, 24, 25, 26, 27, 28, 29, 30, 31, 32, 33, 34, 35, 36, 37, 38, 39, 40, 41, 42, 43, 44, 45, 46, 47, 48, 49, 50, 51, 52, 53]) rfl [0, 1, 2, 3, 4, 5, 7, 8, 9, 10, 11, 12, 13, 14, 15, 16, 17, 18, 19, 20, 21, 22, 23, 24, 25, 26, 27, 28, 29, 30, 31, 32, 33, 34, 35, 36, 37, 38, 39, 40, 42, 43, 44, 45, 46, 47, 48, 49, 50, 51, 52, 53] [6, 41] (by decide +kernel) rfl rfl
set_option maxHeartbeats 4000000 in
set_option maxRecDepth 100000 in
theorem xpr27 (cI : ClassId) (cO : ClassId) (a : Nat → Nat) (F : xF) (G : xA) (F' : xF) (G' : xA) : (w6 cI cO a (xspl (xspl F 5 1 F') 35 1 (xsub F' 1)) (xspl (xspl G 11 1 G') 63 1 (xsub G' 1))).Perm (List.flatMap (bw6 cI cO a F G) [0, 1, 2, 3, 4, 5, 7, 8, 9, 10, 11, 12, 13, 14, 15, 16, 17, 18, 19, 20, 21, 22, 23, 24, 25, 26, 27, 28, 29, 30, 31, 32, 33, 34, 35, 36, 37, 38, 39, 40, 42, 43, 44, 45, 46, 47, 48, 49, 50, 51, 52, 53] ++ w11 60 60 cI (xcat 2 (xsub a 14) (xsub a 89)) F' G') := xpermF (bf := bw6 cI cO a (xspl (xspl F 5 1 F') 35 1 (xsub F' 1)) (xspl (xspl G 11 1 G') 63 1 (xsub G' 1))) (ns := [0, 1, 2, 3, 4, 5, 6, 7, 8, 9, 10, 11, 12, 13, 14, 15, 16, 17, 18, 19, 20, 21, 22, 23, 24, 25, 26, 27, 28, 29, 30, 31, 32, 33, 34, 35, 36, 37, 38, 39, 40, 41, 42, 43, 44, 45, 46, 47, 48, 49, 50, 51, 52, 53]) rfl [0, 1, 2, 3, 4, 5, 7, 8, 9, 10, 11, 12, 13, 14, 15, 16, 17, 18, 19, 20, 21, 22, 23, 24, 25, 26, 27, 28, 29, 30, 31, 32, 33, 34, 35, 36, 37, 38, 39, 40, 42, 43, 44, 45, 46, 47, 48, 49, 50, 51, 52, 53] [6, 41] (by decide +kernel) rfl rfl
set_option maxHeartbeats 4000000 in
set_option maxRecDepth 100000 in
theorem xpl28 (cI : ClassId) (cO : ClassId) (a : Nat → Nat) (F : xF) (G : xA) : (w6 cI cO a F G).Perm (List.flatMap (bw6 cI cO a F G) [0, 1, 2, 3, 4, 5, 6, 7, 9, 10, 11, 12, 13, 14, 15, 16, 17, 18, 19, 20, 21, 22, 23, 24, 25, 26, 27, 28, 29, 30, 31, 32, 33, 34, 35, 36, 37, 38, 39, 40, 42, 43, 44, 45, 46, 47, 48, 49, 50, 51, 52, 53] ++ w11 60 60 cI (xcat 2 (xsub a 18) (xsub a 89)) (xcat 1 (xsub F 6) (xsub F 35)) (xcat 1 (xsub G 13) (xsub G 63))) := xpermF (bf := bw6 cI cO a F G) (ns := [0, 1, 2, 3, 4, 5, 6, 7, 8, 9, 10, 11, 12, 13, 14, 15, 16, 17, 18, 19, 20, 21, 22, 23, 24, 25, 26, 27, 28, 29, 30, 31, 32, 33, 34, 35, 36, 37, 38, 39, 40, 41, 42, 43, 44, 45, 46, 47, 48, 49, 50, 51, 52, 53]) rfl [0, 1, 2, 3, 4, 5, 6, 7, 9, 10, 11, 12, 13, 14, 15, 16, 17, 18, 19, 20, 21, 22, 23, 24, 25, 26, 27, 28, 29, 30, 31, 32, 33, 34, 35, 36, 37, 38, 39, 40, 42, 43, 44, 45, 46, 47, 48, 49, 50, 51, 52, 53] [8, 41] (by decide +kernel) rfl rfl
set_option maxHeartbeats 4000000 in
set_option maxRecDepth 100000 in
theorem xpr28 (cI : ClassId) (cO : ClassId) (a : Nat → Nat) (F : xF) (G : xA) (F' : xF) (G' : xA) : (w6 cI cO a (xspl (xspl F 6 1 F') 35 1 (xsub F' 1)) (xspl (xspl G 13 1 G') 63 1 (xsub G' 1))).Perm (List.flatMap (bw6 cI cO a F G) [0, 1, 2, 3, 4, 5, 6, 7, 9, 10, 11, 12, 13, 14, 15, 16, 17, 18, 19, 20, 21, 22, 23, 24, 25, 26, 27, 28, 29, 30, 31, 32, 33, 34, 35, 36, 37, 38, 39, 40, 42, 43, 44, 45, 46, 47, 48, 49, 50, 51, 52, 53] ++ w11 60 60 cI (xcat 2 (xsub a 18) (xsub a 89)) F' G') := xpermF (bf := bw6 cI cO a (xspl (xspl F 6 1 F') 35 1 (xsub F' 1)) (xspl (xspl G 13 1 G') 63 1 (xsub G' 1))) (ns := [0, 1, 2, 3, 4, 5, 6, 7, 8, 9, 10, 11, 12, 13, 14, 15, 16, 17, 18, 19, 20, 21, 22, 23, 24, 25, 26, 27, 28, 29, 30, 31, 32, 33, 34, 35, 36, 37, 38, 39, 40, 41, 42, 43, 44, 45, 46, 47, 48, 49, 50, 51, 52, 53]) rfl [0, 1, 2, 3, 4, 5, 6, 7, 9, 10, 11, 12, 13, 14, 15, 16, 17, 18, 19, 20, 21, 22, 23, 24, 25, 26, 27, 28, 29, 30, 31, 32, 33, 34, 35, 36, 37, 38, 39, 40, 42, 43, 44, 45, 46, 47, 48, 49, 50, 51, 52, 53] [8, 41] (by decide +kernel) rfl rfl
abbrev rmX6_text : Room := { frames := 129, cells := 0, slots := 0, locals := 7744 }
theorem dsX6_text : xDesc yX6_text 1 := by decide +kernel
theorem uX6_text_f57 : Cond.fieldLink RX6 57 "PigNinths" "reader" "LPigNinths$Reader;" ∈ wsX6_text := nw_in nwl_X6_text nwe_343 (by decide +kernel)
theorem hinX6_text_X6 : ∀ w ∈ wsX60, w ∈ wsX6_text := nw_all nwl_X6_text nwl_X60 (by decide +kernel)
theorem uX6_text_f21 : Cond.fieldLink RX6 21 "PigNinths" "tape" "LPigNinths$Row;" ∈ wsX6_text := nw_in nwl_X6_text nwe_331 (by decide +kernel)
theorem uX6_text_f135 : Cond.fieldLink RX6 135 "PigNinths$Row" "size" "I" ∈ wsX6_text := nw_in nwl_X6_text nwe_404 (by decide +kernel)
theorem hinX6_text_X1 : ∀ w ∈ wsX10, w ∈ wsX6_text := nw_all nwl_X6_text nwl_X10 (by decide +kernel)
theorem uX6_text_f10 : Cond.fieldLink RX6 10 "PigNinths" "now" "LPigNinths$World;" ∈ wsX6_text := nw_in nwl_X6_text nwe_329 (by decide +kernel)
theorem uX6_text_f149 : Cond.fieldLink RX6 149 "PigNinths$Text" "code" "LPigNinths$Row;" ∈ wsX6_text := nw_in nwl_X6_text nwe_406 (by decide +kernel)
theorem hinX6_text_X3 : ∀ w ∈ wsX30, w ∈ wsX6_text := nw_all nwl_X6_text nwl_X30 (by decide +kernel)
theorem uX6_text_f154 : Cond.fieldLink RX6 154 "PigNinths$Reader" "code" "LPigNinths$Row;" ∈ wsX6_text := nw_in nwl_X6_text nwe_407 (by decide +kernel)
theorem hinX6_text_X0 : ∀ w ∈ wsX00, w ∈ wsX6_text := nw_all nwl_X6_text nwl_X00 (by decide +kernel)
set_option maxHeartbeats 4000000 in
set_option maxRecDepth 100000 in
theorem mX6_text (l : Launch) (D : va_G) (cI cO : ClassId) (a : Nat → Nat)  (x1 : Int32) : MI l yX6_text wsX6_text rmX6_text D (xtys cI cO) [.ref (a 0), .int x1] (w6 cI cO a) (qX6_text x1) := by
  refine MI_of (cc := cX6_text) (maxL := 3) (own := RX6) (by decide) rfl rfl (Nat.le_of_ble_eq_true rfl) ?_
  intro p e s m args below meth c A F G Q h K
  refine x_locals [0, 1] (L' := [(0, .ref (a 0)), (1, .int _)]) rfl ?_
  refine x_iload_n (pc' := 1) K dX6_text_0 1 rfl rfl ?_
  refine x_iconst (pc' := 2) (v := 0) K dX6_text_1 (by decide) rfl ?_
  refine x_iconst (pc' := 3) (v := 1) K dX6_text_2 (by decide) rfl ?_
  refine x_callS (pc' := 6) K (mX6_within l D cI cO a _ _ _) rfl gX6_text_X6_within dsX6_within ⟨rfl, rfl, ⟨Nat.le_of_ble_eq_true rfl, Nat.le_of_ble_eq_true rfl⟩, Nat.le_of_ble_eq_true rfl, Nat.le_of_ble_eq_true rfl⟩ h (st := []) rfl rfl (Nat.le_of_ble_eq_true rfl) dX6_text_3 rfl (fun r3 h => ?_)
  refine x_if_ne (tgt := 15) (pc' := 9) K dX6_text_6 rfl rfl (fun c6 => ?_) (fun c6 => ?_)
  · replace h := h.1 c6
    refine x_aload_n (pc' := 16) K dX6_text_15 0 rfl rfl ?_
    refine xw6_0g_reader (pc' := 19) K hinX6_text_X6 uX6_text_f57 dX6_text_16 rfl ?_
    refine x_aload_n (pc' := 20) K dX6_text_19 0 rfl rfl ?_
    refine xw6_0g_tape (pc' := 23) K hinX6_text_X6 uX6_text_f21 dX6_text_20 rfl ?_
    refine x_iload_n (pc' := 24) K dX6_text_23 1 rfl rfl ?_
    refine x_subI (pc' := 27) (wn := fun F' G' => w6 cI cO a (xspl (xspl F 33 4 F') 29 1 (xsub F' 4)) (xspl (xspl G 63 2 G') 56 1 (xsub G' 2))) K (mX0_read l D cI cO (xcat 5 (xsub a 88) (xsub a 77)) _) rfl gX6_text_X0_read rfl dsX0_read ⟨rfl, rfl, ⟨Nat.le_of_ble_eq_true rfl, Nat.le_of_ble_eq_true rfl⟩, Nat.le_of_ble_eq_true rfl, Nat.le_of_ble_eq_true rfl⟩ h 0 0 rfl rfl (xpl26 cI cO a _ _) (fun F' G' => xpr26 cI cO a _ _ F' G') (st := []) rfl rfl (Nat.le_of_ble_eq_true rfl) dX6_text_24 rfl (fun r24 F24 G24 h => ?_)
    obtain ⟨E24, eE24⟩ : ∃ x : xF, x = (xspl (xspl F 33 4 F24) 29 1 (xsub F24 4)) := ⟨_, rfl⟩
    obtain ⟨H24, eH24⟩ : ∃ x : xA, x = (xspl (xspl G 63 2 G24) 56 1 (xsub G24 2)) := ⟨_, rfl⟩
    refine x_weq (w' := w6 cI cO a E24 H24) (by subst eE24; subst eH24; rfl) ?_
    replace h := h E24 eE24
    replace h := h H24 eH24
    refine x_istore_n (pc' := 28) (i := 2) K dX6_text_27 rfl (by decide) [1, 2, 0] (L' := [(0, .ref (a 0)), (1, .int _), (2, .int _)]) rfl rfl ?_
    refine x_aload_n (pc' := 29) K dX6_text_28 0 rfl rfl ?_
    refine xw6_0g_tape (pc' := 32) K hinX6_text_X6 uX6_text_f21 dX6_text_29 rfl ?_
    refine x_iconst (pc' := 33) (v := 0) K dX6_text_32 (by decide) rfl ?_
    refine xw6_77p_size (pc' := 36) K hinX6_text_X1 uX6_text_f135 dX6_text_33 rfl (fun F33 eF33 => ?_)
    replace h := h F33 eF33
    refine x_iload_n (pc' := 37) K dX6_text_36 2 rfl rfl ?_
    refine x_if_lt (tgt := 45) (pc' := 40) K dX6_text_37 rfl rfl (fun c37 => ?_) (fun c37 => ?_)
    · replace h := h.1 c37
      refine x_aload_n (pc' := 46) K dX6_text_45 0 rfl rfl ?_
      refine xw6_0g_now (pc' := 49) K hinX6_text_X6 uX6_text_f10 dX6_text_46 rfl ?_
      refine x_iload_n (pc' := 50) K dX6_text_49 1 rfl rfl ?_
      refine x_subR (pc' := 53) (wn := fun F' G' => w6 cI cO a (xspl F33 0 7 F') (xspl H24 0 14 G')) K (mX5_textOf l D cI cO (xsub a 1) _) rfl gX6_text_X5_textOf rfl dsX5_textOf ⟨rfl, rfl, ⟨Nat.le_of_ble_eq_true rfl, Nat.le_of_ble_eq_true rfl⟩, Nat.le_of_ble_eq_true rfl, Nat.le_of_ble_eq_true rfl⟩ h 5 0 rfl rfl (xpl24 cI cO a _ _) (fun F' G' => xpr24 cI cO a _ _ F' G') (st := []) rfl rfl (Nat.le_of_ble_eq_true rfl) dX6_text_50 rfl (fun r50 F50 G50 h => ?_)
      obtain ⟨E50, eE50⟩ : ∃ x : xF, x = (xspl F33 0 7 F50) := ⟨_, rfl⟩
      obtain ⟨H50, eH50⟩ : ∃ x : xA, x = (xspl H24 0 14 G50) := ⟨_, rfl⟩
      refine x_weq (w' := w6 cI cO a E50 H50) (by subst eE50; subst eH50; rfl) ?_
      replace h := h E50 eE50
      replace h := h H50 eH50
      rcases h.1 with rfl | rfl
      · replace h := h.2.1 rfl
        refine x_stk (st' := [.ref (a 12)]) rfl ?_
        refine xw6_12g_code (pc' := 56) K hinX6_text_X3 uX6_text_f149 dX6_text_53 rfl ?_
        refine x_aload_n (pc' := 57) K dX6_text_56 0 rfl rfl ?_
        refine xw6_0g_reader (pc' := 60) K hinX6_text_X6 uX6_text_f57 dX6_text_57 rfl ?_
        refine xw6_88g_code (pc' := 63) K hinX6_text_X0 uX6_text_f154 dX6_text_60 rfl ?_
        refine x_subV (pc' := 66) (wn := fun F' G' => w6 cI cO a (xspl (xspl E50 5 1 F') 35 1 (xsub F' 1)) (xspl (xspl H50 11 1 G') 63 1 (xsub G' 1))) K (mX1_takeFrom l D cI cO (xcat 2 (xsub a 14) (xsub a 89)) 60 60) rfl gX6_text_X1_takeFrom rfl dsX1_takeFrom ⟨rfl, rfl, ⟨Nat.le_of_ble_eq_true rfl, Nat.le_of_ble_eq_true rfl⟩, Nat.le_of_ble_eq_true rfl, Nat.le_of_ble_eq_true rfl⟩ h 1 0 rfl rfl (xpl27 cI cO a _ _) (fun F' G' => xpr27 cI cO a _ _ F' G') (st := []) rfl rfl (Nat.le_of_ble_eq_true rfl) dX6_text_63 rfl (fun F63 G63 h => ?_)
        obtain ⟨E63, eE63⟩ : ∃ x : xF, x = (xspl (xspl E50 5 1 F63) 35 1 (xsub F63 1)) := ⟨_, rfl⟩
        obtain ⟨H63, eH63⟩ : ∃ x : xA, x = (xspl (xspl H50 11 1 G63) 63 1 (xsub G63 1)) := ⟨_, rfl⟩
        refine x_weq (w' := w6 cI cO a E63 H63) (by subst eE63; subst eH63; rfl) ?_
        replace h := h E63 eE63
        replace h := h H63 eH63
        refine x_iconst (pc' := 67) (v := 1) K dX6_text_66 (by decide) rfl ?_
        exact x_iret (wf := w6 cI cO a) K h dX6_text_67
      · replace h := h.2.2 rfl
        refine x_stk (st' := [.ref (a 16)]) rfl ?_
        refine xw6_16g_code (pc' := 56) K hinX6_text_X3 uX6_text_f149 dX6_text_53 rfl ?_
        refine x_aload_n (pc' := 57) K dX6_text_56 0 rfl rfl ?_
        refine xw6_0g_reader (pc' := 60) K hinX6_text_X6 uX6_text_f57 dX6_text_57 rfl ?_
        refine xw6_88g_code (pc' := 63) K hinX6_text_X0 uX6_text_f154 dX6_text_60 rfl ?_
        refine x_subV (pc' := 66) (wn := fun F' G' => w6 cI cO a (xspl (xspl E50 6 1 F') 35 1 (xsub F' 1)) (xspl (xspl H50 13 1 G') 63 1 (xsub G' 1))) K (mX1_takeFrom l D cI cO (xcat 2 (xsub a 18) (xsub a 89)) 60 60) rfl gX6_text_X1_takeFrom rfl dsX1_takeFrom ⟨rfl, rfl, ⟨Nat.le_of_ble_eq_true rfl, Nat.le_of_ble_eq_true rfl⟩, Nat.le_of_ble_eq_true rfl, Nat.le_of_ble_eq_true rfl⟩ h 1 0 rfl rfl (xpl28 cI cO a _ _) (fun F' G' => xpr28 cI cO a _ _ F' G') (st := []) rfl rfl (Nat.le_of_ble_eq_true rfl) dX6_text_63 rfl (fun F63 G63 h => ?_)
        obtain ⟨E63, eE63⟩ : ∃ x : xF, x = (xspl (xspl E50 6 1 F63) 35 1 (xsub F63 1)) := ⟨_, rfl⟩
        obtain ⟨H63, eH63⟩ : ∃ x : xA, x = (xspl (xspl H50 13 1 G63) 63 1 (xsub G63 1)) := ⟨_, rfl⟩
        refine x_weq (w' := w6 cI cO a E63 H63) (by subst eE63; subst eH63; rfl) ?_
        replace h := h E63 eE63
        replace h := h H63 eH63
        refine x_iconst (pc' := 67) (v := 1) K dX6_text_66 (by decide) rfl ?_
        exact x_iret (wf := w6 cI cO a) K h dX6_text_67
    · replace h := h.2 c37
      refine x_bipush (pc' := 42) (v := -10) K dX6_text_40 (by decide) rfl ?_
      refine x_iload_n (pc' := 43) K dX6_text_42 2 rfl rfl ?_
      refine x_isub (pc' := 44) K dX6_text_43 rfl ?_
      exact x_iret (wf := w6 cI cO a) K h dX6_text_44
  · replace h := h.2 c6
    refine x_aload_n (pc' := 10) K dX6_text_9 0 rfl rfl ?_
    refine x_iconst (pc' := 11) (v := 1) K dX6_text_10 (by decide) rfl ?_
    refine x_callI (pc' := 14) K (mX6_error l D cI cO a _) rfl gX6_text_X6_error rfl dsX6_error ⟨rfl, rfl, ⟨Nat.le_of_ble_eq_true rfl, Nat.le_of_ble_eq_true rfl⟩, Nat.le_of_ble_eq_true rfl, Nat.le_of_ble_eq_true rfl⟩ h 6 0 rfl rfl (st := []) rfl rfl (Nat.le_of_ble_eq_true rfl) dX6_text_11 rfl (fun r11 F11 G11 h => ?_)
    exact x_iret (wf := w6 cI cO a) K h dX6_text_14
/-! X6_untell -/
set_option maxHeartbeats 4000000 in
set_option maxRecDepth 100000 in
theorem xpl29 (cI : ClassId) (cO : ClassId) (a : Nat → Nat) (F : xF) (G : xA) : (w6 cI cO a F G).Perm (List.flatMap (bw6 cI cO a F G) [0, 1, 2, 3, 4, 7, 8, 9, 10, 11, 12, 13, 14, 15, 16, 17, 18, 19, 20, 21, 22, 23, 24, 25, 26, 27, 28, 29, 30, 31, 32, 33, 34, 35, 36, 37, 38, 39, 40, 41, 42, 43, 44, 45, 46, 47, 48, 49, 50, 51, 52, 53] ++ w3 cI (xsub a 12) (xsub F 5) (xsub G 10)) := xpermF (bf := bw6 cI cO a F G) (ns := [0, 1, 2, 3, 4, 5, 6, 7, 8, 9, 10, 11, 12, 13, 14, 15, 16, 17, 18, 19, 20, 21, 22, 23, 24, 25, 26, 27, 28, 29, 30, 31, 32, 33, 34, 35, 36, 37, 38, 39, 40, 41, 42, 43, 44, 45, 46, 47, 48, 49, 50, 51, 52, 53]) rfl [0, 1, 2, 3, 4, 7, 8, 9, 10, 11, 12, 13, 14, 15, 16, 17, 18, 19, 20, 21, 22, 23, 24, 25, 26, 27, 28, 29, 30, 31, 32, 33, 34, 35, 36, 37, 38, 39, 40, 41, 42, 43, 44, 45, 46, 47, 48, 49, 50, 51, 52, 53] [5, 6] (by decide +kernel) rfl rfl
set_option maxHeartbeats 4000000 in
set_option maxRecDepth 100000 in
theorem xpr29 (cI : ClassId) (cO : ClassId) (a : Nat → Nat) (F : xF) (G : xA) (F' : xF) (G' : xA) : (w6 cI cO a (xspl F 5 1 F') (xspl G 10 2 G')).Perm (List.flatMap (bw6 cI cO a F G) [0, 1, 2, 3, 4, 7, 8, 9, 10, 11, 12, 13, 14, 15, 16, 17, 18, 19, 20, 21, 22, 23, 24, 25, 26, 27, 28, 29, 30, 31, 32, 33, 34, 35, 36, 37, 38, 39, 40, 41, 42, 43, 44, 45, 46, 47, 48, 49, 50, 51, 52, 53] ++ w3 cI (xsub a 12) F' G') := xpermF (bf := bw6 cI cO a (xspl F 5 1 F') (xspl G 10 2 G')) (ns := [0, 1, 2, 3, 4, 5, 6, 7, 8, 9, 10, 11, 12, 13, 14, 15, 16, 17, 18, 19, 20, 21, 22, 23, 24, 25, 26, 27, 28, 29, 30, 31, 32, 33, 34, 35, 36, 37, 38, 39, 40, 41, 42, 43, 44, 45, 46, 47, 48, 49, 50, 51, 52, 53]) rfl [0, 1, 2, 3, 4, 7, 8, 9, 10, 11, 12, 13, 14, 15, 16, 17, 18, 19, 20, 21, 22, 23, 24, 25, 26, 27, 28, 29, 30, 31, 32, 33, 34, 35, 36, 37, 38, 39, 40, 41, 42, 43, 44, 45, 46, 47, 48, 49, 50, 51, 52, 53] [5, 6] (by decide +kernel) rfl rfl
set_option maxHeartbeats 4000000 in
set_option maxRecDepth 100000 in
theorem xpl30 (cI : ClassId) (cO : ClassId) (a : Nat → Nat) (F : xF) (G : xA) : (w6 cI cO a F G).Perm (List.flatMap (bw6 cI cO a F G) [0, 1, 2, 3, 4, 5, 6, 9, 10, 11, 12, 13, 14, 15, 16, 17, 18, 19, 20, 21, 22, 23, 24, 25, 26, 27, 28, 29, 30, 31, 32, 33, 34, 35, 36, 37, 38, 39, 40, 41, 42, 43, 44, 45, 46, 47, 48, 49, 50, 51, 52, 53] ++ w3 cI (xsub a 16) (xsub F 6) (xsub G 12)) := xpermF (bf := bw6 cI cO a F G) (ns := [0, 1, 2, 3, 4, 5, 6, 7, 8, 9, 10, 11, 12, 13, 14, 15, 16, 17, 18, 19, 20, 21, 22, 23, 24, 25, 26, 27, 28, 29, 30, 31, 32, 33, 34, 35, 36, 37, 38, 39, 40, 41, 42, 43, 44, 45, 46, 47, 48, 49, 50, 51, 52, 53]) rfl [0, 1, 2, 3, 4, 5, 6, 9, 10, 11, 12, 13, 14, 15, 16, 17, 18, 19, 20, 21, 22, 23, 24, 25, 26, 27, 28, 29, 30, 31, 32, 33, 34, 35, 36, 37, 38, 39, 40, 41, 42, 43, 44, 45, 46, 47, 48, 49, 50, 51, 52, 53] [7, 8] (by decide +kernel) rfl rfl
set_option maxHeartbeats 4000000 in
set_option maxRecDepth 100000 in
theorem xpr30 (cI : ClassId) (cO : ClassId) (a : Nat → Nat) (F : xF) (G : xA) (F' : xF) (G' : xA) : (w6 cI cO a (xspl F 6 1 F') (xspl G 12 2 G')).Perm (List.flatMap (bw6 cI cO a F G) [0, 1, 2, 3, 4, 5, 6, 9, 10, 11, 12, 13, 14, 15, 16, 17, 18, 19, 20, 21, 22, 23, 24, 25, 26, 27, 28, 29, 30, 31, 32, 33, 34, 35, 36, 37, 38, 39, 40, 41, 42, 43, 44, 45, 46, 47, 48, 49, 50, 51, 52, 53] ++ w3 cI (xsub a 16) F' G') := xpermF (bf := bw6 cI cO a (xspl F 6 1 F') (xspl G 12 2 G')) (ns := [0, 1, 2, 3, 4, 5, 6, 7, 8, 9, 10, 11, 12, 13, 14, 15, 16, 17, 18, 19, 20, 21, 22, 23, 24, 25, 26, 27, 28, 29, 30, 31, 32, 33, 34, 35, 36, 37, 38, 39, 40, 41, 42, 43, 44, 45, 46, 47, 48, 49, 50, 51, 52, 53]) rfl [0, 1, 2, 3, 4, 5, 6, 9, 10, 11, 12, 13, 14, 15, 16, 17, 18, 19, 20, 21, 22, 23, 24, 25, 26, 27, 28, 29, 30, 31, 32, 33, 34, 35, 36, 37, 38, 39, 40, 41, 42, 43, 44, 45, 46, 47, 48, 49, 50, 51, 52, 53] [7, 8] (by decide +kernel) rfl rfl
abbrev rmX6_untell : Room := { frames := 3, cells := 0, slots := 0, locals := 82 }
theorem dsX6_untell : xDesc yX6_untell 1 := by decide +kernel
theorem uX6_untell_f10 : Cond.fieldLink RX6 10 "PigNinths" "now" "LPigNinths$World;" ∈ wsX6_untell := nw_in nwl_X6_untell nwe_329 (by decide +kernel)
theorem hinX6_untell_X6 : ∀ w ∈ wsX60, w ∈ wsX6_untell := nw_all nwl_X6_untell nwl_X60 (by decide +kernel)
theorem uX6_untell_f149 : Cond.fieldLink RX6 149 "PigNinths$Text" "code" "LPigNinths$Row;" ∈ wsX6_untell := nw_in nwl_X6_untell nwe_406 (by decide +kernel)
theorem hinX6_untell_X3 : ∀ w ∈ wsX30, w ∈ wsX6_untell := nw_all nwl_X6_untell nwl_X30 (by decide +kernel)
theorem uX6_untell_f135 : Cond.fieldLink RX6 135 "PigNinths$Row" "size" "I" ∈ wsX6_untell := nw_in nwl_X6_untell nwe_404 (by decide +kernel)
theorem hinX6_untell_X1 : ∀ w ∈ wsX10, w ∈ wsX6_untell := nw_all nwl_X6_untell nwl_X10 (by decide +kernel)
set_option maxHeartbeats 4000000 in
set_option maxRecDepth 100000 in
theorem mX6_untell (l : Launch) (D : va_G) (cI cO : ClassId) (a : Nat → Nat)  (x1 : Int32) : MI l yX6_untell wsX6_untell rmX6_untell D (xtys cI cO) [.ref (a 0), .int x1] (w6 cI cO a) (qX6_untell x1) := by
  refine MI_of (cc := cX6_untell) (maxL := 4) (own := RX6) (by decide) rfl rfl (Nat.le_of_ble_eq_true rfl) ?_
  intro p e s m args below meth c A F G Q h K
  refine x_locals [0, 1] (L' := [(0, .ref (a 0)), (1, .int _)]) rfl ?_
  refine x_iload_n (pc' := 1) K dX6_untell_0 1 rfl rfl ?_
  refine x_iconst (pc' := 2) (v := 0) K dX6_untell_1 (by decide) rfl ?_
  refine x_iconst (pc' := 3) (v := 1) K dX6_untell_2 (by decide) rfl ?_
  refine x_callS (pc' := 6) K (mX6_within l D cI cO a _ _ _) rfl gX6_untell_X6_within dsX6_within ⟨rfl, rfl, ⟨Nat.le_of_ble_eq_true rfl, Nat.le_of_ble_eq_true rfl⟩, Nat.le_of_ble_eq_true rfl, Nat.le_of_ble_eq_true rfl⟩ h (st := []) rfl rfl (Nat.le_of_ble_eq_true rfl) dX6_untell_3 rfl (fun r3 h => ?_)
  refine x_if_ne (tgt := 15) (pc' := 9) K dX6_untell_6 rfl rfl (fun c6 => ?_) (fun c6 => ?_)
  · replace h := h.1 c6
    refine x_aload_n (pc' := 16) K dX6_untell_15 0 rfl rfl ?_
    refine xw6_0g_now (pc' := 19) K hinX6_untell_X6 uX6_untell_f10 dX6_untell_16 rfl ?_
    refine x_iload_n (pc' := 20) K dX6_untell_19 1 rfl rfl ?_
    refine x_subR (pc' := 23) (wn := fun F' G' => w6 cI cO a (xspl F 0 7 F') (xspl G 0 14 G')) K (mX5_textOf l D cI cO (xsub a 1) _) rfl gX6_untell_X5_textOf rfl dsX5_textOf ⟨rfl, rfl, ⟨Nat.le_of_ble_eq_true rfl, Nat.le_of_ble_eq_true rfl⟩, Nat.le_of_ble_eq_true rfl, Nat.le_of_ble_eq_true rfl⟩ h 5 0 rfl rfl (xpl24 cI cO a _ _) (fun F' G' => xpr24 cI cO a _ _ F' G') (st := []) rfl rfl (Nat.le_of_ble_eq_true rfl) dX6_untell_20 rfl (fun r20 F20 G20 h => ?_)
    obtain ⟨E20, eE20⟩ : ∃ x : xF, x = (xspl F 0 7 F20) := ⟨_, rfl⟩
    obtain ⟨H20, eH20⟩ : ∃ x : xA, x = (xspl G 0 14 G20) := ⟨_, rfl⟩
    refine x_weq (w' := w6 cI cO a E20 H20) (by subst eE20; subst eH20; rfl) ?_
    replace h := h E20 eE20
    replace h := h H20 eH20
    rcases h.1 with rfl | rfl
    · replace h := h.2.1 rfl
      refine x_stk (st' := [.ref (a 12)]) rfl ?_
      refine x_astore_n (pc' := 24) (i := 2) K dX6_untell_23 rfl (by decide) [1, 2, 0] (L' := [(0, .ref (a 0)), (1, .int _), (2, .ref (a 12))]) rfl rfl ?_
      refine x_aload_n (pc' := 25) K dX6_untell_24 2 rfl rfl ?_
      refine x_subI (pc' := 28) (wn := fun F' G' => w6 cI cO a (xspl E20 5 1 F') (xspl H20 10 2 G')) K (mX3_isThere l D cI cO (xsub a 12)) rfl gX6_untell_X3_isThere rfl dsX3_isThere ⟨rfl, rfl, ⟨Nat.le_of_ble_eq_true rfl, Nat.le_of_ble_eq_true rfl⟩, Nat.le_of_ble_eq_true rfl, Nat.le_of_ble_eq_true rfl⟩ h 3 0 rfl rfl (xpl29 cI cO a _ _) (fun F' G' => xpr29 cI cO a _ _ F' G') (st := []) rfl rfl (Nat.le_of_ble_eq_true rfl) dX6_untell_25 rfl (fun r25 F25 G25 h => ?_)
      obtain ⟨E25, eE25⟩ : ∃ x : xF, x = (xspl E20 5 1 F25) := ⟨_, rfl⟩
      obtain ⟨H25, eH25⟩ : ∃ x : xA, x = (xspl H20 10 2 G25) := ⟨_, rfl⟩
      refine x_weq (w' := w6 cI cO a E25 H25) (by subst eE25; subst eH25; rfl) ?_
      replace h := h E25 eE25
      replace h := h H25 eH25
      refine x_if_eq (tgt := 35) (pc' := 31) K dX6_untell_28 rfl rfl (fun c28 => ?_) (fun c28 => ?_)
      · replace h := h.1 c28
        refine x_iconst (pc' := 36) (v := 0) K dX6_untell_35 (by decide) rfl ?_
        refine x_istore_n (pc' := 37) (i := 3) K dX6_untell_36 rfl (by decide) [1, 2, 3, 0] (L' := [(0, .ref (a 0)), (1, .int _), (2, .ref (a 12)), (3, .int _)]) rfl rfl ?_
        refine x_aload_n (pc' := 38) K dX6_untell_37 2 rfl rfl ?_
        refine xw6_12g_code (pc' := 41) K hinX6_untell_X3 uX6_untell_f149 dX6_untell_38 rfl ?_
        refine x_iconst (pc' := 42) (v := 0) K dX6_untell_41 (by decide) rfl ?_
        refine xw6_14p_size (pc' := 45) K hinX6_untell_X1 uX6_untell_f135 dX6_untell_42 rfl (fun F42 eF42 => ?_)
        replace h := h F42 eF42
        refine x_iload_n (pc' := 46) K dX6_untell_45 3 rfl rfl ?_
        exact x_iret (wf := w6 cI cO a) K h dX6_untell_46
      · replace h := h.2 c28
        refine x_iconst (pc' := 32) (v := 1) K dX6_untell_31 (by decide) rfl ?_
        refine x_goto (tgt := 36) K dX6_untell_32 rfl ?_
        refine x_istore_n (pc' := 37) (i := 3) K dX6_untell_36 rfl (by decide) [1, 2, 3, 0] (L' := [(0, .ref (a 0)), (1, .int _), (2, .ref (a 12)), (3, .int _)]) rfl rfl ?_
        refine x_aload_n (pc' := 38) K dX6_untell_37 2 rfl rfl ?_
        refine xw6_12g_code (pc' := 41) K hinX6_untell_X3 uX6_untell_f149 dX6_untell_38 rfl ?_
        refine x_iconst (pc' := 42) (v := 0) K dX6_untell_41 (by decide) rfl ?_
        refine xw6_14p_size (pc' := 45) K hinX6_untell_X1 uX6_untell_f135 dX6_untell_42 rfl (fun F42 eF42 => ?_)
        replace h := h F42 eF42
        refine x_iload_n (pc' := 46) K dX6_untell_45 3 rfl rfl ?_
        exact x_iret (wf := w6 cI cO a) K h dX6_untell_46
    · replace h := h.2.2 rfl
      refine x_stk (st' := [.ref (a 16)]) rfl ?_
      refine x_astore_n (pc' := 24) (i := 2) K dX6_untell_23 rfl (by decide) [1, 2, 0] (L' := [(0, .ref (a 0)), (1, .int _), (2, .ref (a 16))]) rfl rfl ?_
      refine x_aload_n (pc' := 25) K dX6_untell_24 2 rfl rfl ?_
      refine x_subI (pc' := 28) (wn := fun F' G' => w6 cI cO a (xspl E20 6 1 F') (xspl H20 12 2 G')) K (mX3_isThere l D cI cO (xsub a 16)) rfl gX6_untell_X3_isThere rfl dsX3_isThere ⟨rfl, rfl, ⟨Nat.le_of_ble_eq_true rfl, Nat.le_of_ble_eq_true rfl⟩, Nat.le_of_ble_eq_true rfl, Nat.le_of_ble_eq_true rfl⟩ h 3 0 rfl rfl (xpl30 cI cO a _ _) (fun F' G' => xpr30 cI cO a _ _ F' G') (st := []) rfl rfl (Nat.le_of_ble_eq_true rfl) dX6_untell_25 rfl (fun r25 F25 G25 h => ?_)
      obtain ⟨E25, eE25⟩ : ∃ x : xF, x = (xspl E20 6 1 F25) := ⟨_, rfl⟩
      obtain ⟨H25, eH25⟩ : ∃ x : xA, x = (xspl H20 12 2 G25) := ⟨_, rfl⟩
      refine x_weq (w' := w6 cI cO a E25 H25) (by subst eE25; subst eH25; rfl) ?_
      replace h := h E25 eE25
      replace h := h H25 eH25
      refine x_if_eq (tgt := 35) (pc' := 31) K dX6_untell_28 rfl rfl (fun c28 => ?_) (fun c28 => ?_)
      · replace h := h.1 c28
        refine x_iconst (pc' := 36) (v := 0) K dX6_untell_35 (by decide) rfl ?_
        refine x_istore_n (pc' := 37) (i := 3) K dX6_untell_36 rfl (by decide) [1, 2, 3, 0] (L' := [(0, .ref (a 0)), (1, .int _), (2, .ref (a 16)), (3, .int _)]) rfl rfl ?_
        refine x_aload_n (pc' := 38) K dX6_untell_37 2 rfl rfl ?_
        refine xw6_16g_code (pc' := 41) K hinX6_untell_X3 uX6_untell_f149 dX6_untell_38 rfl ?_
        refine x_iconst (pc' := 42) (v := 0) K dX6_untell_41 (by decide) rfl ?_
        refine xw6_18p_size (pc' := 45) K hinX6_untell_X1 uX6_untell_f135 dX6_untell_42 rfl (fun F42 eF42 => ?_)
        replace h := h F42 eF42
        refine x_iload_n (pc' := 46) K dX6_untell_45 3 rfl rfl ?_
        exact x_iret (wf := w6 cI cO a) K h dX6_untell_46
      · replace h := h.2 c28
        refine x_iconst (pc' := 32) (v := 1) K dX6_untell_31 (by decide) rfl ?_
        refine x_goto (tgt := 36) K dX6_untell_32 rfl ?_
        refine x_istore_n (pc' := 37) (i := 3) K dX6_untell_36 rfl (by decide) [1, 2, 3, 0] (L' := [(0, .ref (a 0)), (1, .int _), (2, .ref (a 16)), (3, .int _)]) rfl rfl ?_
        refine x_aload_n (pc' := 38) K dX6_untell_37 2 rfl rfl ?_
        refine xw6_16g_code (pc' := 41) K hinX6_untell_X3 uX6_untell_f149 dX6_untell_38 rfl ?_
        refine x_iconst (pc' := 42) (v := 0) K dX6_untell_41 (by decide) rfl ?_
        refine xw6_18p_size (pc' := 45) K hinX6_untell_X1 uX6_untell_f135 dX6_untell_42 rfl (fun F42 eF42 => ?_)
        replace h := h F42 eF42
        refine x_iload_n (pc' := 46) K dX6_untell_45 3 rfl rfl ?_
        exact x_iret (wf := w6 cI cO a) K h dX6_untell_46
  · replace h := h.2 c6
    refine x_aload_n (pc' := 10) K dX6_untell_9 0 rfl rfl ?_
    refine x_iconst (pc' := 11) (v := 1) K dX6_untell_10 (by decide) rfl ?_
    refine x_callI (pc' := 14) K (mX6_error l D cI cO a _) rfl gX6_untell_X6_error rfl dsX6_error ⟨rfl, rfl, ⟨Nat.le_of_ble_eq_true rfl, Nat.le_of_ble_eq_true rfl⟩, Nat.le_of_ble_eq_true rfl, Nat.le_of_ble_eq_true rfl⟩ h 6 0 rfl rfl (st := []) rfl rfl (Nat.le_of_ble_eq_true rfl) dX6_untell_11 rfl (fun r11 F11 G11 h => ?_)
    exact x_iret (wf := w6 cI cO a) K h dX6_untell_14
/-! X6_days -/
abbrev rmX6_days : Room := { frames := 8, cells := 0, slots := 0, locals := 201 }
theorem dsX6_days : xDesc yX6_days 1 := by decide +kernel
theorem uX6_days_f10 : Cond.fieldLink RX6 10 "PigNinths" "now" "LPigNinths$World;" ∈ wsX6_days := nw_in nwl_X6_days nwe_329 (by decide +kernel)
theorem hinX6_days_X6 : ∀ w ∈ wsX60, w ∈ wsX6_days := nw_all nwl_X6_days nwl_X60 (by decide +kernel)
theorem uX6_days_f163 : Cond.fieldLink RX6 163 "PigNinths$World" "day" "I" ∈ wsX6_days := nw_in nwl_X6_days nwe_418 (by decide +kernel)
theorem hinX6_days_X5 : ∀ w ∈ wsX50, w ∈ wsX6_days := nw_all nwl_X6_days nwl_X50 (by decide +kernel)
set_option maxHeartbeats 4000000 in
set_option maxRecDepth 100000 in
theorem mX6_days (l : Launch) (D : va_G) (cI cO : ClassId) (a : Nat → Nat)  (x1 : Int32) : MI l yX6_days wsX6_days rmX6_days D (xtys cI cO) [.ref (a 0), .int x1] (w6 cI cO a) (qX6_days x1) := by
  refine MI_of (cc := cX6_days) (maxL := 2) (own := RX6) (by decide) rfl rfl (Nat.le_of_ble_eq_true rfl) ?_
  intro p e s m args below meth c A F G Q h K
  refine x_locals [0, 1] (L' := [(0, .ref (a 0)), (1, .int _)]) rfl ?_
  refine x_iload_n (pc' := 1) K dX6_days_0 1 rfl rfl ?_
  refine x_iconst (pc' := 2) (v := 1) K dX6_days_1 (by decide) rfl ?_
  refine x_bipush (pc' := 4) (v := 45) K dX6_days_2 (by decide) rfl ?_
  refine x_callS (pc' := 7) K (mX6_within l D cI cO a _ _ _) rfl gX6_days_X6_within dsX6_within ⟨rfl, rfl, ⟨Nat.le_of_ble_eq_true rfl, Nat.le_of_ble_eq_true rfl⟩, Nat.le_of_ble_eq_true rfl, Nat.le_of_ble_eq_true rfl⟩ h (st := []) rfl rfl (Nat.le_of_ble_eq_true rfl) dX6_days_4 rfl (fun r4 h => ?_)
  refine x_if_ne (tgt := 16) (pc' := 10) K dX6_days_7 rfl rfl (fun c7 => ?_) (fun c7 => ?_)
  · replace h := h.1 c7
    refine x_aload_n (pc' := 17) K dX6_days_16 0 rfl rfl ?_
    refine xw6_0g_now (pc' := 20) K hinX6_days_X6 uX6_days_f10 dX6_days_17 rfl ?_
    refine xw6_1g_day (pc' := 23) K hinX6_days_X5 uX6_days_f163 dX6_days_20 rfl ?_
    refine x_iload_n (pc' := 24) K dX6_days_23 1 rfl rfl ?_
    refine x_iadd (pc' := 25) K dX6_days_24 rfl ?_
    refine x_sipush (pc' := 28) (v := 9999) K dX6_days_25 (by decide) rfl ?_
    refine x_icmp_le (tgt := 37) (pc' := 31) K dX6_days_28 rfl rfl (fun c28 => ?_) (fun c28 => ?_)
    · replace h := h.1 c28
      refine x_aload_n (pc' := 38) K dX6_days_37 0 rfl rfl ?_
      refine xw6_0g_now (pc' := 41) K hinX6_days_X6 uX6_days_f10 dX6_days_38 rfl ?_
      refine x_iload_n (pc' := 42) K dX6_days_41 1 rfl rfl ?_
      refine x_subI (pc' := 45) (wn := fun F' G' => w6 cI cO a (xspl F 0 7 F') (xspl G 0 14 G')) K (mX5_goOn l D cI cO (xsub a 1) _) rfl gX6_days_X5_goOn rfl dsX5_goOn ⟨rfl, rfl, ⟨Nat.le_of_ble_eq_true rfl, Nat.le_of_ble_eq_true rfl⟩, Nat.le_of_ble_eq_true rfl, Nat.le_of_ble_eq_true rfl⟩ h 5 0 rfl rfl (xpl24 cI cO a _ _) (fun F' G' => xpr24 cI cO a _ _ F' G') (st := []) rfl rfl (Nat.le_of_ble_eq_true rfl) dX6_days_42 rfl (fun r42 F42 G42 h => ?_)
      obtain ⟨E42, eE42⟩ : ∃ x : xF, x = (xspl F 0 7 F42) := ⟨_, rfl⟩
      obtain ⟨H42, eH42⟩ : ∃ x : xA, x = (xspl G 0 14 G42) := ⟨_, rfl⟩
      refine x_weq (w' := w6 cI cO a E42 H42) (by subst eE42; subst eH42; rfl) ?_
      replace h := h E42 eE42
      replace h := h H42 eH42
      exact x_iret (wf := w6 cI cO a) K h dX6_days_45
    · replace h := h.2 c28
      refine x_aload_n (pc' := 32) K dX6_days_31 0 rfl rfl ?_
      refine x_iconst (pc' := 33) (v := 3) K dX6_days_32 (by decide) rfl ?_
      refine x_callI (pc' := 36) K (mX6_error l D cI cO a _) rfl gX6_days_X6_error rfl dsX6_error ⟨rfl, rfl, ⟨Nat.le_of_ble_eq_true rfl, Nat.le_of_ble_eq_true rfl⟩, Nat.le_of_ble_eq_true rfl, Nat.le_of_ble_eq_true rfl⟩ h 6 0 rfl rfl (st := []) rfl rfl (Nat.le_of_ble_eq_true rfl) dX6_days_33 rfl (fun r33 F33 G33 h => ?_)
      exact x_iret (wf := w6 cI cO a) K h dX6_days_36
  · replace h := h.2 c7
    refine x_aload_n (pc' := 11) K dX6_days_10 0 rfl rfl ?_
    refine x_iconst (pc' := 12) (v := 1) K dX6_days_11 (by decide) rfl ?_
    refine x_callI (pc' := 15) K (mX6_error l D cI cO a _) rfl gX6_days_X6_error rfl dsX6_error ⟨rfl, rfl, ⟨Nat.le_of_ble_eq_true rfl, Nat.le_of_ble_eq_true rfl⟩, Nat.le_of_ble_eq_true rfl, Nat.le_of_ble_eq_true rfl⟩ h 6 0 rfl rfl (st := []) rfl rfl (Nat.le_of_ble_eq_true rfl) dX6_days_12 rfl (fun r12 F12 G12 h => ?_)
    exact x_iret (wf := w6 cI cO a) K h dX6_days_15
/-! X6_draws -/
abbrev rmX6_draws : Room := { frames := 7, cells := 0, slots := 0, locals := 178 }
theorem dsX6_draws : xDesc yX6_draws 1 := by decide +kernel
theorem uX6_draws_f10 : Cond.fieldLink RX6 10 "PigNinths" "now" "LPigNinths$World;" ∈ wsX6_draws := nw_in nwl_X6_draws nwe_329 (by decide +kernel)
theorem hinX6_draws_X6 : ∀ w ∈ wsX60, w ∈ wsX6_draws := nw_all nwl_X6_draws nwl_X60 (by decide +kernel)
theorem uX6_draws_f163 : Cond.fieldLink RX6 163 "PigNinths$World" "day" "I" ∈ wsX6_draws := nw_in nwl_X6_draws nwe_418 (by decide +kernel)
theorem hinX6_draws_X5 : ∀ w ∈ wsX50, w ∈ wsX6_draws := nw_all nwl_X6_draws nwl_X50 (by decide +kernel)
set_option maxHeartbeats 4000000 in
set_option maxRecDepth 100000 in
theorem tX6_draws_41 (K : XK p m c cX6_draws 4 s args wsX6_draws RX6 D (xtys cI cO) A meth (some .int)) {Q : Int32 → xF → xA → Prop} : ∀ (n : Nat), ∀ (x1 : Int32) (x2 : Int32) (x3 : Int32) (F : xF) (G : xA), qX6_draws_41 Q n x1 x2 x3 F G → XJ p l e rmX6_draws s m args below meth c 0 0 (MQ below (xQi D (w6 cI cO a) A Q) args s 0 0 A) D (xtys cI cO) A 4 (w6 cI cO a F G) 41 [(0, .ref (a 0)), (1, .int x1), (2, .int x2), (3, .int x3)] [] := by
  intro n
  induction n with
  | zero =>
    intro x1 x2 x3 F G h
    exact False.elim h
  | succ n ih =>
    intro x1 x2 x3 F G h
    refine x_iload_n (pc' := 42) K dX6_draws_41 3 rfl rfl ?_
    refine x_iload_n (pc' := 43) K dX6_draws_42 1 rfl rfl ?_
    refine x_icmp_ge (tgt := 70) (pc' := 46) K dX6_draws_43 rfl rfl (fun c43 => ?_) (fun c43 => ?_)
    · replace h := h.1 c43
      refine x_iload_n (pc' := 71) K dX6_draws_70 2 rfl rfl ?_
      exact x_iret (wf := w6 cI cO a) K h dX6_draws_71
    · replace h := h.2 c43
      refine x_aload_n (pc' := 47) K dX6_draws_46 0 rfl rfl ?_
      refine xw6_0g_now (pc' := 50) K hinX6_draws_X6 uX6_draws_f10 dX6_draws_47 rfl ?_
      refine x_subV (pc' := 53) (wn := fun F' G' => w6 cI cO a (xspl F 0 7 F') (xspl G 0 14 G')) K (mX5_drawRain l D cI cO (xsub a 1)) rfl gX6_draws_X5_drawRain rfl dsX5_drawRain ⟨rfl, rfl, ⟨Nat.le_of_ble_eq_true rfl, Nat.le_of_ble_eq_true rfl⟩, Nat.le_of_ble_eq_true rfl, Nat.le_of_ble_eq_true rfl⟩ h 5 0 rfl rfl (xpl24 cI cO a _ _) (fun F' G' => xpr24 cI cO a _ _ F' G') (st := []) rfl rfl (Nat.le_of_ble_eq_true rfl) dX6_draws_50 rfl (fun F50 G50 h => ?_)
      obtain ⟨E50, eE50⟩ : ∃ x : xF, x = (xspl F 0 7 F50) := ⟨_, rfl⟩
      obtain ⟨H50, eH50⟩ : ∃ x : xA, x = (xspl G 0 14 G50) := ⟨_, rfl⟩
      refine x_weq (w' := w6 cI cO a E50 H50) (by subst eE50; subst eH50; rfl) ?_
      replace h := h E50 eE50
      replace h := h H50 eH50
      refine x_iload_n (pc' := 54) K dX6_draws_53 2 rfl rfl ?_
      refine x_aload_n (pc' := 55) K dX6_draws_54 0 rfl rfl ?_
      refine xw6_0g_now (pc' := 58) K hinX6_draws_X6 uX6_draws_f10 dX6_draws_55 rfl ?_
      refine x_iconst (pc' := 59) (v := -1) K dX6_draws_58 (by decide) rfl ?_
      refine x_subI (pc' := 62) (wn := fun F' G' => w6 cI cO a (xspl E50 0 7 F') (xspl H50 0 14 G')) K (mX5_oneDay l D cI cO (xsub a 1) _) rfl gX6_draws_X5_oneDay rfl dsX5_oneDay ⟨rfl, rfl, ⟨Nat.le_of_ble_eq_true rfl, Nat.le_of_ble_eq_true rfl⟩, Nat.le_of_ble_eq_true rfl, Nat.le_of_ble_eq_true rfl⟩ h 5 0 rfl rfl (xpl24 cI cO a _ _) (fun F' G' => xpr24 cI cO a _ _ F' G') (st := [.int _]) rfl rfl (Nat.le_of_ble_eq_true rfl) dX6_draws_59 rfl (fun r59 F59 G59 h => ?_)
      obtain ⟨E59, eE59⟩ : ∃ x : xF, x = (xspl E50 0 7 F59) := ⟨_, rfl⟩
      obtain ⟨H59, eH59⟩ : ∃ x : xA, x = (xspl H50 0 14 G59) := ⟨_, rfl⟩
      refine x_weq (w' := w6 cI cO a E59 H59) (by subst eE59; subst eH59; rfl) ?_
      replace h := h E59 eE59
      replace h := h H59 eH59
      refine x_iadd (pc' := 63) K dX6_draws_62 rfl ?_
      refine x_istore_n (pc' := 64) (i := 2) K dX6_draws_63 rfl (by decide) [1, 2, 0, 3] (L' := [(0, .ref (a 0)), (1, .int _), (2, .int _), (3, .int _)]) rfl rfl ?_
      refine x_iinc (pc' := 67) (v := _ + (1 : Int32)) K dX6_draws_64 3 rfl rfl (by decide) [1, 2, 3, 0] (L' := [(0, .ref (a 0)), (1, .int _), (2, .int _), (3, .int _)]) rfl rfl ?_
      refine x_goto (tgt := 41) K dX6_draws_67 rfl ?_
      exact ih _ _ _ _ _ h
set_option maxHeartbeats 4000000 in
set_option maxRecDepth 100000 in
theorem mX6_draws (l : Launch) (D : va_G) (cI cO : ClassId) (a : Nat → Nat)  (x1 : Int32) : MI l yX6_draws wsX6_draws rmX6_draws D (xtys cI cO) [.ref (a 0), .int x1] (w6 cI cO a) (qX6_draws x1) := by
  refine MI_of (cc := cX6_draws) (maxL := 4) (own := RX6) (by decide) rfl rfl (Nat.le_of_ble_eq_true rfl) ?_
  intro p e s m args below meth c A F G Q h K
  refine x_locals [0, 1] (L' := [(0, .ref (a 0)), (1, .int _)]) rfl ?_
  refine x_iload_n (pc' := 1) K dX6_draws_0 1 rfl rfl ?_
  refine x_iconst (pc' := 2) (v := 1) K dX6_draws_1 (by decide) rfl ?_
  refine x_bipush (pc' := 4) (v := 45) K dX6_draws_2 (by decide) rfl ?_
  refine x_callS (pc' := 7) K (mX6_within l D cI cO a _ _ _) rfl gX6_draws_X6_within dsX6_within ⟨rfl, rfl, ⟨Nat.le_of_ble_eq_true rfl, Nat.le_of_ble_eq_true rfl⟩, Nat.le_of_ble_eq_true rfl, Nat.le_of_ble_eq_true rfl⟩ h (st := []) rfl rfl (Nat.le_of_ble_eq_true rfl) dX6_draws_4 rfl (fun r4 h => ?_)
  refine x_if_ne (tgt := 16) (pc' := 10) K dX6_draws_7 rfl rfl (fun c7 => ?_) (fun c7 => ?_)
  · replace h := h.1 c7
    refine x_aload_n (pc' := 17) K dX6_draws_16 0 rfl rfl ?_
    refine xw6_0g_now (pc' := 20) K hinX6_draws_X6 uX6_draws_f10 dX6_draws_17 rfl ?_
    refine xw6_1g_day (pc' := 23) K hinX6_draws_X5 uX6_draws_f163 dX6_draws_20 rfl ?_
    refine x_iload_n (pc' := 24) K dX6_draws_23 1 rfl rfl ?_
    refine x_iadd (pc' := 25) K dX6_draws_24 rfl ?_
    refine x_sipush (pc' := 28) (v := 9999) K dX6_draws_25 (by decide) rfl ?_
    refine x_icmp_le (tgt := 37) (pc' := 31) K dX6_draws_28 rfl rfl (fun c28 => ?_) (fun c28 => ?_)
    · replace h := h.1 c28
      refine x_iconst (pc' := 38) (v := 0) K dX6_draws_37 (by decide) rfl ?_
      refine x_istore_n (pc' := 39) (i := 2) K dX6_draws_38 rfl (by decide) [1, 2, 0] (L' := [(0, .ref (a 0)), (1, .int _), (2, .int _)]) rfl rfl ?_
      refine x_iconst (pc' := 40) (v := 0) K dX6_draws_39 (by decide) rfl ?_
      refine x_istore_n (pc' := 41) (i := 3) K dX6_draws_40 rfl (by decide) [1, 2, 3, 0] (L' := [(0, .ref (a 0)), (1, .int _), (2, .int _), (3, .int _)]) rfl rfl ?_
      obtain ⟨n41, h⟩ := h
      exact tX6_draws_41 K n41 _ _ _ _ _ h
    · replace h := h.2 c28
      refine x_aload_n (pc' := 32) K dX6_draws_31 0 rfl rfl ?_
      refine x_iconst (pc' := 33) (v := 3) K dX6_draws_32 (by decide) rfl ?_
      refine x_callI (pc' := 36) K (mX6_error l D cI cO a _) rfl gX6_draws_X6_error rfl dsX6_error ⟨rfl, rfl, ⟨Nat.le_of_ble_eq_true rfl, Nat.le_of_ble_eq_true rfl⟩, Nat.le_of_ble_eq_true rfl, Nat.le_of_ble_eq_true rfl⟩ h 6 0 rfl rfl (st := []) rfl rfl (Nat.le_of_ble_eq_true rfl) dX6_draws_33 rfl (fun r33 F33 G33 h => ?_)
      exact x_iret (wf := w6 cI cO a) K h dX6_draws_36
  · replace h := h.2 c7
    refine x_aload_n (pc' := 11) K dX6_draws_10 0 rfl rfl ?_
    refine x_iconst (pc' := 12) (v := 1) K dX6_draws_11 (by decide) rfl ?_
    refine x_callI (pc' := 15) K (mX6_error l D cI cO a _) rfl gX6_draws_X6_error rfl dsX6_error ⟨rfl, rfl, ⟨Nat.le_of_ble_eq_true rfl, Nat.le_of_ble_eq_true rfl⟩, Nat.le_of_ble_eq_true rfl, Nat.le_of_ble_eq_true rfl⟩ h 6 0 rfl rfl (st := []) rfl rfl (Nat.le_of_ble_eq_true rfl) dX6_draws_12 rfl (fun r12 F12 G12 h => ?_)
    exact x_iret (wf := w6 cI cO a) K h dX6_draws_15
/-! X6_then -/
abbrev rmX6_then : Room := { frames := 8, cells := 0, slots := 0, locals := 242 }
theorem dsX6_then : xDesc yX6_then 3 := by decide +kernel
theorem uX6_then_f41 : Cond.fieldLink RX6 41 "PigNinths" "side" "LPigNinths$World;" ∈ wsX6_then := nw_in nwl_X6_then nwe_337 (by decide +kernel)
theorem hinX6_then_X6 : ∀ w ∈ wsX60, w ∈ wsX6_then := nw_all nwl_X6_then nwl_X60 (by decide +kernel)
theorem uX6_then_f10 : Cond.fieldLink RX6 10 "PigNinths" "now" "LPigNinths$World;" ∈ wsX6_then := nw_in nwl_X6_then nwe_329 (by decide +kernel)
set_option maxHeartbeats 4000000 in
set_option maxRecDepth 100000 in
theorem mX6_then (l : Launch) (D : va_G) (cI cO : ClassId) (a : Nat → Nat)  (x1 : Int32) (x2 : Int32) (x3 : Int32) : MI l yX6_then wsX6_then rmX6_then D (xtys cI cO) [.ref (a 0), .int x1, .int x2, .int x3] (w6 cI cO a) (qX6_then x1 x2 x3) := by
  refine MI_of (cc := cX6_then) (maxL := 4) (own := RX6) (by decide) rfl rfl (Nat.le_of_ble_eq_true rfl) ?_
  intro p e s m args below meth c A F G Q h K
  refine x_locals [0, 1, 2, 3] (L' := [(0, .ref (a 0)), (1, .int _), (2, .int _), (3, .int _)]) rfl ?_
  refine x_iload_n (pc' := 1) K dX6_then_0 1 rfl rfl ?_
  refine x_iconst (pc' := 2) (v := 0) K dX6_then_1 (by decide) rfl ?_
  refine x_bipush (pc' := 4) (v := 45) K dX6_then_2 (by decide) rfl ?_
  refine x_callS (pc' := 7) K (mX6_within l D cI cO a _ _ _) rfl gX6_then_X6_within dsX6_within ⟨rfl, rfl, ⟨Nat.le_of_ble_eq_true rfl, Nat.le_of_ble_eq_true rfl⟩, Nat.le_of_ble_eq_true rfl, Nat.le_of_ble_eq_true rfl⟩ h (st := []) rfl rfl (Nat.le_of_ble_eq_true rfl) dX6_then_4 rfl (fun r4 h => ?_)
  refine x_if_eq (tgt := 27) (pc' := 10) K dX6_then_7 rfl rfl (fun c7 => ?_) (fun c7 => ?_)
  · replace h := h.1 c7
    refine x_aload_n (pc' := 28) K dX6_then_27 0 rfl rfl ?_
    refine x_iconst (pc' := 29) (v := 1) K dX6_then_28 (by decide) rfl ?_
    refine x_callI (pc' := 32) K (mX6_error l D cI cO a _) rfl gX6_then_X6_error rfl dsX6_error ⟨rfl, rfl, ⟨Nat.le_of_ble_eq_true rfl, Nat.le_of_ble_eq_true rfl⟩, Nat.le_of_ble_eq_true rfl, Nat.le_of_ble_eq_true rfl⟩ h 6 0 rfl rfl (st := []) rfl rfl (Nat.le_of_ble_eq_true rfl) dX6_then_29 rfl (fun r29 F29 G29 h => ?_)
    exact x_iret (wf := w6 cI cO a) K h dX6_then_32
  · replace h := h.2 c7
    refine x_iload_n (pc' := 11) K dX6_then_10 2 rfl rfl ?_
    refine x_callS (pc' := 14) K (mX6_isFarmer l D cI cO a _) rfl gX6_then_X6_isFarmer dsX6_isFarmer ⟨rfl, rfl, ⟨Nat.le_of_ble_eq_true rfl, Nat.le_of_ble_eq_true rfl⟩, Nat.le_of_ble_eq_true rfl, Nat.le_of_ble_eq_true rfl⟩ h (st := []) rfl rfl (Nat.le_of_ble_eq_true rfl) dX6_then_11 rfl (fun r11 h => ?_)
    refine x_if_eq (tgt := 27) (pc' := 17) K dX6_then_14 rfl rfl (fun c14 => ?_) (fun c14 => ?_)
    · replace h := h.1 c14
      refine x_aload_n (pc' := 28) K dX6_then_27 0 rfl rfl ?_
      refine x_iconst (pc' := 29) (v := 1) K dX6_then_28 (by decide) rfl ?_
      refine x_callI (pc' := 32) K (mX6_error l D cI cO a _) rfl gX6_then_X6_error rfl dsX6_error ⟨rfl, rfl, ⟨Nat.le_of_ble_eq_true rfl, Nat.le_of_ble_eq_true rfl⟩, Nat.le_of_ble_eq_true rfl, Nat.le_of_ble_eq_true rfl⟩ h 6 0 rfl rfl (st := []) rfl rfl (Nat.le_of_ble_eq_true rfl) dX6_then_29 rfl (fun r29 F29 G29 h => ?_)
      exact x_iret (wf := w6 cI cO a) K h dX6_then_32
    · replace h := h.2 c14
      refine x_iload_n (pc' := 18) K dX6_then_17 3 rfl rfl ?_
      refine x_iconst (pc' := 19) (v := 0) K dX6_then_18 (by decide) rfl ?_
      refine x_bipush (pc' := 21) (v := 8) K dX6_then_19 (by decide) rfl ?_
      refine x_callS (pc' := 24) K (mX6_within l D cI cO a _ _ _) rfl gX6_then_X6_within dsX6_within ⟨rfl, rfl, ⟨Nat.le_of_ble_eq_true rfl, Nat.le_of_ble_eq_true rfl⟩, Nat.le_of_ble_eq_true rfl, Nat.le_of_ble_eq_true rfl⟩ h (st := []) rfl rfl (Nat.le_of_ble_eq_true rfl) dX6_then_21 rfl (fun r21 h => ?_)
      refine x_if_ne (tgt := 33) (pc' := 27) K dX6_then_24 rfl rfl (fun c24 => ?_) (fun c24 => ?_)
      · replace h := h.1 c24
        refine x_aload_n (pc' := 34) K dX6_then_33 0 rfl rfl ?_
        refine xw6_0g_side (pc' := 37) K hinX6_then_X6 uX6_then_f41 dX6_then_34 rfl ?_
        refine x_aload_n (pc' := 38) K dX6_then_37 0 rfl rfl ?_
        refine xw6_0g_now (pc' := 41) K hinX6_then_X6 uX6_then_f10 dX6_then_38 rfl ?_
        refine x_subV (pc' := 44) (wn := fun F' G' => w6 cI cO a (xspl (xspl F 14 7 F') 0 7 (xsub F' 7)) (xspl (xspl G 28 14 G') 0 14 (xsub G' 14))) K (mX5_takeFrom l D cI cO (xcat 19 (xsub a 39) (xsub a 1))) rfl gX6_then_X5_takeFrom rfl dsX5_takeFrom ⟨rfl, rfl, ⟨Nat.le_of_ble_eq_true rfl, Nat.le_of_ble_eq_true rfl⟩, Nat.le_of_ble_eq_true rfl, Nat.le_of_ble_eq_true rfl⟩ h 5 0 rfl rfl (xpl15 cI cO a _ _) (fun F' G' => xpr15 cI cO a _ _ F' G') (st := []) rfl rfl (Nat.le_of_ble_eq_true rfl) dX6_then_41 rfl (fun F41 G41 h => ?_)
        obtain ⟨E41, eE41⟩ : ∃ x : xF, x = (xspl (xspl F 14 7 F41) 0 7 (xsub F41 7)) := ⟨_, rfl⟩
        obtain ⟨H41, eH41⟩ : ∃ x : xA, x = (xspl (xspl G 28 14 G41) 0 14 (xsub G41 14)) := ⟨_, rfl⟩
        refine x_weq (w' := w6 cI cO a E41 H41) (by subst eE41; subst eH41; rfl) ?_
        replace h := h E41 eE41
        replace h := h H41 eH41
        refine x_aload_n (pc' := 45) K dX6_then_44 0 rfl rfl ?_
        refine xw6_0g_side (pc' := 48) K hinX6_then_X6 uX6_then_f41 dX6_then_45 rfl ?_
        refine x_iload_n (pc' := 49) K dX6_then_48 1 rfl rfl ?_
        refine x_subI (pc' := 52) (wn := fun F' G' => w6 cI cO a (xspl E41 14 7 F') (xspl H41 28 14 G')) K (mX5_goOn l D cI cO (xsub a 39) _) rfl gX6_then_X5_goOn rfl dsX5_goOn ⟨rfl, rfl, ⟨Nat.le_of_ble_eq_true rfl, Nat.le_of_ble_eq_true rfl⟩, Nat.le_of_ble_eq_true rfl, Nat.le_of_ble_eq_true rfl⟩ h 5 0 rfl rfl (xpl16 cI cO a _ _) (fun F' G' => xpr16 cI cO a _ _ F' G') (st := []) rfl rfl (Nat.le_of_ble_eq_true rfl) dX6_then_49 rfl (fun r49 F49 G49 h => ?_)
        obtain ⟨E49, eE49⟩ : ∃ x : xF, x = (xspl E41 14 7 F49) := ⟨_, rfl⟩
        obtain ⟨H49, eH49⟩ : ∃ x : xA, x = (xspl H41 28 14 G49) := ⟨_, rfl⟩
        refine x_weq (w' := w6 cI cO a E49 H49) (by subst eE49; subst eH49; rfl) ?_
        replace h := h E49 eE49
        replace h := h H49 eH49
        refine x_pop (pc' := 53) K dX6_then_52 rfl rfl ?_
        refine x_aload_n (pc' := 54) K dX6_then_53 0 rfl rfl ?_
        refine xw6_0g_side (pc' := 57) K hinX6_then_X6 uX6_then_f41 dX6_then_54 rfl ?_
        refine x_iload_n (pc' := 58) K dX6_then_57 2 rfl rfl ?_
        refine x_iload_n (pc' := 59) K dX6_then_58 3 rfl rfl ?_
        refine x_subI (pc' := 62) (wn := fun F' G' => w6 cI cO a (xspl E49 14 7 F') (xspl H49 28 14 G')) K (mX5_ofFarmer l D cI cO (xsub a 39) _ _) rfl gX6_then_X5_ofFarmer rfl dsX5_ofFarmer ⟨rfl, rfl, ⟨Nat.le_of_ble_eq_true rfl, Nat.le_of_ble_eq_true rfl⟩, Nat.le_of_ble_eq_true rfl, Nat.le_of_ble_eq_true rfl⟩ h 5 0 rfl rfl (xpl16 cI cO a _ _) (fun F' G' => xpr16 cI cO a _ _ F' G') (st := []) rfl rfl (Nat.le_of_ble_eq_true rfl) dX6_then_59 rfl (fun r59 F59 G59 h => ?_)
        obtain ⟨E59, eE59⟩ : ∃ x : xF, x = (xspl E49 14 7 F59) := ⟨_, rfl⟩
        obtain ⟨H59, eH59⟩ : ∃ x : xA, x = (xspl H49 28 14 G59) := ⟨_, rfl⟩
        refine x_weq (w' := w6 cI cO a E59 H59) (by subst eE59; subst eH59; rfl) ?_
        replace h := h E59 eE59
        replace h := h H59 eH59
        exact x_iret (wf := w6 cI cO a) K h dX6_then_62
      · replace h := h.2 c24
        refine x_aload_n (pc' := 28) K dX6_then_27 0 rfl rfl ?_
        refine x_iconst (pc' := 29) (v := 1) K dX6_then_28 (by decide) rfl ?_
        refine x_callI (pc' := 32) K (mX6_error l D cI cO a _) rfl gX6_then_X6_error rfl dsX6_error ⟨rfl, rfl, ⟨Nat.le_of_ble_eq_true rfl, Nat.le_of_ble_eq_true rfl⟩, Nat.le_of_ble_eq_true rfl, Nat.le_of_ble_eq_true rfl⟩ h 6 0 rfl rfl (st := []) rfl rfl (Nat.le_of_ble_eq_true rfl) dX6_then_29 rfl (fun r29 F29 G29 h => ?_)
        exact x_iret (wf := w6 cI cO a) K h dX6_then_32
/-! X6_ahead -/
abbrev rmX6_ahead : Room := { frames := 8, cells := 0, slots := 0, locals := 242 }
theorem dsX6_ahead : xDesc yX6_ahead 2 := by decide +kernel
theorem uX6_ahead_f41 : Cond.fieldLink RX6 41 "PigNinths" "side" "LPigNinths$World;" ∈ wsX6_ahead := nw_in nwl_X6_ahead nwe_337 (by decide +kernel)
theorem hinX6_ahead_X6 : ∀ w ∈ wsX60, w ∈ wsX6_ahead := nw_all nwl_X6_ahead nwl_X60 (by decide +kernel)
theorem uX6_ahead_f10 : Cond.fieldLink RX6 10 "PigNinths" "now" "LPigNinths$World;" ∈ wsX6_ahead := nw_in nwl_X6_ahead nwe_329 (by decide +kernel)
theorem uX6_ahead_f129 : Cond.fieldLink RX6 129 "PigNinths$World" "place" "I" ∈ wsX6_ahead := nw_in nwl_X6_ahead nwe_401 (by decide +kernel)
theorem hinX6_ahead_X5 : ∀ w ∈ wsX50, w ∈ wsX6_ahead := nw_all nwl_X6_ahead nwl_X50 (by decide +kernel)
theorem uX6_ahead_f132 : Cond.fieldLink RX6 132 "PigNinths$World" "hunger" "I" ∈ wsX6_ahead := nw_in nwl_X6_ahead nwe_402 (by decide +kernel)
theorem uX6_ahead_f96 : Cond.fieldLink RX6 96 "PigNinths$World" "under" "[I" ∈ wsX6_ahead := nw_in nwl_X6_ahead nwe_369 (by decide +kernel)
set_option maxHeartbeats 4000000 in
set_option maxRecDepth 100000 in
theorem mX6_ahead (l : Launch) (D : va_G) (cI cO : ClassId) (a : Nat → Nat)  (x1 : Int32) (x2 : Int32) : MI l yX6_ahead wsX6_ahead rmX6_ahead D (xtys cI cO) [.ref (a 0), .int x1, .int x2] (w6 cI cO a) (qX6_ahead x1 x2) := by
  refine MI_of (cc := cX6_ahead) (maxL := 3) (own := RX6) (by decide) rfl rfl (Nat.le_of_ble_eq_true rfl) ?_
  intro p e s m args below meth c A F G Q h K
  refine x_locals [0, 1, 2] (L' := [(0, .ref (a 0)), (1, .int _), (2, .int _)]) rfl ?_
  refine x_iload_n (pc' := 1) K dX6_ahead_0 1 rfl rfl ?_
  refine x_iconst (pc' := 2) (v := 0) K dX6_ahead_1 (by decide) rfl ?_
  refine x_bipush (pc' := 4) (v := 45) K dX6_ahead_2 (by decide) rfl ?_
  refine x_callS (pc' := 7) K (mX6_within l D cI cO a _ _ _) rfl gX6_ahead_X6_within dsX6_within ⟨rfl, rfl, ⟨Nat.le_of_ble_eq_true rfl, Nat.le_of_ble_eq_true rfl⟩, Nat.le_of_ble_eq_true rfl, Nat.le_of_ble_eq_true rfl⟩ h (st := []) rfl rfl (Nat.le_of_ble_eq_true rfl) dX6_ahead_4 rfl (fun r4 h => ?_)
  refine x_if_eq (tgt := 19) (pc' := 10) K dX6_ahead_7 rfl rfl (fun c7 => ?_) (fun c7 => ?_)
  · replace h := h.1 c7
    refine x_aload_n (pc' := 20) K dX6_ahead_19 0 rfl rfl ?_
    refine x_iconst (pc' := 21) (v := 1) K dX6_ahead_20 (by decide) rfl ?_
    refine x_callI (pc' := 24) K (mX6_error l D cI cO a _) rfl gX6_ahead_X6_error rfl dsX6_error ⟨rfl, rfl, ⟨Nat.le_of_ble_eq_true rfl, Nat.le_of_ble_eq_true rfl⟩, Nat.le_of_ble_eq_true rfl, Nat.le_of_ble_eq_true rfl⟩ h 6 0 rfl rfl (st := []) rfl rfl (Nat.le_of_ble_eq_true rfl) dX6_ahead_21 rfl (fun r21 F21 G21 h => ?_)
    exact x_iret (wf := w6 cI cO a) K h dX6_ahead_24
  · replace h := h.2 c7
    refine x_iload_n (pc' := 11) K dX6_ahead_10 2 rfl rfl ?_
    refine x_iconst (pc' := 12) (v := 0) K dX6_ahead_11 (by decide) rfl ?_
    refine x_iconst (pc' := 13) (v := 3) K dX6_ahead_12 (by decide) rfl ?_
    refine x_callS (pc' := 16) K (mX6_within l D cI cO a _ _ _) rfl gX6_ahead_X6_within dsX6_within ⟨rfl, rfl, ⟨Nat.le_of_ble_eq_true rfl, Nat.le_of_ble_eq_true rfl⟩, Nat.le_of_ble_eq_true rfl, Nat.le_of_ble_eq_true rfl⟩ h (st := []) rfl rfl (Nat.le_of_ble_eq_true rfl) dX6_ahead_13 rfl (fun r13 h => ?_)
    refine x_if_ne (tgt := 25) (pc' := 19) K dX6_ahead_16 rfl rfl (fun c16 => ?_) (fun c16 => ?_)
    · replace h := h.1 c16
      refine x_aload_n (pc' := 26) K dX6_ahead_25 0 rfl rfl ?_
      refine xw6_0g_side (pc' := 29) K hinX6_ahead_X6 uX6_ahead_f41 dX6_ahead_26 rfl ?_
      refine x_aload_n (pc' := 30) K dX6_ahead_29 0 rfl rfl ?_
      refine xw6_0g_now (pc' := 33) K hinX6_ahead_X6 uX6_ahead_f10 dX6_ahead_30 rfl ?_
      refine x_subV (pc' := 36) (wn := fun F' G' => w6 cI cO a (xspl (xspl F 14 7 F') 0 7 (xsub F' 7)) (xspl (xspl G 28 14 G') 0 14 (xsub G' 14))) K (mX5_takeFrom l D cI cO (xcat 19 (xsub a 39) (xsub a 1))) rfl gX6_ahead_X5_takeFrom rfl dsX5_takeFrom ⟨rfl, rfl, ⟨Nat.le_of_ble_eq_true rfl, Nat.le_of_ble_eq_true rfl⟩, Nat.le_of_ble_eq_true rfl, Nat.le_of_ble_eq_true rfl⟩ h 5 0 rfl rfl (xpl15 cI cO a _ _) (fun F' G' => xpr15 cI cO a _ _ F' G') (st := []) rfl rfl (Nat.le_of_ble_eq_true rfl) dX6_ahead_33 rfl (fun F33 G33 h => ?_)
      obtain ⟨E33, eE33⟩ : ∃ x : xF, x = (xspl (xspl F 14 7 F33) 0 7 (xsub F33 7)) := ⟨_, rfl⟩
      obtain ⟨H33, eH33⟩ : ∃ x : xA, x = (xspl (xspl G 28 14 G33) 0 14 (xsub G33 14)) := ⟨_, rfl⟩
      refine x_weq (w' := w6 cI cO a E33 H33) (by subst eE33; subst eH33; rfl) ?_
      replace h := h E33 eE33
      replace h := h H33 eH33
      refine x_aload_n (pc' := 37) K dX6_ahead_36 0 rfl rfl ?_
      refine xw6_0g_side (pc' := 40) K hinX6_ahead_X6 uX6_ahead_f41 dX6_ahead_37 rfl ?_
      refine x_iload_n (pc' := 41) K dX6_ahead_40 1 rfl rfl ?_
      refine x_subI (pc' := 44) (wn := fun F' G' => w6 cI cO a (xspl E33 14 7 F') (xspl H33 28 14 G')) K (mX5_goOn l D cI cO (xsub a 39) _) rfl gX6_ahead_X5_goOn rfl dsX5_goOn ⟨rfl, rfl, ⟨Nat.le_of_ble_eq_true rfl, Nat.le_of_ble_eq_true rfl⟩, Nat.le_of_ble_eq_true rfl, Nat.le_of_ble_eq_true rfl⟩ h 5 0 rfl rfl (xpl16 cI cO a _ _) (fun F' G' => xpr16 cI cO a _ _ F' G') (st := []) rfl rfl (Nat.le_of_ble_eq_true rfl) dX6_ahead_41 rfl (fun r41 F41 G41 h => ?_)
      obtain ⟨E41, eE41⟩ : ∃ x : xF, x = (xspl E33 14 7 F41) := ⟨_, rfl⟩
      obtain ⟨H41, eH41⟩ : ∃ x : xA, x = (xspl H33 28 14 G41) := ⟨_, rfl⟩
      refine x_weq (w' := w6 cI cO a E41 H41) (by subst eE41; subst eH41; rfl) ?_
      replace h := h E41 eE41
      replace h := h H41 eH41
      refine x_pop (pc' := 45) K dX6_ahead_44 rfl rfl ?_
      refine x_iload_n (pc' := 46) K dX6_ahead_45 2 rfl rfl ?_
      refine (Classical.em (x2 = (0 : Int32))).elim (fun e46 => ?_) (fun e46_1 => ?_)
      · replace h := h.1 e46
        refine x_tableIn (tgt := 72) (off := 26) K dX6_ahead_46 (by rw [e46]; decide) (by rw [e46]; decide) (by rw [e46]; rfl) rfl ?_
        refine x_aload_n (pc' := 73) K dX6_ahead_72 0 rfl rfl ?_
        refine xw6_0g_side (pc' := 76) K hinX6_ahead_X6 uX6_ahead_f41 dX6_ahead_73 rfl ?_
        refine xw6_39g_place (pc' := 79) K hinX6_ahead_X5 uX6_ahead_f129 dX6_ahead_76 rfl ?_
        exact x_iret (wf := w6 cI cO a) K h dX6_ahead_79
      · replace h := h.2 e46_1
        refine (Classical.em (x2 = (1 : Int32))).elim (fun e46 => ?_) (fun e46_2 => ?_)
        · replace h := h.1 e46
          refine x_tableIn (tgt := 80) (off := 34) K dX6_ahead_46 (by rw [e46]; decide) (by rw [e46]; decide) (by rw [e46]; rfl) rfl ?_
          refine x_aload_n (pc' := 81) K dX6_ahead_80 0 rfl rfl ?_
          refine xw6_0g_side (pc' := 84) K hinX6_ahead_X6 uX6_ahead_f41 dX6_ahead_81 rfl ?_
          refine xw6_39g_hunger (pc' := 87) K hinX6_ahead_X5 uX6_ahead_f132 dX6_ahead_84 rfl ?_
          exact x_iret (wf := w6 cI cO a) K h dX6_ahead_87
        · replace h := h.2 e46_2
          refine (Classical.em (x2 = (2 : Int32))).elim (fun e46 => ?_) (fun e46_3 => ?_)
          · replace h := h.1 e46
            refine x_tableIn (tgt := 88) (off := 42) K dX6_ahead_46 (by rw [e46]; decide) (by rw [e46]; decide) (by rw [e46]; rfl) rfl ?_
            refine x_aload_n (pc' := 89) K dX6_ahead_88 0 rfl rfl ?_
            refine xw6_0g_side (pc' := 92) K hinX6_ahead_X6 uX6_ahead_f41 dX6_ahead_89 rfl ?_
            refine xw6_39g_under (pc' := 95) K hinX6_ahead_X5 uX6_ahead_f96 dX6_ahead_92 rfl ?_
            refine x_subIS (pc' := 98) (wn := fun F' G' => w6 cI cO a (xspl E41 14 7 F') (xspl H41 28 14 G')) K (mX6_sum_2 l D cI cO (xsub a 39)) rfl gX6_ahead_X6_sum dsX6_sum ⟨rfl, rfl, ⟨Nat.le_of_ble_eq_true rfl, Nat.le_of_ble_eq_true rfl⟩, Nat.le_of_ble_eq_true rfl, Nat.le_of_ble_eq_true rfl⟩ h (xpl16 cI cO a _ _) (fun F' G' => xpr16 cI cO a _ _ F' G') (st := []) rfl rfl (Nat.le_of_ble_eq_true rfl) dX6_ahead_95 rfl (fun r95 F95 G95 h => ?_)
            obtain ⟨E95, eE95⟩ : ∃ x : xF, x = (xspl E41 14 7 F95) := ⟨_, rfl⟩
            obtain ⟨H95, eH95⟩ : ∃ x : xA, x = (xspl H41 28 14 G95) := ⟨_, rfl⟩
            refine x_weq (w' := w6 cI cO a E95 H95) (by subst eE95; subst eH95; rfl) ?_
            replace h := h E95 eE95
            replace h := h H95 eH95
            exact x_iret (wf := w6 cI cO a) K h dX6_ahead_98
          · replace h := h.2 e46_3
            have f46_1 := xtin (i := 0) e46_1 (by decide)
            have f46_2 := xtin (i := 1) e46_2 (by decide)
            have f46_3 := xtin (i := 2) e46_3 (by decide)
            refine (Classical.em (x2.toInt < 0 ∨ 2 < x2.toInt)).elim (fun g46 => ?_) (fun g46 => ?_)
            · refine x_tableOut (tgt := 99) K dX6_ahead_46 g46 rfl ?_
              refine x_aload_n (pc' := 100) K dX6_ahead_99 0 rfl rfl ?_
              refine xw6_0g_side (pc' := 103) K hinX6_ahead_X6 uX6_ahead_f41 dX6_ahead_100 rfl ?_
              refine x_subI (pc' := 106) (wn := fun F' G' => w6 cI cO a (xspl E41 14 7 F') (xspl H41 28 14 G')) K (mX5_richestOak l D cI cO (xsub a 39)) rfl gX6_ahead_X5_richestOak rfl dsX5_richestOak ⟨rfl, rfl, ⟨Nat.le_of_ble_eq_true rfl, Nat.le_of_ble_eq_true rfl⟩, Nat.le_of_ble_eq_true rfl, Nat.le_of_ble_eq_true rfl⟩ h 5 0 rfl rfl (xpl16 cI cO a _ _) (fun F' G' => xpr16 cI cO a _ _ F' G') (st := []) rfl rfl (Nat.le_of_ble_eq_true rfl) dX6_ahead_103 rfl (fun r103 F103 G103 h => ?_)
              obtain ⟨E103, eE103⟩ : ∃ x : xF, x = (xspl E41 14 7 F103) := ⟨_, rfl⟩
              obtain ⟨H103, eH103⟩ : ∃ x : xA, x = (xspl H41 28 14 G103) := ⟨_, rfl⟩
              refine x_weq (w' := w6 cI cO a E103 H103) (by subst eE103; subst eH103; rfl) ?_
              replace h := h E103 eE103
              replace h := h H103 eH103
              exact x_iret (wf := w6 cI cO a) K h dX6_ahead_106
            · exact absurd g46 (by omega)
    · replace h := h.2 c16
      refine x_aload_n (pc' := 20) K dX6_ahead_19 0 rfl rfl ?_
      refine x_iconst (pc' := 21) (v := 1) K dX6_ahead_20 (by decide) rfl ?_
      refine x_callI (pc' := 24) K (mX6_error l D cI cO a _) rfl gX6_ahead_X6_error rfl dsX6_error ⟨rfl, rfl, ⟨Nat.le_of_ble_eq_true rfl, Nat.le_of_ble_eq_true rfl⟩, Nat.le_of_ble_eq_true rfl, Nat.le_of_ble_eq_true rfl⟩ h 6 0 rfl rfl (st := []) rfl rfl (Nat.le_of_ble_eq_true rfl) dX6_ahead_21 rfl (fun r21 F21 G21 h => ?_)
      exact x_iret (wf := w6 cI cO a) K h dX6_ahead_24
/-! X6_bestLeash -/
abbrev rmX6_bestLeash : Room := { frames := 7, cells := 0, slots := 0, locals := 265 }
theorem dsX6_bestLeash : xDesc yX6_bestLeash 1 := by decide +kernel
theorem uX6_bestLeash_f47 : Cond.fieldLink RX6 47 "PigNinths" "best" "[I" ∈ wsX6_bestLeash := nw_in nwl_X6_bestLeash nwe_339 (by decide +kernel)
theorem hinX6_bestLeash_X6 : ∀ w ∈ wsX60, w ∈ wsX6_bestLeash := nw_all nwl_X6_bestLeash nwl_X60 (by decide +kernel)
set_option maxHeartbeats 4000000 in
set_option maxRecDepth 100000 in
theorem mX6_bestLeash (l : Launch) (D : va_G) (cI cO : ClassId) (a : Nat → Nat)  (x1 : Int32) : MI l yX6_bestLeash wsX6_bestLeash rmX6_bestLeash D (xtys cI cO) [.ref (a 0), .int x1] (w6 cI cO a) (qX6_bestLeash x1) := by
  refine MI_of (cc := cX6_bestLeash) (maxL := 2) (own := RX6) (by decide) rfl rfl (Nat.le_of_ble_eq_true rfl) ?_
  intro p e s m args below meth c A F G Q h K
  refine x_locals [0, 1] (L' := [(0, .ref (a 0)), (1, .int _)]) rfl ?_
  refine x_iload_n (pc' := 1) K dX6_bestLeash_0 1 rfl rfl ?_
  refine x_iconst (pc' := 2) (v := 0) K dX6_bestLeash_1 (by decide) rfl ?_
  refine x_iconst (pc' := 3) (v := 4) K dX6_bestLeash_2 (by decide) rfl ?_
  refine x_callS (pc' := 6) K (mX6_within l D cI cO a _ _ _) rfl gX6_bestLeash_X6_within dsX6_within ⟨rfl, rfl, ⟨Nat.le_of_ble_eq_true rfl, Nat.le_of_ble_eq_true rfl⟩, Nat.le_of_ble_eq_true rfl, Nat.le_of_ble_eq_true rfl⟩ h (st := []) rfl rfl (Nat.le_of_ble_eq_true rfl) dX6_bestLeash_3 rfl (fun r3 h => ?_)
  refine x_if_ne (tgt := 15) (pc' := 9) K dX6_bestLeash_6 rfl rfl (fun c6 => ?_) (fun c6 => ?_)
  · replace h := h.1 c6
    refine x_aload_n (pc' := 16) K dX6_bestLeash_15 0 rfl rfl ?_
    refine x_callV (pc' := 19) K (mX6_seekLeash l D cI cO a) rfl gX6_bestLeash_X6_seekLeash rfl dsX6_seekLeash ⟨rfl, rfl, ⟨Nat.le_of_ble_eq_true rfl, Nat.le_of_ble_eq_true rfl⟩, Nat.le_of_ble_eq_true rfl, Nat.le_of_ble_eq_true rfl⟩ h 6 0 rfl rfl (st := []) rfl rfl (Nat.le_of_ble_eq_true rfl) dX6_bestLeash_16 rfl (fun F16 G16 h => ?_)
    refine x_aload_n (pc' := 20) K dX6_bestLeash_19 0 rfl rfl ?_
    refine xw6_0g_best (pc' := 23) K hinX6_bestLeash_X6 uX6_bestLeash_f47 dX6_bestLeash_20 rfl ?_
    refine x_iload_n (pc' := 24) K dX6_bestLeash_23 1 rfl rfl ?_
    obtain ⟨i24, h⟩ := h
    refine xw6_85l (pc' := 25) K i24 rfl dX6_bestLeash_24 rfl ?_
    exact x_iret (wf := w6 cI cO a) K h dX6_bestLeash_25
  · replace h := h.2 c6
    refine x_aload_n (pc' := 10) K dX6_bestLeash_9 0 rfl rfl ?_
    refine x_iconst (pc' := 11) (v := 1) K dX6_bestLeash_10 (by decide) rfl ?_
    refine x_callI (pc' := 14) K (mX6_error l D cI cO a _) rfl gX6_bestLeash_X6_error rfl dsX6_error ⟨rfl, rfl, ⟨Nat.le_of_ble_eq_true rfl, Nat.le_of_ble_eq_true rfl⟩, Nat.le_of_ble_eq_true rfl, Nat.le_of_ble_eq_true rfl⟩ h 6 0 rfl rfl (st := []) rfl rfl (Nat.le_of_ble_eq_true rfl) dX6_bestLeash_11 rfl (fun r11 F11 G11 h => ?_)
    exact x_iret (wf := w6 cI cO a) K h dX6_bestLeash_14
/-! X6_bestFeed -/
abbrev rmX6_bestFeed : Room := { frames := 8, cells := 0, slots := 0, locals := 242 }
theorem dsX6_bestFeed : xDesc yX6_bestFeed 1 := by decide +kernel
theorem uX6_bestFeed_f10 : Cond.fieldLink RX6 10 "PigNinths" "now" "LPigNinths$World;" ∈ wsX6_bestFeed := nw_in nwl_X6_bestFeed nwe_329 (by decide +kernel)
theorem hinX6_bestFeed_X6 : ∀ w ∈ wsX60, w ∈ wsX6_bestFeed := nw_all nwl_X6_bestFeed nwl_X60 (by decide +kernel)
theorem uX6_bestFeed_f41 : Cond.fieldLink RX6 41 "PigNinths" "side" "LPigNinths$World;" ∈ wsX6_bestFeed := nw_in nwl_X6_bestFeed nwe_337 (by decide +kernel)
theorem uX6_bestFeed_f195 : Cond.fieldLink RX6 195 "PigNinths$World" "purse" "[I" ∈ wsX6_bestFeed := nw_in nwl_X6_bestFeed nwe_452 (by decide +kernel)
theorem hinX6_bestFeed_X5 : ∀ w ∈ wsX50, w ∈ wsX6_bestFeed := nw_all nwl_X6_bestFeed nwl_X50 (by decide +kernel)
theorem uX6_bestFeed_m198 : Cond.methodLink RX6 198 Lib.Math.max.name ∈ wsX6_bestFeed := nw_in nwl_X6_bestFeed nwe_453 (by decide +kernel)
theorem uX6_bestFeed_msmax : Cond.static Lib.Math.max.name ∈ wsX6_bestFeed := nw_in nwl_X6_bestFeed nwe_78 (by decide +kernel)
theorem uX6_bestFeed_mi : Cond.initialized "java/lang/Math" ∈ wsX6_bestFeed := nw_in nwl_X6_bestFeed nwe_79 (by decide +kernel)
theorem uX6_bestFeed_mcmax : Cond.code Lib.Math.max.name Lib.Math.max.code 2 (some .int) ∈ wsX6_bestFeed := nw_in nwl_X6_bestFeed nwe_80 (by decide +kernel)
set_option maxHeartbeats 4000000 in
set_option maxRecDepth 100000 in
theorem tX6_bestFeed_37 (K : XK p m c cX6_bestFeed 9 s args wsX6_bestFeed RX6 D (xtys cI cO) A meth (some .int)) {Q : Int32 → xF → xA → Prop} : ∀ (n : Nat), ∀ (x1 : Int32) (x2 : Int32) (x3 : Int32) (x4 : Int32) (x5 : Int32) (x6 : Int32) (x7 : Int32) (F : xF) (G : xA), qX6_bestFeed_37 Q n x1 x2 x3 x4 x5 x6 x7 F G → XJ p l e rmX6_bestFeed s m args below meth c 0 0 (MQ below (xQi D (w6 cI cO a) A Q) args s 0 0 A) D (xtys cI cO) A 9 (w6 cI cO a F G) 37 [(0, .ref (a 0)), (1, .int x1), (2, .int x2), (3, .int x3), (4, .int x4), (5, .int x5), (6, .int x6), (7, .int x7)] [] := by
  intro n
  induction n with
  | zero =>
    intro x1 x2 x3 x4 x5 x6 x7 F G h
    exact False.elim h
  | succ n ih =>
    intro x1 x2 x3 x4 x5 x6 x7 F G h
    refine x_iload (pc' := 39) K dX6_bestFeed_37 7 rfl rfl ?_
    refine x_bipush (pc' := 41) (v := 9) K dX6_bestFeed_39 (by decide) rfl ?_
    refine x_icmp_gt (tgt := 134) (pc' := 44) K dX6_bestFeed_41 rfl rfl (fun c41 => ?_) (fun c41 => ?_)
    · replace h := h.1 c41
      refine x_iload_n (pc' := 135) K dX6_bestFeed_134 1 rfl rfl ?_
      refine x_if_ne (tgt := 140) (pc' := 138) K dX6_bestFeed_135 rfl rfl (fun c135 => ?_) (fun c135 => ?_)
      · replace h := h.1 c135
        refine x_iload_n (pc' := 141) K dX6_bestFeed_140 1 rfl rfl ?_
        refine x_iconst (pc' := 142) (v := 1) K dX6_bestFeed_141 (by decide) rfl ?_
        refine x_icmp_ne (tgt := 150) (pc' := 145) K dX6_bestFeed_142 rfl rfl (fun c142 => ?_) (fun c142 => ?_)
        · replace h := h.1 c142
          refine x_iload (pc' := 152) K dX6_bestFeed_150 6 rfl rfl ?_
          refine x_iload (pc' := 154) K dX6_bestFeed_152 5 rfl rfl ?_
          refine x_isub (pc' := 155) K dX6_bestFeed_154 rfl ?_
          exact x_iret (wf := w6 cI cO a) K h dX6_bestFeed_155
        · replace h := h.2 c142
          refine x_iload (pc' := 147) K dX6_bestFeed_145 4 rfl rfl ?_
          refine x_goto (tgt := 155) K dX6_bestFeed_147 rfl ?_
          exact x_iret (wf := w6 cI cO a) K h dX6_bestFeed_155
      · replace h := h.2 c135
        refine x_iload_n (pc' := 139) K dX6_bestFeed_138 3 rfl rfl ?_
        exact x_iret (wf := w6 cI cO a) K h dX6_bestFeed_139
    · replace h := h.2 c41
      refine x_aload_n (pc' := 45) K dX6_bestFeed_44 0 rfl rfl ?_
      refine xw6_0g_side (pc' := 48) K hinX6_bestFeed_X6 uX6_bestFeed_f41 dX6_bestFeed_45 rfl ?_
      refine x_aload_n (pc' := 49) K dX6_bestFeed_48 0 rfl rfl ?_
      refine xw6_0g_now (pc' := 52) K hinX6_bestFeed_X6 uX6_bestFeed_f10 dX6_bestFeed_49 rfl ?_
      refine x_subV (pc' := 55) (wn := fun F' G' => w6 cI cO a (xspl (xspl F 14 7 F') 0 7 (xsub F' 7)) (xspl (xspl G 28 14 G') 0 14 (xsub G' 14))) K (mX5_takeFrom l D cI cO (xcat 19 (xsub a 39) (xsub a 1))) rfl gX6_bestFeed_X5_takeFrom rfl dsX5_takeFrom ⟨rfl, rfl, ⟨Nat.le_of_ble_eq_true rfl, Nat.le_of_ble_eq_true rfl⟩, Nat.le_of_ble_eq_true rfl, Nat.le_of_ble_eq_true rfl⟩ h 5 0 rfl rfl (xpl15 cI cO a _ _) (fun F' G' => xpr15 cI cO a _ _ F' G') (st := []) rfl rfl (Nat.le_of_ble_eq_true rfl) dX6_bestFeed_52 rfl (fun F52 G52 h => ?_)
      obtain ⟨E52, eE52⟩ : ∃ x : xF, x = (xspl (xspl F 14 7 F52) 0 7 (xsub F52 7)) := ⟨_, rfl⟩
      obtain ⟨H52, eH52⟩ : ∃ x : xA, x = (xspl (xspl G 28 14 G52) 0 14 (xsub G52 14)) := ⟨_, rfl⟩
      refine x_weq (w' := w6 cI cO a E52 H52) (by subst eE52; subst eH52; rfl) ?_
      replace h := h E52 eE52
      replace h := h H52 eH52
      refine x_aload_n (pc' := 56) K dX6_bestFeed_55 0 rfl rfl ?_
      refine xw6_0g_side (pc' := 59) K hinX6_bestFeed_X6 uX6_bestFeed_f41 dX6_bestFeed_56 rfl ?_
      refine x_iload (pc' := 61) K dX6_bestFeed_59 7 rfl rfl ?_
      refine x_subI (pc' := 64) (wn := fun F' G' => w6 cI cO a (xspl E52 14 7 F') (xspl H52 28 14 G')) K (mX5_oneDay l D cI cO (xsub a 39) _) rfl gX6_bestFeed_X5_oneDay rfl dsX5_oneDay ⟨rfl, rfl, ⟨Nat.le_of_ble_eq_true rfl, Nat.le_of_ble_eq_true rfl⟩, Nat.le_of_ble_eq_true rfl, Nat.le_of_ble_eq_true rfl⟩ h 5 0 rfl rfl (xpl16 cI cO a _ _) (fun F' G' => xpr16 cI cO a _ _ F' G') (st := []) rfl rfl (Nat.le_of_ble_eq_true rfl) dX6_bestFeed_61 rfl (fun r61 F61 G61 h => ?_)
      obtain ⟨E61, eE61⟩ : ∃ x : xF, x = (xspl E52 14 7 F61) := ⟨_, rfl⟩
      obtain ⟨H61, eH61⟩ : ∃ x : xA, x = (xspl H52 28 14 G61) := ⟨_, rfl⟩
      refine x_weq (w' := w6 cI cO a E61 H61) (by subst eE61; subst eH61; rfl) ?_
      replace h := h E61 eE61
      replace h := h H61 eH61
      refine x_pop (pc' := 65) K dX6_bestFeed_64 rfl rfl ?_
      refine x_aload_n (pc' := 66) K dX6_bestFeed_65 0 rfl rfl ?_
      refine xw6_0g_side (pc' := 69) K hinX6_bestFeed_X6 uX6_bestFeed_f41 dX6_bestFeed_66 rfl ?_
      refine x_bipush (pc' := 71) (v := 9) K dX6_bestFeed_69 (by decide) rfl ?_
      refine x_subI (pc' := 74) (wn := fun F' G' => w6 cI cO a (xspl E61 14 7 F') (xspl H61 28 14 G')) K (mX5_goOn l D cI cO (xsub a 39) _) rfl gX6_bestFeed_X5_goOn rfl dsX5_goOn ⟨rfl, rfl, ⟨Nat.le_of_ble_eq_true rfl, Nat.le_of_ble_eq_true rfl⟩, Nat.le_of_ble_eq_true rfl, Nat.le_of_ble_eq_true rfl⟩ h 5 0 rfl rfl (xpl16 cI cO a _ _) (fun F' G' => xpr16 cI cO a _ _ F' G') (st := []) rfl rfl (Nat.le_of_ble_eq_true rfl) dX6_bestFeed_71 rfl (fun r71 F71 G71 h => ?_)
      obtain ⟨E71, eE71⟩ : ∃ x : xF, x = (xspl E61 14 7 F71) := ⟨_, rfl⟩
      obtain ⟨H71, eH71⟩ : ∃ x : xA, x = (xspl H61 28 14 G71) := ⟨_, rfl⟩
      refine x_weq (w' := w6 cI cO a E71 H71) (by subst eE71; subst eH71; rfl) ?_
      replace h := h E71 eE71
      replace h := h H71 eH71
      refine x_pop (pc' := 75) K dX6_bestFeed_74 rfl rfl ?_
      refine x_aload_n (pc' := 76) K dX6_bestFeed_75 0 rfl rfl ?_
      refine xw6_0g_side (pc' := 79) K hinX6_bestFeed_X6 uX6_bestFeed_f41 dX6_bestFeed_76 rfl ?_
      refine xw6_39g_purse (pc' := 82) K hinX6_bestFeed_X5 uX6_bestFeed_f195 dX6_bestFeed_79 rfl ?_
      refine x_subIS (pc' := 85) (wn := fun F' G' => w6 cI cO a (xspl E71 14 7 F') (xspl H71 28 14 G')) K (mX6_sum_5 l D cI cO (xsub a 39)) rfl gX6_bestFeed_X6_sum dsX6_sum ⟨rfl, rfl, ⟨Nat.le_of_ble_eq_true rfl, Nat.le_of_ble_eq_true rfl⟩, Nat.le_of_ble_eq_true rfl, Nat.le_of_ble_eq_true rfl⟩ h (xpl16 cI cO a _ _) (fun F' G' => xpr16 cI cO a _ _ F' G') (st := []) rfl rfl (Nat.le_of_ble_eq_true rfl) dX6_bestFeed_82 rfl (fun r82 F82 G82 h => ?_)
      obtain ⟨E82, eE82⟩ : ∃ x : xF, x = (xspl E71 14 7 F82) := ⟨_, rfl⟩
      obtain ⟨H82, eH82⟩ : ∃ x : xA, x = (xspl H71 28 14 G82) := ⟨_, rfl⟩
      refine x_weq (w' := w6 cI cO a E82 H82) (by subst eE82; subst eH82; rfl) ?_
      replace h := h E82 eE82
      replace h := h H82 eH82
      refine x_istore (pc' := 87) (i := 8) K dX6_bestFeed_85 (by decide) [1, 2, 3, 4, 5, 6, 7, 8, 0] (L' := [(0, .ref (a 0)), (1, .int _), (2, .int _), (3, .int _), (4, .int _), (5, .int _), (6, .int _), (7, .int _), (8, .int _)]) rfl rfl ?_
      refine x_iload (pc' := 89) K dX6_bestFeed_87 6 rfl rfl ?_
      refine x_iload (pc' := 91) K dX6_bestFeed_89 8 rfl rfl ?_
      refine x_mmax (pc' := 94) K uX6_bestFeed_m198 uX6_bestFeed_msmax uX6_bestFeed_mi uX6_bestFeed_mcmax (Nat.le_of_ble_eq_true rfl) (Nat.le_of_ble_eq_true rfl) (Nat.le_of_ble_eq_true rfl) (Nat.le_of_ble_eq_true rfl) dX6_bestFeed_91 rfl ?_
      refine x_istore (pc' := 96) (i := 6) K dX6_bestFeed_94 (by decide) [1, 2, 3, 4, 5, 6, 0, 7, 8] (L' := [(0, .ref (a 0)), (1, .int _), (2, .int _), (3, .int _), (4, .int _), (5, .int _), (6, .int _), (7, .int _), (8, .int _)]) rfl rfl ?_
      refine x_aload_n (pc' := 97) K dX6_bestFeed_96 0 rfl rfl ?_
      refine xw6_0g_side (pc' := 100) K hinX6_bestFeed_X6 uX6_bestFeed_f41 dX6_bestFeed_97 rfl ?_
      refine xw6_39g_purse (pc' := 103) K hinX6_bestFeed_X5 uX6_bestFeed_f195 dX6_bestFeed_100 rfl ?_
      refine x_iload_n (pc' := 104) K dX6_bestFeed_103 2 rfl rfl ?_
      obtain ⟨i104, h⟩ := h
      refine xw6_44l (pc' := 105) K i104 rfl dX6_bestFeed_104 rfl ?_
      refine x_iload (pc' := 107) K dX6_bestFeed_105 4 rfl rfl ?_
      refine x_icmp_le (tgt := 128) (pc' := 110) K dX6_bestFeed_107 rfl rfl (fun c107 => ?_) (fun c107 => ?_)
      · replace h := h.1 c107
        refine x_iinc (pc' := 131) (v := _ + (1 : Int32)) K dX6_bestFeed_128 7 rfl rfl (by decide) [1, 2, 3, 4, 5, 6, 7, 0, 8] (L' := [(0, .ref (a 0)), (1, .int _), (2, .int _), (3, .int _), (4, .int _), (5, .int _), (6, .int _), (7, .int _), (8, .int _)]) rfl rfl ?_
        refine x_goto (tgt := 37) K dX6_bestFeed_131 rfl ?_
        refine x_locals [0, 1, 2, 3, 4, 5, 6, 7] (L' := [(0, .ref (a 0)), (1, .int _), (2, .int _), (3, .int _), (4, .int _), (5, .int _), (6, .int _), (7, .int _)]) rfl ?_
        exact ih _ _ _ _ _ _ _ _ _ h
      · replace h := h.2 c107
        refine x_iload (pc' := 112) K dX6_bestFeed_110 7 rfl rfl ?_
        refine x_istore_n (pc' := 113) (i := 3) K dX6_bestFeed_112 rfl (by decide) [1, 2, 3, 0, 4, 5, 6, 7, 8] (L' := [(0, .ref (a 0)), (1, .int _), (2, .int _), (3, .int _), (4, .int _), (5, .int _), (6, .int _), (7, .int _), (8, .int _)]) rfl rfl ?_
        refine x_aload_n (pc' := 114) K dX6_bestFeed_113 0 rfl rfl ?_
        refine xw6_0g_side (pc' := 117) K hinX6_bestFeed_X6 uX6_bestFeed_f41 dX6_bestFeed_114 rfl ?_
        refine xw6_39g_purse (pc' := 120) K hinX6_bestFeed_X5 uX6_bestFeed_f195 dX6_bestFeed_117 rfl ?_
        refine x_iload_n (pc' := 121) K dX6_bestFeed_120 2 rfl rfl ?_
        obtain ⟨i121, h⟩ := h
        refine xw6_44l (pc' := 122) K i121 rfl dX6_bestFeed_121 rfl ?_
        refine x_istore (pc' := 124) (i := 4) K dX6_bestFeed_122 (by decide) [1, 2, 3, 4, 0, 5, 6, 7, 8] (L' := [(0, .ref (a 0)), (1, .int _), (2, .int _), (3, .int _), (4, .int _), (5, .int _), (6, .int _), (7, .int _), (8, .int _)]) rfl rfl ?_
        refine x_iload (pc' := 126) K dX6_bestFeed_124 8 rfl rfl ?_
        refine x_istore (pc' := 128) (i := 5) K dX6_bestFeed_126 (by decide) [1, 2, 3, 4, 5, 0, 6, 7, 8] (L' := [(0, .ref (a 0)), (1, .int _), (2, .int _), (3, .int _), (4, .int _), (5, .int _), (6, .int _), (7, .int _), (8, .int _)]) rfl rfl ?_
        refine x_iinc (pc' := 131) (v := _ + (1 : Int32)) K dX6_bestFeed_128 7 rfl rfl (by decide) [1, 2, 3, 4, 5, 6, 7, 0, 8] (L' := [(0, .ref (a 0)), (1, .int _), (2, .int _), (3, .int _), (4, .int _), (5, .int _), (6, .int _), (7, .int _), (8, .int _)]) rfl rfl ?_
        refine x_goto (tgt := 37) K dX6_bestFeed_131 rfl ?_
        refine x_locals [0, 1, 2, 3, 4, 5, 6, 7] (L' := [(0, .ref (a 0)), (1, .int _), (2, .int _), (3, .int _), (4, .int _), (5, .int _), (6, .int _), (7, .int _)]) rfl ?_
        exact ih _ _ _ _ _ _ _ _ _ h
set_option maxHeartbeats 4000000 in
set_option maxRecDepth 100000 in
theorem mX6_bestFeed (l : Launch) (D : va_G) (cI cO : ClassId) (a : Nat → Nat)  (x1 : Int32) : MI l yX6_bestFeed wsX6_bestFeed rmX6_bestFeed D (xtys cI cO) [.ref (a 0), .int x1] (w6 cI cO a) (qX6_bestFeed x1) := by
  refine MI_of (cc := cX6_bestFeed) (maxL := 9) (own := RX6) (by decide) rfl rfl (Nat.le_of_ble_eq_true rfl) ?_
  intro p e s m args below meth c A F G Q h K
  refine x_locals [0, 1] (L' := [(0, .ref (a 0)), (1, .int _)]) rfl ?_
  refine x_iload_n (pc' := 1) K dX6_bestFeed_0 1 rfl rfl ?_
  refine x_iconst (pc' := 2) (v := 0) K dX6_bestFeed_1 (by decide) rfl ?_
  refine x_iconst (pc' := 3) (v := 2) K dX6_bestFeed_2 (by decide) rfl ?_
  refine x_callS (pc' := 6) K (mX6_within l D cI cO a _ _ _) rfl gX6_bestFeed_X6_within dsX6_within ⟨rfl, rfl, ⟨Nat.le_of_ble_eq_true rfl, Nat.le_of_ble_eq_true rfl⟩, Nat.le_of_ble_eq_true rfl, Nat.le_of_ble_eq_true rfl⟩ h (st := []) rfl rfl (Nat.le_of_ble_eq_true rfl) dX6_bestFeed_3 rfl (fun r3 h => ?_)
  refine x_if_ne (tgt := 15) (pc' := 9) K dX6_bestFeed_6 rfl rfl (fun c6 => ?_) (fun c6 => ?_)
  · replace h := h.1 c6
    refine x_aload_n (pc' := 16) K dX6_bestFeed_15 0 rfl rfl ?_
    refine xw6_0g_now (pc' := 19) K hinX6_bestFeed_X6 uX6_bestFeed_f10 dX6_bestFeed_16 rfl ?_
    refine x_subI (pc' := 22) (wn := fun F' G' => w6 cI cO a (xspl F 0 7 F') (xspl G 0 14 G')) K (mX5_whoHasIt l D cI cO (xsub a 1)) rfl gX6_bestFeed_X5_whoHasIt rfl dsX5_whoHasIt ⟨rfl, rfl, ⟨Nat.le_of_ble_eq_true rfl, Nat.le_of_ble_eq_true rfl⟩, Nat.le_of_ble_eq_true rfl, Nat.le_of_ble_eq_true rfl⟩ h 5 0 rfl rfl (xpl24 cI cO a _ _) (fun F' G' => xpr24 cI cO a _ _ F' G') (st := []) rfl rfl (Nat.le_of_ble_eq_true rfl) dX6_bestFeed_19 rfl (fun r19 F19 G19 h => ?_)
    obtain ⟨E19, eE19⟩ : ∃ x : xF, x = (xspl F 0 7 F19) := ⟨_, rfl⟩
    obtain ⟨H19, eH19⟩ : ∃ x : xA, x = (xspl G 0 14 G19) := ⟨_, rfl⟩
    refine x_weq (w' := w6 cI cO a E19 H19) (by subst eE19; subst eH19; rfl) ?_
    replace h := h E19 eE19
    replace h := h H19 eH19
    refine x_istore_n (pc' := 23) (i := 2) K dX6_bestFeed_22 rfl (by decide) [1, 2, 0] (L' := [(0, .ref (a 0)), (1, .int _), (2, .int _)]) rfl rfl ?_
    refine x_iconst (pc' := 24) (v := 0) K dX6_bestFeed_23 (by decide) rfl ?_
    refine x_istore_n (pc' := 25) (i := 3) K dX6_bestFeed_24 rfl (by decide) [1, 2, 3, 0] (L' := [(0, .ref (a 0)), (1, .int _), (2, .int _), (3, .int _)]) rfl rfl ?_
    refine x_iconst (pc' := 26) (v := -1) K dX6_bestFeed_25 (by decide) rfl ?_
    refine x_istore (pc' := 28) (i := 4) K dX6_bestFeed_26 (by decide) [1, 2, 3, 4, 0] (L' := [(0, .ref (a 0)), (1, .int _), (2, .int _), (3, .int _), (4, .int _)]) rfl rfl ?_
    refine x_iconst (pc' := 29) (v := 0) K dX6_bestFeed_28 (by decide) rfl ?_
    refine x_istore (pc' := 31) (i := 5) K dX6_bestFeed_29 (by decide) [1, 2, 3, 4, 5, 0] (L' := [(0, .ref (a 0)), (1, .int _), (2, .int _), (3, .int _), (4, .int _), (5, .int _)]) rfl rfl ?_
    refine x_iconst (pc' := 32) (v := 0) K dX6_bestFeed_31 (by decide) rfl ?_
    refine x_istore (pc' := 34) (i := 6) K dX6_bestFeed_32 (by decide) [1, 2, 3, 4, 5, 6, 0] (L' := [(0, .ref (a 0)), (1, .int _), (2, .int _), (3, .int _), (4, .int _), (5, .int _), (6, .int _)]) rfl rfl ?_
    refine x_iconst (pc' := 35) (v := 0) K dX6_bestFeed_34 (by decide) rfl ?_
    refine x_istore (pc' := 37) (i := 7) K dX6_bestFeed_35 (by decide) [1, 2, 3, 4, 5, 6, 7, 0] (L' := [(0, .ref (a 0)), (1, .int _), (2, .int _), (3, .int _), (4, .int _), (5, .int _), (6, .int _), (7, .int _)]) rfl rfl ?_
    obtain ⟨n37, h⟩ := h
    exact tX6_bestFeed_37 K n37 _ _ _ _ _ _ _ _ _ h
  · replace h := h.2 c6
    refine x_aload_n (pc' := 10) K dX6_bestFeed_9 0 rfl rfl ?_
    refine x_iconst (pc' := 11) (v := 1) K dX6_bestFeed_10 (by decide) rfl ?_
    refine x_callI (pc' := 14) K (mX6_error l D cI cO a _) rfl gX6_bestFeed_X6_error rfl dsX6_error ⟨rfl, rfl, ⟨Nat.le_of_ble_eq_true rfl, Nat.le_of_ble_eq_true rfl⟩, Nat.le_of_ble_eq_true rfl, Nat.le_of_ble_eq_true rfl⟩ h 6 0 rfl rfl (st := []) rfl rfl (Nat.le_of_ble_eq_true rfl) dX6_bestFeed_11 rfl (fun r11 F11 G11 h => ?_)
    exact x_iret (wf := w6 cI cO a) K h dX6_bestFeed_14
/-! X6_gain -/
abbrev rmX6_gain : Room := { frames := 8, cells := 0, slots := 0, locals := 242 }
theorem dsX6_gain : xDesc yX6_gain 2 := by decide +kernel
theorem uX6_gain_f41 : Cond.fieldLink RX6 41 "PigNinths" "side" "LPigNinths$World;" ∈ wsX6_gain := nw_in nwl_X6_gain nwe_337 (by decide +kernel)
theorem hinX6_gain_X6 : ∀ w ∈ wsX60, w ∈ wsX6_gain := nw_all nwl_X6_gain nwl_X60 (by decide +kernel)
theorem uX6_gain_f10 : Cond.fieldLink RX6 10 "PigNinths" "now" "LPigNinths$World;" ∈ wsX6_gain := nw_in nwl_X6_gain nwe_329 (by decide +kernel)
theorem uX6_gain_f44 : Cond.fieldLink RX6 44 "PigNinths" "trial" "LPigNinths$World;" ∈ wsX6_gain := nw_in nwl_X6_gain nwe_338 (by decide +kernel)
theorem uX6_gain_f195 : Cond.fieldLink RX6 195 "PigNinths$World" "purse" "[I" ∈ wsX6_gain := nw_in nwl_X6_gain nwe_452 (by decide +kernel)
theorem hinX6_gain_X5 : ∀ w ∈ wsX50, w ∈ wsX6_gain := nw_all nwl_X6_gain nwl_X50 (by decide +kernel)
set_option maxHeartbeats 4000000 in
set_option maxRecDepth 100000 in
theorem mX6_gain (l : Launch) (D : va_G) (cI cO : ClassId) (a : Nat → Nat)  (x1 : Int32) (x2 : Int32) : MI l yX6_gain wsX6_gain rmX6_gain D (xtys cI cO) [.ref (a 0), .int x1, .int x2] (w6 cI cO a) (qX6_gain x1 x2) := by
  refine MI_of (cc := cX6_gain) (maxL := 3) (own := RX6) (by decide) rfl rfl (Nat.le_of_ble_eq_true rfl) ?_
  intro p e s m args below meth c A F G Q h K
  refine x_locals [0, 1, 2] (L' := [(0, .ref (a 0)), (1, .int _), (2, .int _)]) rfl ?_
  refine x_iload_n (pc' := 1) K dX6_gain_0 1 rfl rfl ?_
  refine x_callS (pc' := 4) K (mX6_isFarmer l D cI cO a _) rfl gX6_gain_X6_isFarmer dsX6_isFarmer ⟨rfl, rfl, ⟨Nat.le_of_ble_eq_true rfl, Nat.le_of_ble_eq_true rfl⟩, Nat.le_of_ble_eq_true rfl, Nat.le_of_ble_eq_true rfl⟩ h (st := []) rfl rfl (Nat.le_of_ble_eq_true rfl) dX6_gain_1 rfl (fun r1 h => ?_)
  refine x_if_eq (tgt := 19) (pc' := 7) K dX6_gain_4 rfl rfl (fun c4 => ?_) (fun c4 => ?_)
  · replace h := h.1 c4
    refine x_aload_n (pc' := 20) K dX6_gain_19 0 rfl rfl ?_
    refine x_iconst (pc' := 21) (v := 1) K dX6_gain_20 (by decide) rfl ?_
    refine x_callI (pc' := 24) K (mX6_error l D cI cO a _) rfl gX6_gain_X6_error rfl dsX6_error ⟨rfl, rfl, ⟨Nat.le_of_ble_eq_true rfl, Nat.le_of_ble_eq_true rfl⟩, Nat.le_of_ble_eq_true rfl, Nat.le_of_ble_eq_true rfl⟩ h 6 0 rfl rfl (st := []) rfl rfl (Nat.le_of_ble_eq_true rfl) dX6_gain_21 rfl (fun r21 F21 G21 h => ?_)
    exact x_iret (wf := w6 cI cO a) K h dX6_gain_24
  · replace h := h.2 c4
    refine x_iload_n (pc' := 8) K dX6_gain_7 2 rfl rfl ?_
    refine x_callS (pc' := 11) K (mX6_isFarmer l D cI cO a _) rfl gX6_gain_X6_isFarmer dsX6_isFarmer ⟨rfl, rfl, ⟨Nat.le_of_ble_eq_true rfl, Nat.le_of_ble_eq_true rfl⟩, Nat.le_of_ble_eq_true rfl, Nat.le_of_ble_eq_true rfl⟩ h (st := []) rfl rfl (Nat.le_of_ble_eq_true rfl) dX6_gain_8 rfl (fun r8 h => ?_)
    refine x_if_eq (tgt := 19) (pc' := 14) K dX6_gain_11 rfl rfl (fun c11 => ?_) (fun c11 => ?_)
    · replace h := h.1 c11
      refine x_aload_n (pc' := 20) K dX6_gain_19 0 rfl rfl ?_
      refine x_iconst (pc' := 21) (v := 1) K dX6_gain_20 (by decide) rfl ?_
      refine x_callI (pc' := 24) K (mX6_error l D cI cO a _) rfl gX6_gain_X6_error rfl dsX6_error ⟨rfl, rfl, ⟨Nat.le_of_ble_eq_true rfl, Nat.le_of_ble_eq_true rfl⟩, Nat.le_of_ble_eq_true rfl, Nat.le_of_ble_eq_true rfl⟩ h 6 0 rfl rfl (st := []) rfl rfl (Nat.le_of_ble_eq_true rfl) dX6_gain_21 rfl (fun r21 F21 G21 h => ?_)
      exact x_iret (wf := w6 cI cO a) K h dX6_gain_24
    · replace h := h.2 c11
      refine x_iload_n (pc' := 15) K dX6_gain_14 1 rfl rfl ?_
      refine x_iload_n (pc' := 16) K dX6_gain_15 2 rfl rfl ?_
      refine x_icmp_ne (tgt := 25) (pc' := 19) K dX6_gain_16 rfl rfl (fun c16 => ?_) (fun c16 => ?_)
      · replace h := h.1 c16
        refine x_aload_n (pc' := 26) K dX6_gain_25 0 rfl rfl ?_
        refine xw6_0g_side (pc' := 29) K hinX6_gain_X6 uX6_gain_f41 dX6_gain_26 rfl ?_
        refine x_aload_n (pc' := 30) K dX6_gain_29 0 rfl rfl ?_
        refine xw6_0g_now (pc' := 33) K hinX6_gain_X6 uX6_gain_f10 dX6_gain_30 rfl ?_
        refine x_subV (pc' := 36) (wn := fun F' G' => w6 cI cO a (xspl (xspl F 14 7 F') 0 7 (xsub F' 7)) (xspl (xspl G 28 14 G') 0 14 (xsub G' 14))) K (mX5_takeFrom l D cI cO (xcat 19 (xsub a 39) (xsub a 1))) rfl gX6_gain_X5_takeFrom rfl dsX5_takeFrom ⟨rfl, rfl, ⟨Nat.le_of_ble_eq_true rfl, Nat.le_of_ble_eq_true rfl⟩, Nat.le_of_ble_eq_true rfl, Nat.le_of_ble_eq_true rfl⟩ h 5 0 rfl rfl (xpl15 cI cO a _ _) (fun F' G' => xpr15 cI cO a _ _ F' G') (st := []) rfl rfl (Nat.le_of_ble_eq_true rfl) dX6_gain_33 rfl (fun F33 G33 h => ?_)
        obtain ⟨E33, eE33⟩ : ∃ x : xF, x = (xspl (xspl F 14 7 F33) 0 7 (xsub F33 7)) := ⟨_, rfl⟩
        obtain ⟨H33, eH33⟩ : ∃ x : xA, x = (xspl (xspl G 28 14 G33) 0 14 (xsub G33 14)) := ⟨_, rfl⟩
        refine x_weq (w' := w6 cI cO a E33 H33) (by subst eE33; subst eH33; rfl) ?_
        replace h := h E33 eE33
        replace h := h H33 eH33
        refine x_aload_n (pc' := 37) K dX6_gain_36 0 rfl rfl ?_
        refine xw6_0g_side (pc' := 40) K hinX6_gain_X6 uX6_gain_f41 dX6_gain_37 rfl ?_
        refine x_bipush (pc' := 42) (v := 18) K dX6_gain_40 (by decide) rfl ?_
        refine x_subI (pc' := 45) (wn := fun F' G' => w6 cI cO a (xspl E33 14 7 F') (xspl H33 28 14 G')) K (mX5_goOn l D cI cO (xsub a 39) _) rfl gX6_gain_X5_goOn rfl dsX5_goOn ⟨rfl, rfl, ⟨Nat.le_of_ble_eq_true rfl, Nat.le_of_ble_eq_true rfl⟩, Nat.le_of_ble_eq_true rfl, Nat.le_of_ble_eq_true rfl⟩ h 5 0 rfl rfl (xpl16 cI cO a _ _) (fun F' G' => xpr16 cI cO a _ _ F' G') (st := []) rfl rfl (Nat.le_of_ble_eq_true rfl) dX6_gain_42 rfl (fun r42 F42 G42 h => ?_)
        obtain ⟨E42, eE42⟩ : ∃ x : xF, x = (xspl E33 14 7 F42) := ⟨_, rfl⟩
        obtain ⟨H42, eH42⟩ : ∃ x : xA, x = (xspl H33 28 14 G42) := ⟨_, rfl⟩
        refine x_weq (w' := w6 cI cO a E42 H42) (by subst eE42; subst eH42; rfl) ?_
        replace h := h E42 eE42
        replace h := h H42 eH42
        refine x_pop (pc' := 46) K dX6_gain_45 rfl rfl ?_
        refine x_aload_n (pc' := 47) K dX6_gain_46 0 rfl rfl ?_
        refine xw6_0g_trial (pc' := 50) K hinX6_gain_X6 uX6_gain_f44 dX6_gain_47 rfl ?_
        refine x_aload_n (pc' := 51) K dX6_gain_50 0 rfl rfl ?_
        refine xw6_0g_now (pc' := 54) K hinX6_gain_X6 uX6_gain_f10 dX6_gain_51 rfl ?_
        refine x_subV (pc' := 57) (wn := fun F' G' => w6 cI cO a (xspl (xspl E42 21 7 F') 0 7 (xsub F' 7)) (xspl (xspl H42 42 14 G') 0 14 (xsub G' 14))) K (mX5_takeFrom l D cI cO (xcat 19 (xsub a 58) (xsub a 1))) rfl gX6_gain_X5_takeFrom rfl dsX5_takeFrom ⟨rfl, rfl, ⟨Nat.le_of_ble_eq_true rfl, Nat.le_of_ble_eq_true rfl⟩, Nat.le_of_ble_eq_true rfl, Nat.le_of_ble_eq_true rfl⟩ h 5 0 rfl rfl (xpl19 cI cO a _ _) (fun F' G' => xpr19 cI cO a _ _ F' G') (st := []) rfl rfl (Nat.le_of_ble_eq_true rfl) dX6_gain_54 rfl (fun F54 G54 h => ?_)
        obtain ⟨E54, eE54⟩ : ∃ x : xF, x = (xspl (xspl E42 21 7 F54) 0 7 (xsub F54 7)) := ⟨_, rfl⟩
        obtain ⟨H54, eH54⟩ : ∃ x : xA, x = (xspl (xspl H42 42 14 G54) 0 14 (xsub G54 14)) := ⟨_, rfl⟩
        refine x_weq (w' := w6 cI cO a E54 H54) (by subst eE54; subst eH54; rfl) ?_
        replace h := h E54 eE54
        replace h := h H54 eH54
        refine x_aload_n (pc' := 58) K dX6_gain_57 0 rfl rfl ?_
        refine xw6_0g_trial (pc' := 61) K hinX6_gain_X6 uX6_gain_f44 dX6_gain_58 rfl ?_
        refine x_iload_n (pc' := 62) K dX6_gain_61 1 rfl rfl ?_
        refine x_iload_n (pc' := 63) K dX6_gain_62 2 rfl rfl ?_
        refine x_subV (pc' := 66) (wn := fun F' G' => w6 cI cO a (xspl E54 21 7 F') (xspl H54 42 14 G')) K (mX5_changeTurns l D cI cO (xsub a 58) _ _) rfl gX6_gain_X5_changeTurns rfl dsX5_changeTurns ⟨rfl, rfl, ⟨Nat.le_of_ble_eq_true rfl, Nat.le_of_ble_eq_true rfl⟩, Nat.le_of_ble_eq_true rfl, Nat.le_of_ble_eq_true rfl⟩ h 5 0 rfl rfl (xpl18 cI cO a _ _) (fun F' G' => xpr18 cI cO a _ _ F' G') (st := []) rfl rfl (Nat.le_of_ble_eq_true rfl) dX6_gain_63 rfl (fun F63 G63 h => ?_)
        obtain ⟨E63, eE63⟩ : ∃ x : xF, x = (xspl E54 21 7 F63) := ⟨_, rfl⟩
        obtain ⟨H63, eH63⟩ : ∃ x : xA, x = (xspl H54 42 14 G63) := ⟨_, rfl⟩
        refine x_weq (w' := w6 cI cO a E63 H63) (by subst eE63; subst eH63; rfl) ?_
        replace h := h E63 eE63
        replace h := h H63 eH63
        refine x_aload_n (pc' := 67) K dX6_gain_66 0 rfl rfl ?_
        refine xw6_0g_trial (pc' := 70) K hinX6_gain_X6 uX6_gain_f44 dX6_gain_67 rfl ?_
        refine x_bipush (pc' := 72) (v := 18) K dX6_gain_70 (by decide) rfl ?_
        refine x_subI (pc' := 75) (wn := fun F' G' => w6 cI cO a (xspl E63 21 7 F') (xspl H63 42 14 G')) K (mX5_goOn l D cI cO (xsub a 58) _) rfl gX6_gain_X5_goOn rfl dsX5_goOn ⟨rfl, rfl, ⟨Nat.le_of_ble_eq_true rfl, Nat.le_of_ble_eq_true rfl⟩, Nat.le_of_ble_eq_true rfl, Nat.le_of_ble_eq_true rfl⟩ h 5 0 rfl rfl (xpl18 cI cO a _ _) (fun F' G' => xpr18 cI cO a _ _ F' G') (st := []) rfl rfl (Nat.le_of_ble_eq_true rfl) dX6_gain_72 rfl (fun r72 F72 G72 h => ?_)
        obtain ⟨E72, eE72⟩ : ∃ x : xF, x = (xspl E63 21 7 F72) := ⟨_, rfl⟩
        obtain ⟨H72, eH72⟩ : ∃ x : xA, x = (xspl H63 42 14 G72) := ⟨_, rfl⟩
        refine x_weq (w' := w6 cI cO a E72 H72) (by subst eE72; subst eH72; rfl) ?_
        replace h := h E72 eE72
        replace h := h H72 eH72
        refine x_pop (pc' := 76) K dX6_gain_75 rfl rfl ?_
        refine x_aload_n (pc' := 77) K dX6_gain_76 0 rfl rfl ?_
        refine xw6_0g_trial (pc' := 80) K hinX6_gain_X6 uX6_gain_f44 dX6_gain_77 rfl ?_
        refine xw6_58g_purse (pc' := 83) K hinX6_gain_X5 uX6_gain_f195 dX6_gain_80 rfl ?_
        refine x_iload_n (pc' := 84) K dX6_gain_83 1 rfl rfl ?_
        obtain ⟨i84, h⟩ := h
        refine xw6_63l (pc' := 85) K i84 rfl dX6_gain_84 rfl ?_
        refine x_aload_n (pc' := 86) K dX6_gain_85 0 rfl rfl ?_
        refine xw6_0g_side (pc' := 89) K hinX6_gain_X6 uX6_gain_f41 dX6_gain_86 rfl ?_
        refine xw6_39g_purse (pc' := 92) K hinX6_gain_X5 uX6_gain_f195 dX6_gain_89 rfl ?_
        refine x_iload_n (pc' := 93) K dX6_gain_92 1 rfl rfl ?_
        obtain ⟨i93, h⟩ := h
        refine xw6_44l (pc' := 94) K i93 rfl dX6_gain_93 rfl ?_
        refine x_isub (pc' := 95) K dX6_gain_94 rfl ?_
        exact x_iret (wf := w6 cI cO a) K h dX6_gain_95
      · replace h := h.2 c16
        refine x_aload_n (pc' := 20) K dX6_gain_19 0 rfl rfl ?_
        refine x_iconst (pc' := 21) (v := 1) K dX6_gain_20 (by decide) rfl ?_
        refine x_callI (pc' := 24) K (mX6_error l D cI cO a _) rfl gX6_gain_X6_error rfl dsX6_error ⟨rfl, rfl, ⟨Nat.le_of_ble_eq_true rfl, Nat.le_of_ble_eq_true rfl⟩, Nat.le_of_ble_eq_true rfl, Nat.le_of_ble_eq_true rfl⟩ h 6 0 rfl rfl (st := []) rfl rfl (Nat.le_of_ble_eq_true rfl) dX6_gain_21 rfl (fun r21 F21 G21 h => ?_)
        exact x_iret (wf := w6 cI cO a) K h dX6_gain_24
/-! X6_bestTrade -/
abbrev rmX6_bestTrade : Room := { frames := 8, cells := 0, slots := 0, locals := 242 }
theorem dsX6_bestTrade : xDesc yX6_bestTrade 0 := by decide +kernel
theorem uX6_bestTrade_f41 : Cond.fieldLink RX6 41 "PigNinths" "side" "LPigNinths$World;" ∈ wsX6_bestTrade := nw_in nwl_X6_bestTrade nwe_337 (by decide +kernel)
theorem hinX6_bestTrade_X6 : ∀ w ∈ wsX60, w ∈ wsX6_bestTrade := nw_all nwl_X6_bestTrade nwl_X60 (by decide +kernel)
theorem uX6_bestTrade_f10 : Cond.fieldLink RX6 10 "PigNinths" "now" "LPigNinths$World;" ∈ wsX6_bestTrade := nw_in nwl_X6_bestTrade nwe_329 (by decide +kernel)
theorem uX6_bestTrade_f44 : Cond.fieldLink RX6 44 "PigNinths" "trial" "LPigNinths$World;" ∈ wsX6_bestTrade := nw_in nwl_X6_bestTrade nwe_338 (by decide +kernel)
theorem uX6_bestTrade_f195 : Cond.fieldLink RX6 195 "PigNinths$World" "purse" "[I" ∈ wsX6_bestTrade := nw_in nwl_X6_bestTrade nwe_452 (by decide +kernel)
theorem hinX6_bestTrade_X5 : ∀ w ∈ wsX50, w ∈ wsX6_bestTrade := nw_all nwl_X6_bestTrade nwl_X50 (by decide +kernel)
set_option maxHeartbeats 4000000 in
set_option maxRecDepth 100000 in
theorem tX6_bestTrade_38 (K : XK p m c cX6_bestTrade 7 s args wsX6_bestTrade RX6 D (xtys cI cO) A meth (some .int)) {Q : Int32 → xF → xA → Prop} {k27 : Int32 → Int32 → Int32 → xF → xA → Prop} (hk27 : ∀ (x1 : Int32) (x2 : Int32) (x3 : Int32) (F : xF) (G : xA), k27 x1 x2 x3 F G → XJ p l e rmX6_bestTrade s m args below meth c 0 0 (MQ below (xQi D (w6 cI cO a) A Q) args s 0 0 A) D (xtys cI cO) A 7 (w6 cI cO a F G) 27 [(0, .ref (a 0)), (1, .int x1), (2, .int x2), (3, .int x3)] []) : ∀ (n : Nat), ∀ (x1 : Int32) (x2 : Int32) (x3 : Int32) (x4 : Int32) (F : xF) (G : xA), qX6_bestTrade_38 Q k27 n x1 x2 x3 x4 F G → XJ p l e rmX6_bestTrade s m args below meth c 0 0 (MQ below (xQi D (w6 cI cO a) A Q) args s 0 0 A) D (xtys cI cO) A 7 (w6 cI cO a F G) 38 [(0, .ref (a 0)), (1, .int x1), (2, .int x2), (3, .int x3), (4, .int x4)] [] := by
  intro n
  induction n with
  | zero =>
    intro x1 x2 x3 x4 F G h
    exact False.elim h
  | succ n ih =>
    intro x1 x2 x3 x4 F G h
    refine x_iload (pc' := 40) K dX6_bestTrade_38 4 rfl rfl ?_
    refine x_bipush (pc' := 42) (v := 9) K dX6_bestTrade_40 (by decide) rfl ?_
    refine x_icmp_ge (tgt := 159) (pc' := 45) K dX6_bestTrade_42 rfl rfl (fun c42 => ?_) (fun c42 => ?_)
    · replace h := h.1 c42
      refine x_iinc (pc' := 162) (v := _ + (1 : Int32)) K dX6_bestTrade_159 3 rfl rfl (by decide) [1, 2, 3, 0, 4] (L' := [(0, .ref (a 0)), (1, .int _), (2, .int _), (3, .int _), (4, .int _)]) rfl rfl ?_
      refine x_goto (tgt := 27) K dX6_bestTrade_162 rfl ?_
      refine x_locals [0, 1, 2, 3] (L' := [(0, .ref (a 0)), (1, .int _), (2, .int _), (3, .int _)]) rfl ?_
      exact hk27 _ _ _ _ _ h
    · replace h := h.2 c42
      refine x_aload_n (pc' := 46) K dX6_bestTrade_45 0 rfl rfl ?_
      refine xw6_0g_trial (pc' := 49) K hinX6_bestTrade_X6 uX6_bestTrade_f44 dX6_bestTrade_46 rfl ?_
      refine x_aload_n (pc' := 50) K dX6_bestTrade_49 0 rfl rfl ?_
      refine xw6_0g_now (pc' := 53) K hinX6_bestTrade_X6 uX6_bestTrade_f10 dX6_bestTrade_50 rfl ?_
      refine x_subV (pc' := 56) (wn := fun F' G' => w6 cI cO a (xspl (xspl F 21 7 F') 0 7 (xsub F' 7)) (xspl (xspl G 42 14 G') 0 14 (xsub G' 14))) K (mX5_takeFrom l D cI cO (xcat 19 (xsub a 58) (xsub a 1))) rfl gX6_bestTrade_X5_takeFrom rfl dsX5_takeFrom ⟨rfl, rfl, ⟨Nat.le_of_ble_eq_true rfl, Nat.le_of_ble_eq_true rfl⟩, Nat.le_of_ble_eq_true rfl, Nat.le_of_ble_eq_true rfl⟩ h 5 0 rfl rfl (xpl19 cI cO a _ _) (fun F' G' => xpr19 cI cO a _ _ F' G') (st := []) rfl rfl (Nat.le_of_ble_eq_true rfl) dX6_bestTrade_53 rfl (fun F53 G53 h => ?_)
      obtain ⟨E53, eE53⟩ : ∃ x : xF, x = (xspl (xspl F 21 7 F53) 0 7 (xsub F53 7)) := ⟨_, rfl⟩
      obtain ⟨H53, eH53⟩ : ∃ x : xA, x = (xspl (xspl G 42 14 G53) 0 14 (xsub G53 14)) := ⟨_, rfl⟩
      refine x_weq (w' := w6 cI cO a E53 H53) (by subst eE53; subst eH53; rfl) ?_
      replace h := h E53 eE53
      replace h := h H53 eH53
      refine x_aload_n (pc' := 57) K dX6_bestTrade_56 0 rfl rfl ?_
      refine xw6_0g_trial (pc' := 60) K hinX6_bestTrade_X6 uX6_bestTrade_f44 dX6_bestTrade_57 rfl ?_
      refine x_iload_n (pc' := 61) K dX6_bestTrade_60 3 rfl rfl ?_
      refine x_iload (pc' := 63) K dX6_bestTrade_61 4 rfl rfl ?_
      refine x_subV (pc' := 66) (wn := fun F' G' => w6 cI cO a (xspl E53 21 7 F') (xspl H53 42 14 G')) K (mX5_changeTurns l D cI cO (xsub a 58) _ _) rfl gX6_bestTrade_X5_changeTurns rfl dsX5_changeTurns ⟨rfl, rfl, ⟨Nat.le_of_ble_eq_true rfl, Nat.le_of_ble_eq_true rfl⟩, Nat.le_of_ble_eq_true rfl, Nat.le_of_ble_eq_true rfl⟩ h 5 0 rfl rfl (xpl18 cI cO a _ _) (fun F' G' => xpr18 cI cO a _ _ F' G') (st := []) rfl rfl (Nat.le_of_ble_eq_true rfl) dX6_bestTrade_63 rfl (fun F63 G63 h => ?_)
      obtain ⟨E63, eE63⟩ : ∃ x : xF, x = (xspl E53 21 7 F63) := ⟨_, rfl⟩
      obtain ⟨H63, eH63⟩ : ∃ x : xA, x = (xspl H53 42 14 G63) := ⟨_, rfl⟩
      refine x_weq (w' := w6 cI cO a E63 H63) (by subst eE63; subst eH63; rfl) ?_
      replace h := h E63 eE63
      replace h := h H63 eH63
      refine x_aload_n (pc' := 67) K dX6_bestTrade_66 0 rfl rfl ?_
      refine xw6_0g_trial (pc' := 70) K hinX6_bestTrade_X6 uX6_bestTrade_f44 dX6_bestTrade_67 rfl ?_
      refine x_bipush (pc' := 72) (v := 18) K dX6_bestTrade_70 (by decide) rfl ?_
      refine x_subI (pc' := 75) (wn := fun F' G' => w6 cI cO a (xspl E63 21 7 F') (xspl H63 42 14 G')) K (mX5_goOn l D cI cO (xsub a 58) _) rfl gX6_bestTrade_X5_goOn rfl dsX5_goOn ⟨rfl, rfl, ⟨Nat.le_of_ble_eq_true rfl, Nat.le_of_ble_eq_true rfl⟩, Nat.le_of_ble_eq_true rfl, Nat.le_of_ble_eq_true rfl⟩ h 5 0 rfl rfl (xpl18 cI cO a _ _) (fun F' G' => xpr18 cI cO a _ _ F' G') (st := []) rfl rfl (Nat.le_of_ble_eq_true rfl) dX6_bestTrade_72 rfl (fun r72 F72 G72 h => ?_)
      obtain ⟨E72, eE72⟩ : ∃ x : xF, x = (xspl E63 21 7 F72) := ⟨_, rfl⟩
      obtain ⟨H72, eH72⟩ : ∃ x : xA, x = (xspl H63 42 14 G72) := ⟨_, rfl⟩
      refine x_weq (w' := w6 cI cO a E72 H72) (by subst eE72; subst eH72; rfl) ?_
      replace h := h E72 eE72
      replace h := h H72 eH72
      refine x_pop (pc' := 76) K dX6_bestTrade_75 rfl rfl ?_
      refine x_aload_n (pc' := 77) K dX6_bestTrade_76 0 rfl rfl ?_
      refine xw6_0g_trial (pc' := 80) K hinX6_bestTrade_X6 uX6_bestTrade_f44 dX6_bestTrade_77 rfl ?_
      refine xw6_58g_purse (pc' := 83) K hinX6_bestTrade_X5 uX6_bestTrade_f195 dX6_bestTrade_80 rfl ?_
      refine x_iload_n (pc' := 84) K dX6_bestTrade_83 3 rfl rfl ?_
      obtain ⟨i84, h⟩ := h
      refine xw6_63l (pc' := 85) K i84 rfl dX6_bestTrade_84 rfl ?_
      refine x_aload_n (pc' := 86) K dX6_bestTrade_85 0 rfl rfl ?_
      refine xw6_0g_side (pc' := 89) K hinX6_bestTrade_X6 uX6_bestTrade_f41 dX6_bestTrade_86 rfl ?_
      refine xw6_39g_purse (pc' := 92) K hinX6_bestTrade_X5 uX6_bestTrade_f195 dX6_bestTrade_89 rfl ?_
      refine x_iload_n (pc' := 93) K dX6_bestTrade_92 3 rfl rfl ?_
      obtain ⟨i93, h⟩ := h
      refine xw6_44l (pc' := 94) K i93 rfl dX6_bestTrade_93 rfl ?_
      refine x_isub (pc' := 95) K dX6_bestTrade_94 rfl ?_
      refine x_istore (pc' := 97) (i := 5) K dX6_bestTrade_95 (by decide) [1, 2, 3, 4, 5, 0] (L' := [(0, .ref (a 0)), (1, .int _), (2, .int _), (3, .int _), (4, .int _), (5, .int _)]) rfl rfl ?_
      refine x_aload_n (pc' := 98) K dX6_bestTrade_97 0 rfl rfl ?_
      refine xw6_0g_trial (pc' := 101) K hinX6_bestTrade_X6 uX6_bestTrade_f44 dX6_bestTrade_98 rfl ?_
      refine xw6_58g_purse (pc' := 104) K hinX6_bestTrade_X5 uX6_bestTrade_f195 dX6_bestTrade_101 rfl ?_
      refine x_iload (pc' := 106) K dX6_bestTrade_104 4 rfl rfl ?_
      obtain ⟨i106, h⟩ := h
      refine xw6_63l (pc' := 107) K i106 rfl dX6_bestTrade_106 rfl ?_
      refine x_aload_n (pc' := 108) K dX6_bestTrade_107 0 rfl rfl ?_
      refine xw6_0g_side (pc' := 111) K hinX6_bestTrade_X6 uX6_bestTrade_f41 dX6_bestTrade_108 rfl ?_
      refine xw6_39g_purse (pc' := 114) K hinX6_bestTrade_X5 uX6_bestTrade_f195 dX6_bestTrade_111 rfl ?_
      refine x_iload (pc' := 116) K dX6_bestTrade_114 4 rfl rfl ?_
      obtain ⟨i116, h⟩ := h
      refine xw6_44l (pc' := 117) K i116 rfl dX6_bestTrade_116 rfl ?_
      refine x_isub (pc' := 118) K dX6_bestTrade_117 rfl ?_
      refine x_istore (pc' := 120) (i := 6) K dX6_bestTrade_118 (by decide) [1, 2, 3, 4, 5, 6, 0] (L' := [(0, .ref (a 0)), (1, .int _), (2, .int _), (3, .int _), (4, .int _), (5, .int _), (6, .int _)]) rfl rfl ?_
      refine x_iload (pc' := 122) K dX6_bestTrade_120 5 rfl rfl ?_
      refine x_if_le (tgt := 153) (pc' := 125) K dX6_bestTrade_122 rfl rfl (fun c122 => ?_) (fun c122 => ?_)
      · replace h := h.1 c122
        refine x_iinc (pc' := 156) (v := _ + (1 : Int32)) K dX6_bestTrade_153 4 rfl rfl (by decide) [1, 2, 3, 4, 0, 5, 6] (L' := [(0, .ref (a 0)), (1, .int _), (2, .int _), (3, .int _), (4, .int _), (5, .int _), (6, .int _)]) rfl rfl ?_
        refine x_goto (tgt := 38) K dX6_bestTrade_156 rfl ?_
        refine x_locals [0, 1, 2, 3, 4] (L' := [(0, .ref (a 0)), (1, .int _), (2, .int _), (3, .int _), (4, .int _)]) rfl ?_
        exact ih _ _ _ _ _ _ h
      · replace h := h.2 c122
        refine x_iload (pc' := 127) K dX6_bestTrade_125 6 rfl rfl ?_
        refine x_if_le (tgt := 153) (pc' := 130) K dX6_bestTrade_127 rfl rfl (fun c127 => ?_) (fun c127 => ?_)
        · replace h := h.1 c127
          refine x_iinc (pc' := 156) (v := _ + (1 : Int32)) K dX6_bestTrade_153 4 rfl rfl (by decide) [1, 2, 3, 4, 0, 5, 6] (L' := [(0, .ref (a 0)), (1, .int _), (2, .int _), (3, .int _), (4, .int _), (5, .int _), (6, .int _)]) rfl rfl ?_
          refine x_goto (tgt := 38) K dX6_bestTrade_156 rfl ?_
          refine x_locals [0, 1, 2, 3, 4] (L' := [(0, .ref (a 0)), (1, .int _), (2, .int _), (3, .int _), (4, .int _)]) rfl ?_
          exact ih _ _ _ _ _ _ h
        · replace h := h.2 c127
          refine x_iload (pc' := 132) K dX6_bestTrade_130 5 rfl rfl ?_
          refine x_iload (pc' := 134) K dX6_bestTrade_132 6 rfl rfl ?_
          refine x_iadd (pc' := 135) K dX6_bestTrade_134 rfl ?_
          refine x_iload_n (pc' := 136) K dX6_bestTrade_135 2 rfl rfl ?_
          refine x_icmp_le (tgt := 153) (pc' := 139) K dX6_bestTrade_136 rfl rfl (fun c136 => ?_) (fun c136 => ?_)
          · replace h := h.1 c136
            refine x_iinc (pc' := 156) (v := _ + (1 : Int32)) K dX6_bestTrade_153 4 rfl rfl (by decide) [1, 2, 3, 4, 0, 5, 6] (L' := [(0, .ref (a 0)), (1, .int _), (2, .int _), (3, .int _), (4, .int _), (5, .int _), (6, .int _)]) rfl rfl ?_
            refine x_goto (tgt := 38) K dX6_bestTrade_156 rfl ?_
            refine x_locals [0, 1, 2, 3, 4] (L' := [(0, .ref (a 0)), (1, .int _), (2, .int _), (3, .int _), (4, .int _)]) rfl ?_
            exact ih _ _ _ _ _ _ h
          · replace h := h.2 c136
            refine x_iload (pc' := 141) K dX6_bestTrade_139 5 rfl rfl ?_
            refine x_iload (pc' := 143) K dX6_bestTrade_141 6 rfl rfl ?_
            refine x_iadd (pc' := 144) K dX6_bestTrade_143 rfl ?_
            refine x_istore_n (pc' := 145) (i := 2) K dX6_bestTrade_144 rfl (by decide) [1, 2, 0, 3, 4, 5, 6] (L' := [(0, .ref (a 0)), (1, .int _), (2, .int _), (3, .int _), (4, .int _), (5, .int _), (6, .int _)]) rfl rfl ?_
            refine x_bipush (pc' := 147) (v := 10) K dX6_bestTrade_145 (by decide) rfl ?_
            refine x_iload_n (pc' := 148) K dX6_bestTrade_147 3 rfl rfl ?_
            refine x_imul (pc' := 149) K dX6_bestTrade_148 rfl ?_
            refine x_iload (pc' := 151) K dX6_bestTrade_149 4 rfl rfl ?_
            refine x_iadd (pc' := 152) K dX6_bestTrade_151 rfl ?_
            refine x_istore_n (pc' := 153) (i := 1) K dX6_bestTrade_152 rfl (by decide) [1, 0, 2, 3, 4, 5, 6] (L' := [(0, .ref (a 0)), (1, .int _), (2, .int _), (3, .int _), (4, .int _), (5, .int _), (6, .int _)]) rfl rfl ?_
            refine x_iinc (pc' := 156) (v := _ + (1 : Int32)) K dX6_bestTrade_153 4 rfl rfl (by decide) [1, 2, 3, 4, 0, 5, 6] (L' := [(0, .ref (a 0)), (1, .int _), (2, .int _), (3, .int _), (4, .int _), (5, .int _), (6, .int _)]) rfl rfl ?_
            refine x_goto (tgt := 38) K dX6_bestTrade_156 rfl ?_
            refine x_locals [0, 1, 2, 3, 4] (L' := [(0, .ref (a 0)), (1, .int _), (2, .int _), (3, .int _), (4, .int _)]) rfl ?_
            exact ih _ _ _ _ _ _ h
set_option maxHeartbeats 4000000 in
set_option maxRecDepth 100000 in
theorem tX6_bestTrade_27 (K : XK p m c cX6_bestTrade 7 s args wsX6_bestTrade RX6 D (xtys cI cO) A meth (some .int)) {Q : Int32 → xF → xA → Prop} : ∀ (n : Nat), ∀ (x1 : Int32) (x2 : Int32) (x3 : Int32) (F : xF) (G : xA), qX6_bestTrade_27 Q n x1 x2 x3 F G → XJ p l e rmX6_bestTrade s m args below meth c 0 0 (MQ below (xQi D (w6 cI cO a) A Q) args s 0 0 A) D (xtys cI cO) A 7 (w6 cI cO a F G) 27 [(0, .ref (a 0)), (1, .int x1), (2, .int x2), (3, .int x3)] [] := by
  intro n
  induction n with
  | zero =>
    intro x1 x2 x3 F G h
    exact False.elim h
  | succ n ih =>
    intro x1 x2 x3 F G h
    refine x_iload_n (pc' := 28) K dX6_bestTrade_27 3 rfl rfl ?_
    refine x_bipush (pc' := 30) (v := 9) K dX6_bestTrade_28 (by decide) rfl ?_
    refine x_icmp_ge (tgt := 165) (pc' := 33) K dX6_bestTrade_30 rfl rfl (fun c30 => ?_) (fun c30 => ?_)
    · replace h := h.1 c30
      refine x_iload_n (pc' := 166) K dX6_bestTrade_165 1 rfl rfl ?_
      refine x_if_ge (tgt := 177) (pc' := 169) K dX6_bestTrade_166 rfl rfl (fun c166 => ?_) (fun c166 => ?_)
      · replace h := h.1 c166
        refine x_iload_n (pc' := 178) K dX6_bestTrade_177 1 rfl rfl ?_
        exact x_iret (wf := w6 cI cO a) K h dX6_bestTrade_178
      · replace h := h.2 c166
        refine x_aload_n (pc' := 170) K dX6_bestTrade_169 0 rfl rfl ?_
        refine x_iconst (pc' := 171) (v := 2) K dX6_bestTrade_170 (by decide) rfl ?_
        refine x_callI (pc' := 174) K (mX6_error l D cI cO a _) rfl gX6_bestTrade_X6_error rfl dsX6_error ⟨rfl, rfl, ⟨Nat.le_of_ble_eq_true rfl, Nat.le_of_ble_eq_true rfl⟩, Nat.le_of_ble_eq_true rfl, Nat.le_of_ble_eq_true rfl⟩ h 6 0 rfl rfl (st := []) rfl rfl (Nat.le_of_ble_eq_true rfl) dX6_bestTrade_171 rfl (fun r171 F171 G171 h => ?_)
        refine x_goto (tgt := 178) K dX6_bestTrade_174 rfl ?_
        exact x_iret (wf := w6 cI cO a) K h dX6_bestTrade_178
    · replace h := h.2 c30
      refine x_iload_n (pc' := 34) K dX6_bestTrade_33 3 rfl rfl ?_
      refine x_iconst (pc' := 35) (v := 1) K dX6_bestTrade_34 (by decide) rfl ?_
      refine x_iadd (pc' := 36) K dX6_bestTrade_35 rfl ?_
      refine x_istore (pc' := 38) (i := 4) K dX6_bestTrade_36 (by decide) [1, 2, 3, 4, 0] (L' := [(0, .ref (a 0)), (1, .int _), (2, .int _), (3, .int _), (4, .int _)]) rfl rfl ?_
      obtain ⟨n38, h⟩ := h
      exact tX6_bestTrade_38 K (fun x1 x2 x3 F G h => ih x1 x2 x3 F G h) n38 _ _ _ _ _ _ h
set_option maxHeartbeats 4000000 in
set_option maxRecDepth 100000 in
theorem mX6_bestTrade (l : Launch) (D : va_G) (cI cO : ClassId) (a : Nat → Nat)   : MI l yX6_bestTrade wsX6_bestTrade rmX6_bestTrade D (xtys cI cO) [.ref (a 0)] (w6 cI cO a) qX6_bestTrade := by
  refine MI_of (cc := cX6_bestTrade) (maxL := 7) (own := RX6) (by decide) rfl rfl (Nat.le_of_ble_eq_true rfl) ?_
  intro p e s m args below meth c A F G Q h K
  refine x_locals [0] (L' := [(0, .ref (a 0))]) rfl ?_
  refine x_aload_n (pc' := 1) K dX6_bestTrade_0 0 rfl rfl ?_
  refine xw6_0g_side (pc' := 4) K hinX6_bestTrade_X6 uX6_bestTrade_f41 dX6_bestTrade_1 rfl ?_
  refine x_aload_n (pc' := 5) K dX6_bestTrade_4 0 rfl rfl ?_
  refine xw6_0g_now (pc' := 8) K hinX6_bestTrade_X6 uX6_bestTrade_f10 dX6_bestTrade_5 rfl ?_
  refine x_subV (pc' := 11) (wn := fun F' G' => w6 cI cO a (xspl (xspl F 14 7 F') 0 7 (xsub F' 7)) (xspl (xspl G 28 14 G') 0 14 (xsub G' 14))) K (mX5_takeFrom l D cI cO (xcat 19 (xsub a 39) (xsub a 1))) rfl gX6_bestTrade_X5_takeFrom rfl dsX5_takeFrom ⟨rfl, rfl, ⟨Nat.le_of_ble_eq_true rfl, Nat.le_of_ble_eq_true rfl⟩, Nat.le_of_ble_eq_true rfl, Nat.le_of_ble_eq_true rfl⟩ h 5 0 rfl rfl (xpl15 cI cO a _ _) (fun F' G' => xpr15 cI cO a _ _ F' G') (st := []) rfl rfl (Nat.le_of_ble_eq_true rfl) dX6_bestTrade_8 rfl (fun F8 G8 h => ?_)
  obtain ⟨E8, eE8⟩ : ∃ x : xF, x = (xspl (xspl F 14 7 F8) 0 7 (xsub F8 7)) := ⟨_, rfl⟩
  obtain ⟨H8, eH8⟩ : ∃ x : xA, x = (xspl (xspl G 28 14 G8) 0 14 (xsub G8 14)) := ⟨_, rfl⟩
  refine x_weq (w' := w6 cI cO a E8 H8) (by subst eE8; subst eH8; rfl) ?_
  replace h := h E8 eE8
  replace h := h H8 eH8
  refine x_aload_n (pc' := 12) K dX6_bestTrade_11 0 rfl rfl ?_
  refine xw6_0g_side (pc' := 15) K hinX6_bestTrade_X6 uX6_bestTrade_f41 dX6_bestTrade_12 rfl ?_
  refine x_bipush (pc' := 17) (v := 18) K dX6_bestTrade_15 (by decide) rfl ?_
  refine x_subI (pc' := 20) (wn := fun F' G' => w6 cI cO a (xspl E8 14 7 F') (xspl H8 28 14 G')) K (mX5_goOn l D cI cO (xsub a 39) _) rfl gX6_bestTrade_X5_goOn rfl dsX5_goOn ⟨rfl, rfl, ⟨Nat.le_of_ble_eq_true rfl, Nat.le_of_ble_eq_true rfl⟩, Nat.le_of_ble_eq_true rfl, Nat.le_of_ble_eq_true rfl⟩ h 5 0 rfl rfl (xpl16 cI cO a _ _) (fun F' G' => xpr16 cI cO a _ _ F' G') (st := []) rfl rfl (Nat.le_of_ble_eq_true rfl) dX6_bestTrade_17 rfl (fun r17 F17 G17 h => ?_)
  obtain ⟨E17, eE17⟩ : ∃ x : xF, x = (xspl E8 14 7 F17) := ⟨_, rfl⟩
  obtain ⟨H17, eH17⟩ : ∃ x : xA, x = (xspl H8 28 14 G17) := ⟨_, rfl⟩
  refine x_weq (w' := w6 cI cO a E17 H17) (by subst eE17; subst eH17; rfl) ?_
  replace h := h E17 eE17
  replace h := h H17 eH17
  refine x_pop (pc' := 21) K dX6_bestTrade_20 rfl rfl ?_
  refine x_iconst (pc' := 22) (v := -1) K dX6_bestTrade_21 (by decide) rfl ?_
  refine x_istore_n (pc' := 23) (i := 1) K dX6_bestTrade_22 rfl (by decide) [1, 0] (L' := [(0, .ref (a 0)), (1, .int _)]) rfl rfl ?_
  refine x_iconst (pc' := 24) (v := 0) K dX6_bestTrade_23 (by decide) rfl ?_
  refine x_istore_n (pc' := 25) (i := 2) K dX6_bestTrade_24 rfl (by decide) [1, 2, 0] (L' := [(0, .ref (a 0)), (1, .int _), (2, .int _)]) rfl rfl ?_
  refine x_iconst (pc' := 26) (v := 0) K dX6_bestTrade_25 (by decide) rfl ?_
  refine x_istore_n (pc' := 27) (i := 3) K dX6_bestTrade_26 rfl (by decide) [1, 2, 3, 0] (L' := [(0, .ref (a 0)), (1, .int _), (2, .int _), (3, .int _)]) rfl rfl ?_
  obtain ⟨n27, h⟩ := h
  exact tX6_bestTrade_27 K n27 _ _ _ _ _ h
end
