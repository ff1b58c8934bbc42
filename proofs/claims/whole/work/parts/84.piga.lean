section
variable {p : Program} {l : Launch} {e : Env} {s : State} {m : MethodId} {args : Array Value} {below : List Frame} {meth : Method} {c : Code} {D : va_G} {cI cO : ClassId} {A : Nat → Prop} {a : Nat → Nat} {d : Nat}
/-! X6_seed -/
abbrev rmX6_seed : Room := { frames := 2, cells := 0, slots := 0, locals := 60 }
theorem dsX6_seed : xDesc yX6_seed 1 := by decide +kernel
theorem uX6_seed_f10 : Cond.fieldLink RX6 10 "PigNinths" "now" "LPigNinths$World;" ∈ wsX6_seed := nw_in nwl_X6_seed nwe_329 (by decide +kernel)
theorem hinX6_seed_X6 : ∀ w ∈ wsX60, w ∈ wsX6_seed := nw_all nwl_X6_seed nwl_X60 (by decide +kernel)
theorem uX6_seed_f175 : Cond.fieldLink RX6 175 "PigNinths$World" "drawn" "I" ∈ wsX6_seed := nw_in nwl_X6_seed nwe_429 (by decide +kernel)
theorem hinX6_seed_X5 : ∀ w ∈ wsX50, w ∈ wsX6_seed := nw_all nwl_X6_seed nwl_X50 (by decide +kernel)
set_option maxHeartbeats 4000000 in
set_option maxRecDepth 100000 in
theorem mX6_seed (l : Launch) (D : va_G) (cI cO : ClassId) (a : Nat → Nat)  (x1 : Int32) : MI l yX6_seed wsX6_seed rmX6_seed D (xtys cI cO) [.ref (a 0), .int x1] (w6 cI cO a) (qX6_seed x1) := by
  refine MI_of (cc := cX6_seed) (maxL := 3) (own := RX6) (by decide) rfl rfl (Nat.le_of_ble_eq_true rfl) ?_
  intro p e s m args below meth c A F G Q h K
  refine x_locals [0, 1] (L' := [(0, .ref (a 0)), (1, .int _)]) rfl ?_
  refine x_aload_n (pc' := 1) K dX6_seed_0 0 rfl rfl ?_
  refine xw6_0g_now (pc' := 4) K hinX6_seed_X6 uX6_seed_f10 dX6_seed_1 rfl ?_
  refine xw6_1g_drawn (pc' := 7) K hinX6_seed_X5 uX6_seed_f175 dX6_seed_4 rfl ?_
  refine x_istore_n (pc' := 8) (i := 2) K dX6_seed_7 rfl (by decide) [1, 2, 0] (L' := [(0, .ref (a 0)), (1, .int _), (2, .int _)]) rfl rfl ?_
  refine x_aload_n (pc' := 9) K dX6_seed_8 0 rfl rfl ?_
  refine xw6_0g_now (pc' := 12) K hinX6_seed_X6 uX6_seed_f10 dX6_seed_9 rfl ?_
  refine x_iload_n (pc' := 13) K dX6_seed_12 1 rfl rfl ?_
  refine xw6_1p_drawn (pc' := 16) K hinX6_seed_X5 uX6_seed_f175 dX6_seed_13 rfl (fun F13 eF13 => ?_)
  replace h := h F13 eF13
  refine x_iload_n (pc' := 17) K dX6_seed_16 2 rfl rfl ?_
  exact x_iret (wf := w6 cI cO a) K h dX6_seed_17
/-! X6_image -/
set_option maxHeartbeats 4000000 in
set_option maxRecDepth 100000 in
theorem xpl12 (cI : ClassId) (cO : ClassId) (a : Nat → Nat) (F : xF) (G : xA) : (w6 cI cO a F G).Perm (List.flatMap (bw6 cI cO a F G) [0, 17, 18, 19, 20, 21, 22, 23, 24, 25, 26, 27, 28, 29, 30, 31, 32, 33, 34, 35, 36, 37, 38, 39, 40, 41, 42, 43, 44, 45, 46, 47, 48, 49, 50, 51, 52, 53] ++ w55 cI (xcat 19 (xsub a 20) (xsub a 1)) (xcat 7 (xsub F 7) (xsub F 0)) (xcat 14 (xsub G 14) (xsub G 0))) := xpermF (bf := bw6 cI cO a F G) (ns := [0, 1, 2, 3, 4, 5, 6, 7, 8, 9, 10, 11, 12, 13, 14, 15, 16, 17, 18, 19, 20, 21, 22, 23, 24, 25, 26, 27, 28, 29, 30, 31, 32, 33, 34, 35, 36, 37, 38, 39, 40, 41, 42, 43, 44, 45, 46, 47, 48, 49, 50, 51, 52, 53]) rfl [0, 17, 18, 19, 20, 21, 22, 23, 24, 25, 26, 27, 28, 29, 30, 31, 32, 33, 34, 35, 36, 37, 38, 39, 40, 41, 42, 43, 44, 45, 46, 47, 48, 49, 50, 51, 52, 53] [9, 10, 11, 12, 13, 14, 15, 16, 1, 2, 3, 4, 5, 6, 7, 8] (by decide +kernel) rfl rfl
set_option maxHeartbeats 4000000 in
set_option maxRecDepth 100000 in
theorem xpr12 (cI : ClassId) (cO : ClassId) (a : Nat → Nat) (F : xF) (G : xA) (F' : xF) (G' : xA) : (w6 cI cO a (xspl (xspl F 7 7 F') 0 7 (xsub F' 7)) (xspl (xspl G 14 14 G') 0 14 (xsub G' 14))).Perm (List.flatMap (bw6 cI cO a F G) [0, 17, 18, 19, 20, 21, 22, 23, 24, 25, 26, 27, 28, 29, 30, 31, 32, 33, 34, 35, 36, 37, 38, 39, 40, 41, 42, 43, 44, 45, 46, 47, 48, 49, 50, 51, 52, 53] ++ w55 cI (xcat 19 (xsub a 20) (xsub a 1)) F' G') := xpermF (bf := bw6 cI cO a (xspl (xspl F 7 7 F') 0 7 (xsub F' 7)) (xspl (xspl G 14 14 G') 0 14 (xsub G' 14))) (ns := [0, 1, 2, 3, 4, 5, 6, 7, 8, 9, 10, 11, 12, 13, 14, 15, 16, 17, 18, 19, 20, 21, 22, 23, 24, 25, 26, 27, 28, 29, 30, 31, 32, 33, 34, 35, 36, 37, 38, 39, 40, 41, 42, 43, 44, 45, 46, 47, 48, 49, 50, 51, 52, 53]) rfl [0, 17, 18, 19, 20, 21, 22, 23, 24, 25, 26, 27, 28, 29, 30, 31, 32, 33, 34, 35, 36, 37, 38, 39, 40, 41, 42, 43, 44, 45, 46, 47, 48, 49, 50, 51, 52, 53] [9, 10, 11, 12, 13, 14, 15, 16, 1, 2, 3, 4, 5, 6, 7, 8] (by decide +kernel) rfl rfl
set_option maxHeartbeats 4000000 in
set_option maxRecDepth 100000 in
theorem xpl13 (cI : ClassId) (cO : ClassId) (a : Nat → Nat) (F : xF) (G : xA) : (w6 cI cO a F G).Perm (List.flatMap (bw6 cI cO a F G) [0, 1, 2, 3, 4, 5, 6, 7, 8, 9, 10, 11, 12, 13, 14, 15, 16, 17, 18, 19, 20, 21, 22, 23, 24, 25, 26, 27, 28, 29, 30, 31, 32, 34, 36, 37, 38, 39, 40, 41, 42, 43, 44, 45, 46, 47, 48, 49, 50, 51, 52, 53] ++ w11 60 60 cI (xcat 2 (xsub a 81) (xsub a 77)) (xcat 1 (xsub F 31) (xsub F 29)) (xcat 1 (xsub G 58) (xsub G 56))) := xpermF (bf := bw6 cI cO a F G) (ns := [0, 1, 2, 3, 4, 5, 6, 7, 8, 9, 10, 11, 12, 13, 14, 15, 16, 17, 18, 19, 20, 21, 22, 23, 24, 25, 26, 27, 28, 29, 30, 31, 32, 33, 34, 35, 36, 37, 38, 39, 40, 41, 42, 43, 44, 45, 46, 47, 48, 49, 50, 51, 52, 53]) rfl [0, 1, 2, 3, 4, 5, 6, 7, 8, 9, 10, 11, 12, 13, 14, 15, 16, 17, 18, 19, 20, 21, 22, 23, 24, 25, 26, 27, 28, 29, 30, 31, 32, 34, 36, 37, 38, 39, 40, 41, 42, 43, 44, 45, 46, 47, 48, 49, 50, 51, 52, 53] [35, 33] (by decide +kernel) rfl rfl
set_option maxHeartbeats 4000000 in
set_option maxRecDepth 100000 in
theorem xpr13 (cI : ClassId) (cO : ClassId) (a : Nat → Nat) (F : xF) (G : xA) (F' : xF) (G' : xA) : (w6 cI cO a (xspl (xspl F 31 1 F') 29 1 (xsub F' 1)) (xspl (xspl G 58 1 G') 56 1 (xsub G' 1))).Perm (List.flatMap (bw6 cI cO a F G) [0, 1, 2, 3, 4, 5, 6, 7, 8, 9, 10, 11, 12, 13, 14, 15, 16, 17, 18, 19, 20, 21, 22, 23, 24, 25, 26, 27, 28, 29, 30, 31, 32, 34, 36, 37, 38, 39, 40, 41, 42, 43, 44, 45, 46, 47, 48, 49, 50, 51, 52, 53] ++ w11 60 60 cI (xcat 2 (xsub a 81) (xsub a 77)) F' G') := xpermF (bf := bw6 cI cO a (xspl (xspl F 31 1 F') 29 1 (xsub F' 1)) (xspl (xspl G 58 1 G') 56 1 (xsub G' 1))) (ns := [0, 1, 2, 3, 4, 5, 6, 7, 8, 9, 10, 11, 12, 13, 14, 15, 16, 17, 18, 19, 20, 21, 22, 23, 24, 25, 26, 27, 28, 29, 30, 31, 32, 33, 34, 35, 36, 37, 38, 39, 40, 41, 42, 43, 44, 45, 46, 47, 48, 49, 50, 51, 52, 53]) rfl [0, 1, 2, 3, 4, 5, 6, 7, 8, 9, 10, 11, 12, 13, 14, 15, 16, 17, 18, 19, 20, 21, 22, 23, 24, 25, 26, 27, 28, 29, 30, 31, 32, 34, 36, 37, 38, 39, 40, 41, 42, 43, 44, 45, 46, 47, 48, 49, 50, 51, 52, 53] [35, 33] (by decide +kernel) rfl rfl
set_option maxHeartbeats 4000000 in
set_option maxRecDepth 100000 in
theorem xpl14 (cI : ClassId) (cO : ClassId) (a : Nat → Nat) (F : xF) (G : xA) : (w6 cI cO a F G).Perm (List.flatMap (bw6 cI cO a F G) [0, 1, 2, 3, 4, 5, 6, 7, 8, 9, 10, 11, 12, 13, 14, 15, 16, 17, 18, 19, 20, 21, 22, 23, 24, 25, 26, 27, 28, 29, 30, 31, 32, 33, 35, 37, 38, 39, 40, 41, 42, 43, 44, 45, 46, 47, 48, 49, 50, 51, 52, 53] ++ w11 24 24 cI (xcat 2 (xsub a 83) (xsub a 79)) (xcat 1 (xsub F 32) (xsub F 30)) (xcat 1 (xsub G 59) (xsub G 57))) := xpermF (bf := bw6 cI cO a F G) (ns := [0, 1, 2, 3, 4, 5, 6, 7, 8, 9, 10, 11, 12, 13, 14, 15, 16, 17, 18, 19, 20, 21, 22, 23, 24, 25, 26, 27, 28, 29, 30, 31, 32, 33, 34, 35, 36, 37, 38, 39, 40, 41, 42, 43, 44, 45, 46, 47, 48, 49, 50, 51, 52, 53]) rfl [0, 1, 2, 3, 4, 5, 6, 7, 8, 9, 10, 11, 12, 13, 14, 15, 16, 17, 18, 19, 20, 21, 22, 23, 24, 25, 26, 27, 28, 29, 30, 31, 32, 33, 35, 37, 38, 39, 40, 41, 42, 43, 44, 45, 46, 47, 48, 49, 50, 51, 52, 53] [36, 34] (by decide +kernel) rfl rfl
set_option maxHeartbeats 4000000 in
set_option maxRecDepth 100000 in
theorem xpr14 (cI : ClassId) (cO : ClassId) (a : Nat → Nat) (F : xF) (G : xA) (F' : xF) (G' : xA) : (w6 cI cO a (xspl (xspl F 32 1 F') 30 1 (xsub F' 1)) (xspl (xspl G 59 1 G') 57 1 (xsub G' 1))).Perm (List.flatMap (bw6 cI cO a F G) [0, 1, 2, 3, 4, 5, 6, 7, 8, 9, 10, 11, 12, 13, 14, 15, 16, 17, 18, 19, 20, 21, 22, 23, 24, 25, 26, 27, 28, 29, 30, 31, 32, 33, 35, 37, 38, 39, 40, 41, 42, 43, 44, 45, 46, 47, 48, 49, 50, 51, 52, 53] ++ w11 24 24 cI (xcat 2 (xsub a 83) (xsub a 79)) F' G') := xpermF (bf := bw6 cI cO a (xspl (xspl F 32 1 F') 30 1 (xsub F' 1)) (xspl (xspl G 59 1 G') 57 1 (xsub G' 1))) (ns := [0, 1, 2, 3, 4, 5, 6, 7, 8, 9, 10, 11, 12, 13, 14, 15, 16, 17, 18, 19, 20, 21, 22, 23, 24, 25, 26, 27, 28, 29, 30, 31, 32, 33, 34, 35, 36, 37, 38, 39, 40, 41, 42, 43, 44, 45, 46, 47, 48, 49, 50, 51, 52, 53]) rfl [0, 1, 2, 3, 4, 5, 6, 7, 8, 9, 10, 11, 12, 13, 14, 15, 16, 17, 18, 19, 20, 21, 22, 23, 24, 25, 26, 27, 28, 29, 30, 31, 32, 33, 35, 37, 38, 39, 40, 41, 42, 43, 44, 45, 46, 47, 48, 49, 50, 51, 52, 53] [36, 34] (by decide +kernel) rfl rfl
abbrev rmX6_image : Room := { frames := 5, cells := 0, slots := 0, locals := 242 }
theorem dsX6_image : xDesc yX6_image 0 := by decide +kernel
theorem uX6_image_f28 : Cond.fieldLink RX6 28 "PigNinths" "keptWorld" "LPigNinths$World;" ∈ wsX6_image := nw_in nwl_X6_image nwe_333 (by decide +kernel)
theorem hinX6_image_X6 : ∀ w ∈ wsX60, w ∈ wsX6_image := nw_all nwl_X6_image nwl_X60 (by decide +kernel)
theorem uX6_image_f10 : Cond.fieldLink RX6 10 "PigNinths" "now" "LPigNinths$World;" ∈ wsX6_image := nw_in nwl_X6_image nwe_329 (by decide +kernel)
theorem uX6_image_f31 : Cond.fieldLink RX6 31 "PigNinths" "keptTape" "LPigNinths$Row;" ∈ wsX6_image := nw_in nwl_X6_image nwe_334 (by decide +kernel)
theorem uX6_image_f21 : Cond.fieldLink RX6 21 "PigNinths" "tape" "LPigNinths$Row;" ∈ wsX6_image := nw_in nwl_X6_image nwe_331 (by decide +kernel)
theorem uX6_image_f34 : Cond.fieldLink RX6 34 "PigNinths" "keptWaiting" "LPigNinths$Row;" ∈ wsX6_image := nw_in nwl_X6_image nwe_335 (by decide +kernel)
theorem uX6_image_f25 : Cond.fieldLink RX6 25 "PigNinths" "waiting" "LPigNinths$Row;" ∈ wsX6_image := nw_in nwl_X6_image nwe_332 (by decide +kernel)
theorem uX6_image_f37 : Cond.fieldLink RX6 37 "PigNinths" "images" "I" ∈ wsX6_image := nw_in nwl_X6_image nwe_336 (by decide +kernel)
set_option maxHeartbeats 4000000 in
set_option maxRecDepth 100000 in
theorem mX6_image (l : Launch) (D : va_G) (cI cO : ClassId) (a : Nat → Nat)   : MI l yX6_image wsX6_image rmX6_image D (xtys cI cO) [.ref (a 0)] (w6 cI cO a) qX6_image := by
  refine MI_of (cc := cX6_image) (maxL := 1) (own := RX6) (by decide) rfl rfl (Nat.le_of_ble_eq_true rfl) ?_
  intro p e s m args below meth c A F G Q h K
  refine x_locals [0] (L' := [(0, .ref (a 0))]) rfl ?_
  refine x_aload_n (pc' := 1) K dX6_image_0 0 rfl rfl ?_
  refine xw6_0g_keptWorld (pc' := 4) K hinX6_image_X6 uX6_image_f28 dX6_image_1 rfl ?_
  refine x_aload_n (pc' := 5) K dX6_image_4 0 rfl rfl ?_
  refine xw6_0g_now (pc' := 8) K hinX6_image_X6 uX6_image_f10 dX6_image_5 rfl ?_
  refine x_subV (pc' := 11) (wn := fun F' G' => w6 cI cO a (xspl (xspl F 7 7 F') 0 7 (xsub F' 7)) (xspl (xspl G 14 14 G') 0 14 (xsub G' 14))) K (mX5_takeFrom l D cI cO (xcat 19 (xsub a 20) (xsub a 1))) rfl gX6_image_X5_takeFrom rfl dsX5_takeFrom ⟨rfl, rfl, ⟨Nat.le_of_ble_eq_true rfl, Nat.le_of_ble_eq_true rfl⟩, Nat.le_of_ble_eq_true rfl, Nat.le_of_ble_eq_true rfl⟩ h 5 0 rfl rfl (xpl12 cI cO a _ _) (fun F' G' => xpr12 cI cO a _ _ F' G') (st := []) rfl rfl (Nat.le_of_ble_eq_true rfl) dX6_image_8 rfl (fun F8 G8 h => ?_)
  obtain ⟨E8, eE8⟩ : ∃ x : xF, x = (xspl (xspl F 7 7 F8) 0 7 (xsub F8 7)) := ⟨_, rfl⟩
  obtain ⟨H8, eH8⟩ : ∃ x : xA, x = (xspl (xspl G 14 14 G8) 0 14 (xsub G8 14)) := ⟨_, rfl⟩
  refine x_weq (w' := w6 cI cO a E8 H8) (by subst eE8; subst eH8; rfl) ?_
  replace h := h E8 eE8
  replace h := h H8 eH8
  refine x_aload_n (pc' := 12) K dX6_image_11 0 rfl rfl ?_
  refine xw6_0g_keptTape (pc' := 15) K hinX6_image_X6 uX6_image_f31 dX6_image_12 rfl ?_
  refine x_aload_n (pc' := 16) K dX6_image_15 0 rfl rfl ?_
  refine xw6_0g_tape (pc' := 19) K hinX6_image_X6 uX6_image_f21 dX6_image_16 rfl ?_
  refine x_subV (pc' := 22) (wn := fun F' G' => w6 cI cO a (xspl (xspl E8 31 1 F') 29 1 (xsub F' 1)) (xspl (xspl H8 58 1 G') 56 1 (xsub G' 1))) K (mX1_takeFrom l D cI cO (xcat 2 (xsub a 81) (xsub a 77)) 60 60) rfl gX6_image_X1_takeFrom rfl dsX1_takeFrom ⟨rfl, rfl, ⟨Nat.le_of_ble_eq_true rfl, Nat.le_of_ble_eq_true rfl⟩, Nat.le_of_ble_eq_true rfl, Nat.le_of_ble_eq_true rfl⟩ h 1 0 rfl rfl (xpl13 cI cO a _ _) (fun F' G' => xpr13 cI cO a _ _ F' G') (st := []) rfl rfl (Nat.le_of_ble_eq_true rfl) dX6_image_19 rfl (fun F19 G19 h => ?_)
  obtain ⟨E19, eE19⟩ : ∃ x : xF, x = (xspl (xspl E8 31 1 F19) 29 1 (xsub F19 1)) := ⟨_, rfl⟩
  obtain ⟨H19, eH19⟩ : ∃ x : xA, x = (xspl (xspl H8 58 1 G19) 56 1 (xsub G19 1)) := ⟨_, rfl⟩
  refine x_weq (w' := w6 cI cO a E19 H19) (by subst eE19; subst eH19; rfl) ?_
  replace h := h E19 eE19
  replace h := h H19 eH19
  refine x_aload_n (pc' := 23) K dX6_image_22 0 rfl rfl ?_
  refine xw6_0g_keptWaiting (pc' := 26) K hinX6_image_X6 uX6_image_f34 dX6_image_23 rfl ?_
  refine x_aload_n (pc' := 27) K dX6_image_26 0 rfl rfl ?_
  refine xw6_0g_waiting (pc' := 30) K hinX6_image_X6 uX6_image_f25 dX6_image_27 rfl ?_
  refine x_subV (pc' := 33) (wn := fun F' G' => w6 cI cO a (xspl (xspl E19 32 1 F') 30 1 (xsub F' 1)) (xspl (xspl H19 59 1 G') 57 1 (xsub G' 1))) K (mX1_takeFrom l D cI cO (xcat 2 (xsub a 83) (xsub a 79)) 24 24) rfl gX6_image_X1_takeFrom rfl dsX1_takeFrom ⟨rfl, rfl, ⟨Nat.le_of_ble_eq_true rfl, Nat.le_of_ble_eq_true rfl⟩, Nat.le_of_ble_eq_true rfl, Nat.le_of_ble_eq_true rfl⟩ h 1 0 rfl rfl (xpl14 cI cO a _ _) (fun F' G' => xpr14 cI cO a _ _ F' G') (st := []) rfl rfl (Nat.le_of_ble_eq_true rfl) dX6_image_30 rfl (fun F30 G30 h => ?_)
  obtain ⟨E30, eE30⟩ : ∃ x : xF, x = (xspl (xspl E19 32 1 F30) 30 1 (xsub F30 1)) := ⟨_, rfl⟩
  obtain ⟨H30, eH30⟩ : ∃ x : xA, x = (xspl (xspl H19 59 1 G30) 57 1 (xsub G30 1)) := ⟨_, rfl⟩
  refine x_weq (w' := w6 cI cO a E30 H30) (by subst eE30; subst eH30; rfl) ?_
  replace h := h E30 eE30
  replace h := h H30 eH30
  refine x_aload_n (pc' := 34) K dX6_image_33 0 rfl rfl ?_
  refine x_dup (pc' := 35) K dX6_image_34 rfl rfl ?_
  refine xw6_0g_images (pc' := 38) K hinX6_image_X6 uX6_image_f37 dX6_image_35 rfl ?_
  refine x_iconst (pc' := 39) (v := 1) K dX6_image_38 (by decide) rfl ?_
  refine x_iadd (pc' := 40) K dX6_image_39 rfl ?_
  refine xw6_0p_images (pc' := 43) K hinX6_image_X6 uX6_image_f37 dX6_image_40 rfl (fun F40 eF40 => ?_)
  replace h := h F40 eF40
  refine x_aload_n (pc' := 44) K dX6_image_43 0 rfl rfl ?_
  refine xw6_0g_images (pc' := 47) K hinX6_image_X6 uX6_image_f37 dX6_image_44 rfl ?_
  exact x_iret (wf := w6 cI cO a) K h dX6_image_47
/-! X6_check -/
set_option maxHeartbeats 4000000 in
set_option maxRecDepth 100000 in
theorem xpl15 (cI : ClassId) (cO : ClassId) (a : Nat → Nat) (F : xF) (G : xA) : (w6 cI cO a F G).Perm (List.flatMap (bw6 cI cO a F G) [0, 9, 10, 11, 12, 13, 14, 15, 16, 25, 26, 27, 28, 29, 30, 31, 32, 33, 34, 35, 36, 37, 38, 39, 40, 41, 42, 43, 44, 45, 46, 47, 48, 49, 50, 51, 52, 53] ++ w55 cI (xcat 19 (xsub a 39) (xsub a 1)) (xcat 7 (xsub F 14) (xsub F 0)) (xcat 14 (xsub G 28) (xsub G 0))) := xpermF (bf := bw6 cI cO a F G) (ns := [0, 1, 2, 3, 4, 5, 6, 7, 8, 9, 10, 11, 12, 13, 14, 15, 16, 17, 18, 19, 20, 21, 22, 23, 24, 25, 26, 27, 28, 29, 30, 31, 32, 33, 34, 35, 36, 37, 38, 39, 40, 41, 42, 43, 44, 45, 46, 47, 48, 49, 50, 51, 52, 53]) rfl [0, 9, 10, 11, 12, 13, 14, 15, 16, 25, 26, 27, 28, 29, 30, 31, 32, 33, 34, 35, 36, 37, 38, 39, 40, 41, 42, 43, 44, 45, 46, 47, 48, 49, 50, 51, 52, 53] [17, 18, 19, 20, 21, 22, 23, 24, 1, 2, 3, 4, 5, 6, 7, 8] (by decide +kernel) rfl rfl
set_option maxHeartbeats 4000000 in
set_option maxRecDepth 100000 in
theorem xpr15 (cI : ClassId) (cO : ClassId) (a : Nat → Nat) (F : xF) (G : xA) (F' : xF) (G' : xA) : (w6 cI cO a (xspl (xspl F 14 7 F') 0 7 (xsub F' 7)) (xspl (xspl G 28 14 G') 0 14 (xsub G' 14))).Perm (List.flatMap (bw6 cI cO a F G) [0, 9, 10, 11, 12, 13, 14, 15, 16, 25, 26, 27, 28, 29, 30, 31, 32, 33, 34, 35, 36, 37, 38, 39, 40, 41, 42, 43, 44, 45, 46, 47, 48, 49, 50, 51, 52, 53] ++ w55 cI (xcat 19 (xsub a 39) (xsub a 1)) F' G') := xpermF (bf := bw6 cI cO a (xspl (xspl F 14 7 F') 0 7 (xsub F' 7)) (xspl (xspl G 28 14 G') 0 14 (xsub G' 14))) (ns := [0, 1, 2, 3, 4, 5, 6, 7, 8, 9, 10, 11, 12, 13, 14, 15, 16, 17, 18, 19, 20, 21, 22, 23, 24, 25, 26, 27, 28, 29, 30, 31, 32, 33, 34, 35, 36, 37, 38, 39, 40, 41, 42, 43, 44, 45, 46, 47, 48, 49, 50, 51, 52, 53]) rfl [0, 9, 10, 11, 12, 13, 14, 15, 16, 25, 26, 27, 28, 29, 30, 31, 32, 33, 34, 35, 36, 37, 38, 39, 40, 41, 42, 43, 44, 45, 46, 47, 48, 49, 50, 51, 52, 53] [17, 18, 19, 20, 21, 22, 23, 24, 1, 2, 3, 4, 5, 6, 7, 8] (by decide +kernel) rfl rfl
set_option maxHeartbeats 4000000 in
set_option maxRecDepth 100000 in
theorem xpl16 (cI : ClassId) (cO : ClassId) (a : Nat → Nat) (F : xF) (G : xA) : (w6 cI cO a F G).Perm (List.flatMap (bw6 cI cO a F G) [0, 1, 2, 3, 4, 5, 6, 7, 8, 9, 10, 11, 12, 13, 14, 15, 16, 25, 26, 27, 28, 29, 30, 31, 32, 33, 34, 35, 36, 37, 38, 39, 40, 41, 42, 43, 44, 45, 46, 47, 48, 49, 50, 51, 52, 53] ++ w5 cI (xsub a 39) (xsub F 14) (xsub G 28)) := xpermF (bf := bw6 cI cO a F G) (ns := [0, 1, 2, 3, 4, 5, 6, 7, 8, 9, 10, 11, 12, 13, 14, 15, 16, 17, 18, 19, 20, 21, 22, 23, 24, 25, 26, 27, 28, 29, 30, 31, 32, 33, 34, 35, 36, 37, 38, 39, 40, 41, 42, 43, 44, 45, 46, 47, 48, 49, 50, 51, 52, 53]) rfl [0, 1, 2, 3, 4, 5, 6, 7, 8, 9, 10, 11, 12, 13, 14, 15, 16, 25, 26, 27, 28, 29, 30, 31, 32, 33, 34, 35, 36, 37, 38, 39, 40, 41, 42, 43, 44, 45, 46, 47, 48, 49, 50, 51, 52, 53] [17, 18, 19, 20, 21, 22, 23, 24] (by decide +kernel) rfl rfl
set_option maxHeartbeats 4000000 in
set_option maxRecDepth 100000 in
theorem xpr16 (cI : ClassId) (cO : ClassId) (a : Nat → Nat) (F : xF) (G : xA) (F' : xF) (G' : xA) : (w6 cI cO a (xspl F 14 7 F') (xspl G 28 14 G')).Perm (List.flatMap (bw6 cI cO a F G) [0, 1, 2, 3, 4, 5, 6, 7, 8, 9, 10, 11, 12, 13, 14, 15, 16, 25, 26, 27, 28, 29, 30, 31, 32, 33, 34, 35, 36, 37, 38, 39, 40, 41, 42, 43, 44, 45, 46, 47, 48, 49, 50, 51, 52, 53] ++ w5 cI (xsub a 39) F' G') := xpermF (bf := bw6 cI cO a (xspl F 14 7 F') (xspl G 28 14 G')) (ns := [0, 1, 2, 3, 4, 5, 6, 7, 8, 9, 10, 11, 12, 13, 14, 15, 16, 17, 18, 19, 20, 21, 22, 23, 24, 25, 26, 27, 28, 29, 30, 31, 32, 33, 34, 35, 36, 37, 38, 39, 40, 41, 42, 43, 44, 45, 46, 47, 48, 49, 50, 51, 52, 53]) rfl [0, 1, 2, 3, 4, 5, 6, 7, 8, 9, 10, 11, 12, 13, 14, 15, 16, 25, 26, 27, 28, 29, 30, 31, 32, 33, 34, 35, 36, 37, 38, 39, 40, 41, 42, 43, 44, 45, 46, 47, 48, 49, 50, 51, 52, 53] [17, 18, 19, 20, 21, 22, 23, 24] (by decide +kernel) rfl rfl
abbrev rmX6_check : Room := { frames := 7, cells := 0, slots := 0, locals := 242 }
theorem dsX6_check : xDesc yX6_check 0 := by decide +kernel
theorem uX6_check_f25 : Cond.fieldLink RX6 25 "PigNinths" "waiting" "LPigNinths$Row;" ∈ wsX6_check := nw_in nwl_X6_check nwe_332 (by decide +kernel)
theorem hinX6_check_X6 : ∀ w ∈ wsX60, w ∈ wsX6_check := nw_all nwl_X6_check nwl_X60 (by decide +kernel)
theorem uX6_check_f135 : Cond.fieldLink RX6 135 "PigNinths$Row" "size" "I" ∈ wsX6_check := nw_in nwl_X6_check nwe_404 (by decide +kernel)
theorem hinX6_check_X1 : ∀ w ∈ wsX10, w ∈ wsX6_check := nw_all nwl_X6_check nwl_X10 (by decide +kernel)
theorem uX6_check_f41 : Cond.fieldLink RX6 41 "PigNinths" "side" "LPigNinths$World;" ∈ wsX6_check := nw_in nwl_X6_check nwe_337 (by decide +kernel)
theorem uX6_check_f10 : Cond.fieldLink RX6 10 "PigNinths" "now" "LPigNinths$World;" ∈ wsX6_check := nw_in nwl_X6_check nwe_329 (by decide +kernel)
theorem uX6_check_f256 : Cond.fieldLink RX6 256 "PigNinths$Row" "numbers" "[I" ∈ wsX6_check := nw_in nwl_X6_check nwe_508 (by decide +kernel)
set_option maxHeartbeats 4000000 in
set_option maxRecDepth 100000 in
theorem tX6_check_29 (K : XK p m c cX6_check 3 s args wsX6_check RX6 D (xtys cI cO) A meth (some .int)) {Q : Int32 → xF → xA → Prop} : ∀ (n : Nat), ∀ (x1 : Int32) (x2 : Int32) (F : xF) (G : xA), qX6_check_29 Q n x1 x2 F G → XJ p l e rmX6_check s m args below meth c 0 0 (MQ below (xQi D (w6 cI cO a) A Q) args s 0 0 A) D (xtys cI cO) A 3 (w6 cI cO a F G) 29 [(0, .ref (a 0)), (1, .int x1), (2, .int x2)] [] := by
  intro n
  induction n with
  | zero =>
    intro x1 x2 F G h
    exact False.elim h
  | succ n ih =>
    intro x1 x2 F G h
    refine x_iload_n (pc' := 30) K dX6_check_29 2 rfl rfl ?_
    refine x_iload_n (pc' := 31) K dX6_check_30 1 rfl rfl ?_
    refine x_icmp_ge (tgt := 64) (pc' := 34) K dX6_check_31 rfl rfl (fun c31 => ?_) (fun c31 => ?_)
    · replace h := h.1 c31
      refine x_iconst (pc' := 65) (v := 0) K dX6_check_64 (by decide) rfl ?_
      exact x_iret (wf := w6 cI cO a) K h dX6_check_65
    · replace h := h.2 c31
      refine x_aload_n (pc' := 35) K dX6_check_34 0 rfl rfl ?_
      refine xw6_0g_waiting (pc' := 38) K hinX6_check_X6 uX6_check_f25 dX6_check_35 rfl ?_
      refine xw6_79g_numbers (pc' := 41) K hinX6_check_X1 uX6_check_f256 dX6_check_38 rfl ?_
      refine x_iload_n (pc' := 42) K dX6_check_41 2 rfl rfl ?_
      obtain ⟨i42, h⟩ := h
      refine xw6_80l (pc' := 43) K i42 rfl dX6_check_42 rfl ?_
      refine x_aload_n (pc' := 44) K dX6_check_43 0 rfl rfl ?_
      refine xw6_0g_side (pc' := 47) K hinX6_check_X6 uX6_check_f41 dX6_check_44 rfl ?_
      refine x_iconst (pc' := 48) (v := -1) K dX6_check_47 (by decide) rfl ?_
      refine x_subI (pc' := 51) (wn := fun F' G' => w6 cI cO a (xspl F 14 7 F') (xspl G 28 14 G')) K (mX5_oneDay l D cI cO (xsub a 39) _) rfl gX6_check_X5_oneDay rfl dsX5_oneDay ⟨rfl, rfl, ⟨Nat.le_of_ble_eq_true rfl, Nat.le_of_ble_eq_true rfl⟩, Nat.le_of_ble_eq_true rfl, Nat.le_of_ble_eq_true rfl⟩ h 5 0 rfl rfl (xpl16 cI cO a _ _) (fun F' G' => xpr16 cI cO a _ _ F' G') (st := [.int _]) rfl rfl (Nat.le_of_ble_eq_true rfl) dX6_check_48 rfl (fun r48 F48 G48 h => ?_)
      obtain ⟨E48, eE48⟩ : ∃ x : xF, x = (xspl F 14 7 F48) := ⟨_, rfl⟩
      obtain ⟨H48, eH48⟩ : ∃ x : xA, x = (xspl G 28 14 G48) := ⟨_, rfl⟩
      refine x_weq (w' := w6 cI cO a E48 H48) (by subst eE48; subst eH48; rfl) ?_
      replace h := h E48 eE48
      replace h := h H48 eH48
      refine x_icmp_eq (tgt := 58) (pc' := 54) K dX6_check_51 rfl rfl (fun c51 => ?_) (fun c51 => ?_)
      · replace h := h.1 c51
        refine x_iinc (pc' := 61) (v := _ + (1 : Int32)) K dX6_check_58 2 rfl rfl (by decide) [1, 2, 0] (L' := [(0, .ref (a 0)), (1, .int _), (2, .int _)]) rfl rfl ?_
        refine x_goto (tgt := 29) K dX6_check_61 rfl ?_
        exact ih _ _ _ _ h
      · replace h := h.2 c51
        refine x_iconst (pc' := 55) (v := 1) K dX6_check_54 (by decide) rfl ?_
        refine x_iload_n (pc' := 56) K dX6_check_55 2 rfl rfl ?_
        refine x_iadd (pc' := 57) K dX6_check_56 rfl ?_
        exact x_iret (wf := w6 cI cO a) K h dX6_check_57
set_option maxHeartbeats 4000000 in
set_option maxRecDepth 100000 in
theorem mX6_check (l : Launch) (D : va_G) (cI cO : ClassId) (a : Nat → Nat)   : MI l yX6_check wsX6_check rmX6_check D (xtys cI cO) [.ref (a 0)] (w6 cI cO a) qX6_check := by
  refine MI_of (cc := cX6_check) (maxL := 3) (own := RX6) (by decide) rfl rfl (Nat.le_of_ble_eq_true rfl) ?_
  intro p e s m args below meth c A F G Q h K
  refine x_locals [0] (L' := [(0, .ref (a 0))]) rfl ?_
  refine x_aload_n (pc' := 1) K dX6_check_0 0 rfl rfl ?_
  refine xw6_0g_waiting (pc' := 4) K hinX6_check_X6 uX6_check_f25 dX6_check_1 rfl ?_
  refine xw6_79g_size (pc' := 7) K hinX6_check_X1 uX6_check_f135 dX6_check_4 rfl ?_
  refine x_istore_n (pc' := 8) (i := 1) K dX6_check_7 rfl (by decide) [1, 0] (L' := [(0, .ref (a 0)), (1, .int _)]) rfl rfl ?_
  refine x_aload_n (pc' := 9) K dX6_check_8 0 rfl rfl ?_
  refine xw6_0g_waiting (pc' := 12) K hinX6_check_X6 uX6_check_f25 dX6_check_9 rfl ?_
  refine x_iconst (pc' := 13) (v := 0) K dX6_check_12 (by decide) rfl ?_
  refine xw6_79p_size (pc' := 16) K hinX6_check_X1 uX6_check_f135 dX6_check_13 rfl (fun F13 eF13 => ?_)
  replace h := h F13 eF13
  refine x_aload_n (pc' := 17) K dX6_check_16 0 rfl rfl ?_
  refine xw6_0g_side (pc' := 20) K hinX6_check_X6 uX6_check_f41 dX6_check_17 rfl ?_
  refine x_aload_n (pc' := 21) K dX6_check_20 0 rfl rfl ?_
  refine xw6_0g_now (pc' := 24) K hinX6_check_X6 uX6_check_f10 dX6_check_21 rfl ?_
  refine x_subV (pc' := 27) (wn := fun F' G' => w6 cI cO a (xspl (xspl F13 14 7 F') 0 7 (xsub F' 7)) (xspl (xspl G 28 14 G') 0 14 (xsub G' 14))) K (mX5_takeFrom l D cI cO (xcat 19 (xsub a 39) (xsub a 1))) rfl gX6_check_X5_takeFrom rfl dsX5_takeFrom ⟨rfl, rfl, ⟨Nat.le_of_ble_eq_true rfl, Nat.le_of_ble_eq_true rfl⟩, Nat.le_of_ble_eq_true rfl, Nat.le_of_ble_eq_true rfl⟩ h 5 0 rfl rfl (xpl15 cI cO a _ _) (fun F' G' => xpr15 cI cO a _ _ F' G') (st := []) rfl rfl (Nat.le_of_ble_eq_true rfl) dX6_check_24 rfl (fun F24 G24 h => ?_)
  obtain ⟨E24, eE24⟩ : ∃ x : xF, x = (xspl (xspl F13 14 7 F24) 0 7 (xsub F24 7)) := ⟨_, rfl⟩
  obtain ⟨H24, eH24⟩ : ∃ x : xA, x = (xspl (xspl G 28 14 G24) 0 14 (xsub G24 14)) := ⟨_, rfl⟩
  refine x_weq (w' := w6 cI cO a E24 H24) (by subst eE24; subst eH24; rfl) ?_
  replace h := h E24 eE24
  replace h := h H24 eH24
  refine x_iconst (pc' := 28) (v := 0) K dX6_check_27 (by decide) rfl ?_
  refine x_istore_n (pc' := 29) (i := 2) K dX6_check_28 rfl (by decide) [1, 2, 0] (L' := [(0, .ref (a 0)), (1, .int _), (2, .int _)]) rfl rfl ?_
  obtain ⟨n29, h⟩ := h
  exact tX6_check_29 K n29 _ _ _ _ h
/-! X6_error -/
abbrev rmX6_error : Room := { frames := 2, cells := 0, slots := 0, locals := 60 }
theorem dsX6_error : xDesc yX6_error 1 := by decide +kernel
theorem uX6_error_f74 : Cond.fieldLink RX6 74 "PigNinths" "errors" "[I" ∈ wsX6_error := nw_in nwl_X6_error nwe_349 (by decide +kernel)
theorem hinX6_error_X6 : ∀ w ∈ wsX60, w ∈ wsX6_error := nw_all nwl_X6_error nwl_X60 (by decide +kernel)
theorem uX6_error_k260 : Jvm.Cond.constant RX6 260 (-1000000000) ∈ wsX6_error := nw_in nwl_X6_error nwe_365 (by decide +kernel)
set_option maxHeartbeats 4000000 in
set_option maxRecDepth 100000 in
theorem mX6_error (l : Launch) (D : va_G) (cI cO : ClassId) (a : Nat → Nat)  (x1 : Int32) : MI l yX6_error wsX6_error rmX6_error D (xtys cI cO) [.ref (a 0), .int x1] (w6 cI cO a) (qX6_error x1) := by
  refine MI_of (cc := cX6_error) (maxL := 2) (own := RX6) (by decide) rfl rfl (Nat.le_of_ble_eq_true rfl) ?_
  intro p e s m args below meth c A F G Q h K
  refine x_locals [0, 1] (L' := [(0, .ref (a 0)), (1, .int _)]) rfl ?_
  refine x_aload_n (pc' := 1) K dX6_error_0 0 rfl rfl ?_
  refine xw6_0g_errors (pc' := 4) K hinX6_error_X6 uX6_error_f74 dX6_error_1 rfl ?_
  refine x_iload_n (pc' := 5) K dX6_error_4 1 rfl rfl ?_
  refine x_dup2 (pc' := 6) K dX6_error_5 rfl rfl rfl ?_
  obtain ⟨i6, h⟩ := h
  refine xw6_87l (pc' := 7) K i6 rfl dX6_error_6 rfl ?_
  refine x_iconst (pc' := 8) (v := 1) K dX6_error_7 (by decide) rfl ?_
  refine x_iadd (pc' := 9) K dX6_error_8 rfl ?_
  obtain ⟨i9, h⟩ := h
  refine xw6_87s (pc' := 10) K i9 rfl dX6_error_9 rfl (fun G9 eG9 => ?_)
  replace h := h G9 eG9
  refine x_ldcw (pc' := 13) K dX6_error_10 uX6_error_k260 rfl ?_
  refine x_iload_n (pc' := 14) K dX6_error_13 1 rfl rfl ?_
  refine x_isub (pc' := 15) K dX6_error_14 rfl ?_
  exact x_iret (wf := w6 cI cO a) K h dX6_error_15
/-! X6_seekLeash -/
set_option maxHeartbeats 4000000 in
set_option maxRecDepth 100000 in
theorem xpl17 (cI : ClassId) (cO : ClassId) (a : Nat → Nat) (F : xF) (G : xA) : (w6 cI cO a F G).Perm (List.flatMap (bw6 cI cO a F G) [0, 1, 2, 3, 4, 5, 6, 7, 8, 9, 10, 11, 12, 13, 14, 15, 16, 33, 34, 35, 36, 37, 38, 39, 40, 41, 42, 43, 44, 45, 46, 47, 48, 49, 50, 51, 52, 53] ++ w55 cI (xcat 19 (xsub a 58) (xsub a 39)) (xcat 7 (xsub F 21) (xsub F 14)) (xcat 14 (xsub G 42) (xsub G 28))) := xpermF (bf := bw6 cI cO a F G) (ns := [0, 1, 2, 3, 4, 5, 6, 7, 8, 9, 10, 11, 12, 13, 14, 15, 16, 17, 18, 19, 20, 21, 22, 23, 24, 25, 26, 27, 28, 29, 30, 31, 32, 33, 34, 35, 36, 37, 38, 39, 40, 41, 42, 43, 44, 45, 46, 47, 48, 49, 50, 51, 52, 53]) rfl [0, 1, 2, 3, 4, 5, 6, 7, 8, 9, 10, 11, 12, 13, 14, 15, 16, 33, 34, 35, 36, 37, 38, 39, 40, 41, 42, 43, 44, 45, 46, 47, 48, 49, 50, 51, 52, 53] [25, 26, 27, 28, 29, 30, 31, 32, 17, 18, 19, 20, 21, 22, 23, 24] (by decide +kernel) rfl rfl
set_option maxHeartbeats 4000000 in
set_option maxRecDepth 100000 in
theorem xpr17 (cI : ClassId) (cO : ClassId) (a : Nat → Nat) (F : xF) (G : xA) (F' : xF) (G' : xA) : (w6 cI cO a (xspl (xspl F 21 7 F') 14 7 (xsub F' 7)) (xspl (xspl G 42 14 G') 28 14 (xsub G' 14))).Perm (List.flatMap (bw6 cI cO a F G) [0, 1, 2, 3, 4, 5, 6, 7, 8, 9, 10, 11, 12, 13, 14, 15, 16, 33, 34, 35, 36, 37, 38, 39, 40, 41, 42, 43, 44, 45, 46, 47, 48, 49, 50, 51, 52, 53] ++ w55 cI (xcat 19 (xsub a 58) (xsub a 39)) F' G') := xpermF (bf := bw6 cI cO a (xspl (xspl F 21 7 F') 14 7 (xsub F' 7)) (xspl (xspl G 42 14 G') 28 14 (xsub G' 14))) (ns := [0, 1, 2, 3, 4, 5, 6, 7, 8, 9, 10, 11, 12, 13, 14, 15, 16, 17, 18, 19, 20, 21, 22, 23, 24, 25, 26, 27, 28, 29, 30, 31, 32, 33, 34, 35, 36, 37, 38, 39, 40, 41, 42, 43, 44, 45, 46, 47, 48, 49, 50, 51, 52, 53]) rfl [0, 1, 2, 3, 4, 5, 6, 7, 8, 9, 10, 11, 12, 13, 14, 15, 16, 33, 34, 35, 36, 37, 38, 39, 40, 41, 42, 43, 44, 45, 46, 47, 48, 49, 50, 51, 52, 53] [25, 26, 27, 28, 29, 30, 31, 32, 17, 18, 19, 20, 21, 22, 23, 24] (by decide +kernel) rfl rfl
set_option maxHeartbeats 4000000 in
set_option maxRecDepth 100000 in
theorem xpl18 (cI : ClassId) (cO : ClassId) (a : Nat → Nat) (F : xF) (G : xA) : (w6 cI cO a F G).Perm (List.flatMap (bw6 cI cO a F G) [0, 1, 2, 3, 4, 5, 6, 7, 8, 9, 10, 11, 12, 13, 14, 15, 16, 17, 18, 19, 20, 21, 22, 23, 24, 33, 34, 35, 36, 37, 38, 39, 40, 41, 42, 43, 44, 45, 46, 47, 48, 49, 50, 51, 52, 53] ++ w5 cI (xsub a 58) (xsub F 21) (xsub G 42)) := xpermF (bf := bw6 cI cO a F G) (ns := [0, 1, 2, 3, 4, 5, 6, 7, 8, 9, 10, 11, 12, 13, 14, 15, 16, 17, 18, 19, 20, 21, 22, 23, 24, 25, 26, 27, 28, 29, 30, 31, 32, 33, 34, 35, 36, 37, 38, 39, 40, 41, 42, 43, 44, 45, 46, 47, 48, 49, 50, 51, 52, 53]) rfl [0, 1, 2, 3, 4, 5, 6, 7, 8, 9, 10, 11, 12, 13, 14, 15, 16, 17, 18, 19, 20, 21, 22, 23, 24, 33, 34, 35, 36, 37, 38, 39, 40, 41, 42, 43, 44, 45, 46, 47, 48, 49, 50, 51, 52, 53] [25, 26, 27, 28, 29, 30, 31, 32] (by decide +kernel) rfl rfl
set_option maxHeartbeats 4000000 in
set_option maxRecDepth 100000 in
theorem xpr18 (cI : ClassId) (cO : ClassId) (a : Nat → Nat) (F : xF) (G : xA) (F' : xF) (G' : xA) : (w6 cI cO a (xspl F 21 7 F') (xspl G 42 14 G')).Perm (List.flatMap (bw6 cI cO a F G) [0, 1, 2, 3, 4, 5, 6, 7, 8, 9, 10, 11, 12, 13, 14, 15, 16, 17, 18, 19, 20, 21, 22, 23, 24, 33, 34, 35, 36, 37, 38, 39, 40, 41, 42, 43, 44, 45, 46, 47, 48, 49, 50, 51, 52, 53] ++ w5 cI (xsub a 58) F' G') := xpermF (bf := bw6 cI cO a (xspl F 21 7 F') (xspl G 42 14 G')) (ns := [0, 1, 2, 3, 4, 5, 6, 7, 8, 9, 10, 11, 12, 13, 14, 15, 16, 17, 18, 19, 20, 21, 22, 23, 24, 25, 26, 27, 28, 29, 30, 31, 32, 33, 34, 35, 36, 37, 38, 39, 40, 41, 42, 43, 44, 45, 46, 47, 48, 49, 50, 51, 52, 53]) rfl [0, 1, 2, 3, 4, 5, 6, 7, 8, 9, 10, 11, 12, 13, 14, 15, 16, 17, 18, 19, 20, 21, 22, 23, 24, 33, 34, 35, 36, 37, 38, 39, 40, 41, 42, 43, 44, 45, 46, 47, 48, 49, 50, 51, 52, 53] [25, 26, 27, 28, 29, 30, 31, 32] (by decide +kernel) rfl rfl
abbrev rmX6_seekLeash : Room := { frames := 6, cells := 0, slots := 0, locals := 242 }
theorem dsX6_seekLeash : xDesc yX6_seekLeash 0 := by decide +kernel
theorem uX6_seekLeash_f41 : Cond.fieldLink RX6 41 "PigNinths" "side" "LPigNinths$World;" ∈ wsX6_seekLeash := nw_in nwl_X6_seekLeash nwe_337 (by decide +kernel)
theorem hinX6_seekLeash_X6 : ∀ w ∈ wsX60, w ∈ wsX6_seekLeash := nw_all nwl_X6_seekLeash nwl_X60 (by decide +kernel)
theorem uX6_seekLeash_f10 : Cond.fieldLink RX6 10 "PigNinths" "now" "LPigNinths$World;" ∈ wsX6_seekLeash := nw_in nwl_X6_seekLeash nwe_329 (by decide +kernel)
theorem uX6_seekLeash_f44 : Cond.fieldLink RX6 44 "PigNinths" "trial" "LPigNinths$World;" ∈ wsX6_seekLeash := nw_in nwl_X6_seekLeash nwe_338 (by decide +kernel)
theorem uX6_seekLeash_f47 : Cond.fieldLink RX6 47 "PigNinths" "best" "[I" ∈ wsX6_seekLeash := nw_in nwl_X6_seekLeash nwe_339 (by decide +kernel)
theorem uX6_seekLeash_f126 : Cond.fieldLink RX6 126 "PigNinths$World" "leash" "[I" ∈ wsX6_seekLeash := nw_in nwl_X6_seekLeash nwe_399 (by decide +kernel)
theorem hinX6_seekLeash_X5 : ∀ w ∈ wsX50, w ∈ wsX6_seekLeash := nw_all nwl_X6_seekLeash nwl_X50 (by decide +kernel)
theorem uX6_seekLeash_m246 : Cond.methodLink RX6 246 arraycopyName ∈ wsX6_seekLeash := nw_in nwl_X6_seekLeash nwe_442 (by decide +kernel)
theorem uX6_seekLeash_cn : Cond.native arraycopyName ∈ wsX6_seekLeash := nw_in nwl_X6_seekLeash nwe_99 (by decide +kernel)
theorem uX6_seekLeash_cs : Cond.static arraycopyName ∈ wsX6_seekLeash := nw_in nwl_X6_seekLeash nwe_100 (by decide +kernel)
theorem uX6_seekLeash_ci : Cond.initialized "java/lang/System" ∈ wsX6_seekLeash := nw_in nwl_X6_seekLeash nwe_101 (by decide +kernel)
theorem uX6_seekLeash_f267 : Cond.fieldLink RX6 267 "PigNinths" "ROW_PLACES" "[I" ∈ wsX6_seekLeash := nw_in nwl_X6_seekLeash nwe_441 (by decide +kernel)
set_option maxHeartbeats 4000000 in
set_option maxRecDepth 100000 in
theorem tX6_seekLeash_66 (K : XK p m c cX6_seekLeash 4 s args wsX6_seekLeash RX6 D (xtys cI cO) A meth none) {Q : xF → xA → Prop} {k46 : Int32 → Int32 → xF → xA → Prop} (hk46 : ∀ (x1 : Int32) (x2 : Int32) (F : xF) (G : xA), k46 x1 x2 F G → XJ p l e rmX6_seekLeash s m args below meth c 0 0 (MQ below (xQv D (w6 cI cO a) A Q) args s 0 0 A) D (xtys cI cO) A 4 (w6 cI cO a F G) 46 [(0, .ref (a 0)), (1, .int x1), (2, .int x2)] []) : ∀ (n : Nat), ∀ (x1 : Int32) (x2 : Int32) (x3 : Int32) (F : xF) (G : xA), qX6_seekLeash_66 Q k46 n x1 x2 x3 F G → XJ p l e rmX6_seekLeash s m args below meth c 0 0 (MQ below (xQv D (w6 cI cO a) A Q) args s 0 0 A) D (xtys cI cO) A 4 (w6 cI cO a F G) 66 [(0, .ref (a 0)), (1, .int x1), (2, .int x2), (3, .int x3)] [] := by
  intro n
  induction n with
  | zero =>
    intro x1 x2 x3 F G h
    exact False.elim h
  | succ n ih =>
    intro x1 x2 x3 F G h
    refine x_iload_n (pc' := 67) K dX6_seekLeash_66 3 rfl rfl ?_
    refine x_iconst (pc' := 68) (v := 4) K dX6_seekLeash_67 (by decide) rfl ?_
    refine x_icmp_ge (tgt := 99) (pc' := 71) K dX6_seekLeash_68 rfl rfl (fun c68 => ?_) (fun c68 => ?_)
    · replace h := h.1 c68
      refine x_aload_n (pc' := 100) K dX6_seekLeash_99 0 rfl rfl ?_
      refine xw6_0g_trial (pc' := 103) K hinX6_seekLeash_X6 uX6_seekLeash_f44 dX6_seekLeash_100 rfl ?_
      refine x_iload_n (pc' := 104) K dX6_seekLeash_103 1 rfl rfl ?_
      refine x_subI (pc' := 107) (wn := fun F' G' => w6 cI cO a (xspl F 21 7 F') (xspl G 42 14 G')) K (mX5_hours l D cI cO (xsub a 58) _) rfl gX6_seekLeash_X5_hours rfl dsX5_hours ⟨rfl, rfl, ⟨Nat.le_of_ble_eq_true rfl, Nat.le_of_ble_eq_true rfl⟩, Nat.le_of_ble_eq_true rfl, Nat.le_of_ble_eq_true rfl⟩ h 5 0 rfl rfl (xpl18 cI cO a _ _) (fun F' G' => xpr18 cI cO a _ _ F' G') (st := []) rfl rfl (Nat.le_of_ble_eq_true rfl) dX6_seekLeash_104 rfl (fun r104 F104 G104 h => ?_)
      obtain ⟨E104, eE104⟩ : ∃ x : xF, x = (xspl F 21 7 F104) := ⟨_, rfl⟩
      obtain ⟨H104, eH104⟩ : ∃ x : xA, x = (xspl G 42 14 G104) := ⟨_, rfl⟩
      refine x_weq (w' := w6 cI cO a E104 H104) (by subst eE104; subst eH104; rfl) ?_
      replace h := h E104 eE104
      replace h := h H104 eH104
      refine x_istore_n (pc' := 108) (i := 3) K dX6_seekLeash_107 rfl (by decide) [1, 2, 3, 0] (L' := [(0, .ref (a 0)), (1, .int _), (2, .int _), (3, .int _)]) rfl rfl ?_
      refine x_iload_n (pc' := 109) K dX6_seekLeash_108 3 rfl rfl ?_
      refine x_aload_n (pc' := 110) K dX6_seekLeash_109 0 rfl rfl ?_
      refine xw6_0g_best (pc' := 113) K hinX6_seekLeash_X6 uX6_seekLeash_f47 dX6_seekLeash_110 rfl ?_
      refine x_iconst (pc' := 114) (v := 0) K dX6_seekLeash_113 (by decide) rfl ?_
      refine xw6_85l (pc' := 115) K (j := 0) (xin_of (by decide +kernel)) (by decide +kernel) dX6_seekLeash_114 rfl ?_
      refine x_icmp_le (tgt := 144) (pc' := 118) K dX6_seekLeash_115 rfl rfl (fun c115 => ?_) (fun c115 => ?_)
      · replace h := h.1 c115
        refine x_iinc (pc' := 147) (v := _ + (1 : Int32)) K dX6_seekLeash_144 2 rfl rfl (by decide) [1, 2, 0, 3] (L' := [(0, .ref (a 0)), (1, .int _), (2, .int _), (3, .int _)]) rfl rfl ?_
        refine x_goto (tgt := 46) K dX6_seekLeash_147 rfl ?_
        refine x_locals [0, 1, 2] (L' := [(0, .ref (a 0)), (1, .int _), (2, .int _)]) rfl ?_
        exact hk46 _ _ _ _ h
      · replace h := h.2 c115
        refine x_aload_n (pc' := 119) K dX6_seekLeash_118 0 rfl rfl ?_
        refine xw6_0g_best (pc' := 122) K hinX6_seekLeash_X6 uX6_seekLeash_f47 dX6_seekLeash_119 rfl ?_
        refine x_iconst (pc' := 123) (v := 0) K dX6_seekLeash_122 (by decide) rfl ?_
        refine x_iload_n (pc' := 124) K dX6_seekLeash_123 3 rfl rfl ?_
        refine xw6_85s (pc' := 125) K (j := 0) (xin_of (by decide +kernel)) (by decide +kernel) dX6_seekLeash_124 rfl (fun G124 eG124 => ?_)
        replace h := h G124 eG124
        refine x_aload_n (pc' := 126) K dX6_seekLeash_125 0 rfl rfl ?_
        refine xw6_0g_trial (pc' := 129) K hinX6_seekLeash_X6 uX6_seekLeash_f44 dX6_seekLeash_126 rfl ?_
        refine xw6_58g_leash (pc' := 132) K hinX6_seekLeash_X5 uX6_seekLeash_f126 dX6_seekLeash_129 rfl ?_
        refine x_iconst (pc' := 133) (v := 4) K dX6_seekLeash_132 (by decide) rfl ?_
        refine x_iload_n (pc' := 134) K dX6_seekLeash_133 1 rfl rfl ?_
        refine x_imul (pc' := 135) K dX6_seekLeash_134 rfl ?_
        refine x_aload_n (pc' := 136) K dX6_seekLeash_135 0 rfl rfl ?_
        refine xw6_0g_best (pc' := 139) K hinX6_seekLeash_X6 uX6_seekLeash_f47 dX6_seekLeash_136 rfl ?_
        refine x_iconst (pc' := 140) (v := 1) K dX6_seekLeash_139 (by decide) rfl ?_
        refine x_iconst (pc' := 141) (v := 4) K dX6_seekLeash_140 (by decide) rfl ?_
        obtain ⟨z141s, h⟩ := h
        obtain ⟨z141p, h⟩ := h
        refine x_copy (pc' := 144) (w' := w6 cI cO a E104 (va_up G124 60 (va_cpy (G124 49) (G124 60) ((4 : Int32) * x1).toNatClampNeg (1 : Int32).toNatClampNeg (4 : Int32).toNatClampNeg))) K uX6_seekLeash_m246 uX6_seekLeash_cn uX6_seekLeash_cs uX6_seekLeash_ci 66 85 (f := G124 49) (g := G124 60) (n0 := 36) (n1 := 5) (cA := cI) rfl rfl rfl z141s (by decide) (by decide) z141p (by decide +kernel) rfl (by decide +kernel) (by decide +kernel) dX6_seekLeash_141 rfl ?_
        obtain ⟨G141, eG141⟩ : ∃ x : xA, x = va_up G124 60 (va_cpy (G124 49) (G124 60) ((4 : Int32) * x1).toNatClampNeg (1 : Int32).toNatClampNeg (4 : Int32).toNatClampNeg) := ⟨_, rfl⟩
        refine x_weq (w' := w6 cI cO a E104 G141) (by subst eG141; rfl) ?_
        replace h := h G141 eG141
        refine x_iinc (pc' := 147) (v := _ + (1 : Int32)) K dX6_seekLeash_144 2 rfl rfl (by decide) [1, 2, 0, 3] (L' := [(0, .ref (a 0)), (1, .int _), (2, .int _), (3, .int _)]) rfl rfl ?_
        refine x_goto (tgt := 46) K dX6_seekLeash_147 rfl ?_
        refine x_locals [0, 1, 2] (L' := [(0, .ref (a 0)), (1, .int _), (2, .int _)]) rfl ?_
        exact hk46 _ _ _ _ h
    · replace h := h.2 c68
      refine x_aload_n (pc' := 72) K dX6_seekLeash_71 0 rfl rfl ?_
      refine xw6_0g_trial (pc' := 75) K hinX6_seekLeash_X6 uX6_seekLeash_f44 dX6_seekLeash_72 rfl ?_
      refine xw6_58g_leash (pc' := 78) K hinX6_seekLeash_X5 uX6_seekLeash_f126 dX6_seekLeash_75 rfl ?_
      refine x_iconst (pc' := 79) (v := 4) K dX6_seekLeash_78 (by decide) rfl ?_
      refine x_iload_n (pc' := 80) K dX6_seekLeash_79 1 rfl rfl ?_
      refine x_imul (pc' := 81) K dX6_seekLeash_80 rfl ?_
      refine x_iload_n (pc' := 82) K dX6_seekLeash_81 3 rfl rfl ?_
      refine x_iadd (pc' := 83) K dX6_seekLeash_82 rfl ?_
      refine x_iload_n (pc' := 84) K dX6_seekLeash_83 2 rfl rfl ?_
      refine x_tab (pc' := 87) K K.2.2.2.1.2.1 uX6_seekLeash_f267 dX6_seekLeash_84 rfl (fun t84 ht84 => ?_)
      refine x_iload_n (pc' := 88) K dX6_seekLeash_87 3 rfl rfl ?_
      obtain ⟨i88, h⟩ := h
      refine x_tabi (pc' := 89) K ht84 i88 dX6_seekLeash_88 rfl ?_
      obtain ⟨z89, h⟩ := h
      refine x_idiv (pc' := 90) K dX6_seekLeash_89 z89 rfl ?_
      refine x_iconst (pc' := 91) (v := 5) K dX6_seekLeash_90 (by decide) rfl ?_
      refine x_irem (pc' := 92) K dX6_seekLeash_91 (by decide) rfl ?_
      obtain ⟨i92, h⟩ := h
      refine xw6_66s (pc' := 93) K i92 rfl dX6_seekLeash_92 rfl (fun G92 eG92 => ?_)
      replace h := h G92 eG92
      refine x_iinc (pc' := 96) (v := _ + (1 : Int32)) K dX6_seekLeash_93 3 rfl rfl (by decide) [1, 2, 3, 0] (L' := [(0, .ref (a 0)), (1, .int _), (2, .int _), (3, .int _)]) rfl rfl ?_
      refine x_goto (tgt := 66) K dX6_seekLeash_96 rfl ?_
      exact ih _ _ _ _ _ h
set_option maxHeartbeats 4000000 in
set_option maxRecDepth 100000 in
theorem tX6_seekLeash_46 (K : XK p m c cX6_seekLeash 4 s args wsX6_seekLeash RX6 D (xtys cI cO) A meth none) {Q : xF → xA → Prop} : ∀ (n : Nat), ∀ (x1 : Int32) (x2 : Int32) (F : xF) (G : xA), qX6_seekLeash_46 Q n x1 x2 F G → XJ p l e rmX6_seekLeash s m args below meth c 0 0 (MQ below (xQv D (w6 cI cO a) A Q) args s 0 0 A) D (xtys cI cO) A 4 (w6 cI cO a F G) 46 [(0, .ref (a 0)), (1, .int x1), (2, .int x2)] [] := by
  intro n
  induction n with
  | zero =>
    intro x1 x2 F G h
    exact False.elim h
  | succ n ih =>
    intro x1 x2 F G h
    refine x_iload_n (pc' := 47) K dX6_seekLeash_46 2 rfl rfl ?_
    refine x_sipush (pc' := 50) (v := 625) K dX6_seekLeash_47 (by decide) rfl ?_
    refine x_icmp_ge (tgt := 150) (pc' := 53) K dX6_seekLeash_50 rfl rfl (fun c50 => ?_) (fun c50 => ?_)
    · replace h := h.1 c50
      exact x_vret (wf := w6 cI cO a) K h dX6_seekLeash_150
    · replace h := h.2 c50
      refine x_aload_n (pc' := 54) K dX6_seekLeash_53 0 rfl rfl ?_
      refine xw6_0g_trial (pc' := 57) K hinX6_seekLeash_X6 uX6_seekLeash_f44 dX6_seekLeash_54 rfl ?_
      refine x_aload_n (pc' := 58) K dX6_seekLeash_57 0 rfl rfl ?_
      refine xw6_0g_side (pc' := 61) K hinX6_seekLeash_X6 uX6_seekLeash_f41 dX6_seekLeash_58 rfl ?_
      refine x_subV (pc' := 64) (wn := fun F' G' => w6 cI cO a (xspl (xspl F 21 7 F') 14 7 (xsub F' 7)) (xspl (xspl G 42 14 G') 28 14 (xsub G' 14))) K (mX5_takeWoodFrom l D cI cO (xcat 19 (xsub a 58) (xsub a 39))) rfl gX6_seekLeash_X5_takeWoodFrom rfl dsX5_takeWoodFrom ⟨rfl, rfl, ⟨Nat.le_of_ble_eq_true rfl, Nat.le_of_ble_eq_true rfl⟩, Nat.le_of_ble_eq_true rfl, Nat.le_of_ble_eq_true rfl⟩ h 5 0 rfl rfl (xpl17 cI cO a _ _) (fun F' G' => xpr17 cI cO a _ _ F' G') (st := []) rfl rfl (Nat.le_of_ble_eq_true rfl) dX6_seekLeash_61 rfl (fun F61 G61 h => ?_)
      obtain ⟨E61, eE61⟩ : ∃ x : xF, x = (xspl (xspl F 21 7 F61) 14 7 (xsub F61 7)) := ⟨_, rfl⟩
      obtain ⟨H61, eH61⟩ : ∃ x : xA, x = (xspl (xspl G 42 14 G61) 28 14 (xsub G61 14)) := ⟨_, rfl⟩
      refine x_weq (w' := w6 cI cO a E61 H61) (by subst eE61; subst eH61; rfl) ?_
      replace h := h E61 eE61
      replace h := h H61 eH61
      refine x_iconst (pc' := 65) (v := 0) K dX6_seekLeash_64 (by decide) rfl ?_
      refine x_istore_n (pc' := 66) (i := 3) K dX6_seekLeash_65 rfl (by decide) [1, 2, 3, 0] (L' := [(0, .ref (a 0)), (1, .int _), (2, .int _), (3, .int _)]) rfl rfl ?_
      obtain ⟨n66, h⟩ := h
      exact tX6_seekLeash_66 K (fun x1 x2 F G h => ih x1 x2 F G h) n66 _ _ _ _ _ h
set_option maxHeartbeats 4000000 in
set_option maxRecDepth 100000 in
theorem mX6_seekLeash (l : Launch) (D : va_G) (cI cO : ClassId) (a : Nat → Nat)   : MV l yX6_seekLeash wsX6_seekLeash rmX6_seekLeash D (xtys cI cO) [.ref (a 0)] (w6 cI cO a) qX6_seekLeash := by
  refine MV_of (cc := cX6_seekLeash) (maxL := 4) (own := RX6) (by decide) rfl rfl (Nat.le_of_ble_eq_true rfl) ?_
  intro p e s m args below meth c A F G Q h K
  refine x_locals [0] (L' := [(0, .ref (a 0))]) rfl ?_
  refine x_aload_n (pc' := 1) K dX6_seekLeash_0 0 rfl rfl ?_
  refine xw6_0g_side (pc' := 4) K hinX6_seekLeash_X6 uX6_seekLeash_f41 dX6_seekLeash_1 rfl ?_
  refine x_aload_n (pc' := 5) K dX6_seekLeash_4 0 rfl rfl ?_
  refine xw6_0g_now (pc' := 8) K hinX6_seekLeash_X6 uX6_seekLeash_f10 dX6_seekLeash_5 rfl ?_
  refine x_subV (pc' := 11) (wn := fun F' G' => w6 cI cO a (xspl (xspl F 14 7 F') 0 7 (xsub F' 7)) (xspl (xspl G 28 14 G') 0 14 (xsub G' 14))) K (mX5_takeFrom l D cI cO (xcat 19 (xsub a 39) (xsub a 1))) rfl gX6_seekLeash_X5_takeFrom rfl dsX5_takeFrom ⟨rfl, rfl, ⟨Nat.le_of_ble_eq_true rfl, Nat.le_of_ble_eq_true rfl⟩, Nat.le_of_ble_eq_true rfl, Nat.le_of_ble_eq_true rfl⟩ h 5 0 rfl rfl (xpl15 cI cO a _ _) (fun F' G' => xpr15 cI cO a _ _ F' G') (st := []) rfl rfl (Nat.le_of_ble_eq_true rfl) dX6_seekLeash_8 rfl (fun F8 G8 h => ?_)
  obtain ⟨E8, eE8⟩ : ∃ x : xF, x = (xspl (xspl F 14 7 F8) 0 7 (xsub F8 7)) := ⟨_, rfl⟩
  obtain ⟨H8, eH8⟩ : ∃ x : xA, x = (xspl (xspl G 28 14 G8) 0 14 (xsub G8 14)) := ⟨_, rfl⟩
  refine x_weq (w' := w6 cI cO a E8 H8) (by subst eE8; subst eH8; rfl) ?_
  replace h := h E8 eE8
  replace h := h H8 eH8
  refine x_aload_n (pc' := 12) K dX6_seekLeash_11 0 rfl rfl ?_
  refine xw6_0g_side (pc' := 15) K hinX6_seekLeash_X6 uX6_seekLeash_f41 dX6_seekLeash_12 rfl ?_
  refine x_subV (pc' := 18) (wn := fun F' G' => w6 cI cO a (xspl E8 14 7 F') (xspl H8 28 14 G')) K (mX5_morning l D cI cO (xsub a 39)) rfl gX6_seekLeash_X5_morning rfl dsX5_morning ⟨rfl, rfl, ⟨Nat.le_of_ble_eq_true rfl, Nat.le_of_ble_eq_true rfl⟩, Nat.le_of_ble_eq_true rfl, Nat.le_of_ble_eq_true rfl⟩ h 5 0 rfl rfl (xpl16 cI cO a _ _) (fun F' G' => xpr16 cI cO a _ _ F' G') (st := []) rfl rfl (Nat.le_of_ble_eq_true rfl) dX6_seekLeash_15 rfl (fun F15 G15 h => ?_)
  obtain ⟨E15, eE15⟩ : ∃ x : xF, x = (xspl E8 14 7 F15) := ⟨_, rfl⟩
  obtain ⟨H15, eH15⟩ : ∃ x : xA, x = (xspl H8 28 14 G15) := ⟨_, rfl⟩
  refine x_weq (w' := w6 cI cO a E15 H15) (by subst eE15; subst eH15; rfl) ?_
  replace h := h E15 eE15
  replace h := h H15 eH15
  refine x_aload_n (pc' := 19) K dX6_seekLeash_18 0 rfl rfl ?_
  refine xw6_0g_trial (pc' := 22) K hinX6_seekLeash_X6 uX6_seekLeash_f44 dX6_seekLeash_19 rfl ?_
  refine x_aload_n (pc' := 23) K dX6_seekLeash_22 0 rfl rfl ?_
  refine xw6_0g_side (pc' := 26) K hinX6_seekLeash_X6 uX6_seekLeash_f41 dX6_seekLeash_23 rfl ?_
  refine x_subV (pc' := 29) (wn := fun F' G' => w6 cI cO a (xspl (xspl E15 21 7 F') 14 7 (xsub F' 7)) (xspl (xspl H15 42 14 G') 28 14 (xsub G' 14))) K (mX5_takeFrom l D cI cO (xcat 19 (xsub a 58) (xsub a 39))) rfl gX6_seekLeash_X5_takeFrom rfl dsX5_takeFrom ⟨rfl, rfl, ⟨Nat.le_of_ble_eq_true rfl, Nat.le_of_ble_eq_true rfl⟩, Nat.le_of_ble_eq_true rfl, Nat.le_of_ble_eq_true rfl⟩ h 5 0 rfl rfl (xpl17 cI cO a _ _) (fun F' G' => xpr17 cI cO a _ _ F' G') (st := []) rfl rfl (Nat.le_of_ble_eq_true rfl) dX6_seekLeash_26 rfl (fun F26 G26 h => ?_)
  obtain ⟨E26, eE26⟩ : ∃ x : xF, x = (xspl (xspl E15 21 7 F26) 14 7 (xsub F26 7)) := ⟨_, rfl⟩
  obtain ⟨H26, eH26⟩ : ∃ x : xA, x = (xspl (xspl H15 42 14 G26) 28 14 (xsub G26 14)) := ⟨_, rfl⟩
  refine x_weq (w' := w6 cI cO a E26 H26) (by subst eE26; subst eH26; rfl) ?_
  replace h := h E26 eE26
  replace h := h H26 eH26
  refine x_aload_n (pc' := 30) K dX6_seekLeash_29 0 rfl rfl ?_
  refine xw6_0g_side (pc' := 33) K hinX6_seekLeash_X6 uX6_seekLeash_f41 dX6_seekLeash_30 rfl ?_
  refine x_subI (pc' := 36) (wn := fun F' G' => w6 cI cO a (xspl E26 14 7 F') (xspl H26 28 14 G')) K (mX5_whoHasIt l D cI cO (xsub a 39)) rfl gX6_seekLeash_X5_whoHasIt rfl dsX5_whoHasIt ⟨rfl, rfl, ⟨Nat.le_of_ble_eq_true rfl, Nat.le_of_ble_eq_true rfl⟩, Nat.le_of_ble_eq_true rfl, Nat.le_of_ble_eq_true rfl⟩ h 5 0 rfl rfl (xpl16 cI cO a _ _) (fun F' G' => xpr16 cI cO a _ _ F' G') (st := []) rfl rfl (Nat.le_of_ble_eq_true rfl) dX6_seekLeash_33 rfl (fun r33 F33 G33 h => ?_)
  obtain ⟨E33, eE33⟩ : ∃ x : xF, x = (xspl E26 14 7 F33) := ⟨_, rfl⟩
  obtain ⟨H33, eH33⟩ : ∃ x : xA, x = (xspl H26 28 14 G33) := ⟨_, rfl⟩
  refine x_weq (w' := w6 cI cO a E33 H33) (by subst eE33; subst eH33; rfl) ?_
  replace h := h E33 eE33
  replace h := h H33 eH33
  refine x_istore_n (pc' := 37) (i := 1) K dX6_seekLeash_36 rfl (by decide) [1, 0] (L' := [(0, .ref (a 0)), (1, .int _)]) rfl rfl ?_
  refine x_aload_n (pc' := 38) K dX6_seekLeash_37 0 rfl rfl ?_
  refine xw6_0g_best (pc' := 41) K hinX6_seekLeash_X6 uX6_seekLeash_f47 dX6_seekLeash_38 rfl ?_
  refine x_iconst (pc' := 42) (v := 0) K dX6_seekLeash_41 (by decide) rfl ?_
  refine x_iconst (pc' := 43) (v := -1) K dX6_seekLeash_42 (by decide) rfl ?_
  refine xw6_85s (pc' := 44) K (j := 0) (xin_of (by decide +kernel)) (by decide +kernel) dX6_seekLeash_43 rfl (fun G43 eG43 => ?_)
  replace h := h G43 eG43
  refine x_iconst (pc' := 45) (v := 0) K dX6_seekLeash_44 (by decide) rfl ?_
  refine x_istore_n (pc' := 46) (i := 2) K dX6_seekLeash_45 rfl (by decide) [1, 2, 0] (L' := [(0, .ref (a 0)), (1, .int _), (2, .int _)]) rfl rfl ?_
  obtain ⟨n46, h⟩ := h
  exact tX6_seekLeash_46 K n46 _ _ _ _ h
/-! X6_within -/
abbrev rmX6_within : Room := { frames := 2, cells := 0, slots := 0, locals := 60 }
theorem dsX6_within : xDesc yX6_within 3 := by decide +kernel
set_option maxHeartbeats 4000000 in
set_option maxRecDepth 100000 in
theorem mX6_within (l : Launch) (D : va_G) (cI cO : ClassId) (a : Nat → Nat)  (x0 : Int32) (x1 : Int32) (x2 : Int32) : MS l yX6_within wsX6_within rmX6_within D (xtys cI cO) [.int x0, .int x1, .int x2] (qX6_within x0 x1 x2) := by
  refine MSZ_of (cc := cX6_within) (maxL := 3) (own := RX6) (by decide) rfl rfl (Nat.le_of_ble_eq_true rfl) ?_
  intro p e s m args below meth c A Q h K
  refine x_locals [0, 1, 2] (L' := [(0, .int _), (1, .int _), (2, .int _)]) rfl ?_
  refine x_iload_n (pc' := 1) K dX6_within_0 0 rfl rfl ?_
  refine x_iload_n (pc' := 2) K dX6_within_1 1 rfl rfl ?_
  refine x_icmp_lt (tgt := 14) (pc' := 5) K dX6_within_2 rfl rfl (fun c2 => ?_) (fun c2 => ?_)
  · replace h := h.1 c2
    refine x_iconst (pc' := 15) (v := 0) K dX6_within_14 (by decide) rfl ?_
    exact x_szret K (Or.inl rfl) h dX6_within_15
  · replace h := h.2 c2
    refine x_iload_n (pc' := 6) K dX6_within_5 0 rfl rfl ?_
    refine x_iload_n (pc' := 7) K dX6_within_6 2 rfl rfl ?_
    refine x_icmp_gt (tgt := 14) (pc' := 10) K dX6_within_7 rfl rfl (fun c7 => ?_) (fun c7 => ?_)
    · replace h := h.1 c7
      refine x_iconst (pc' := 15) (v := 0) K dX6_within_14 (by decide) rfl ?_
      exact x_szret K (Or.inl rfl) h dX6_within_15
    · replace h := h.2 c7
      refine x_iconst (pc' := 11) (v := 1) K dX6_within_10 (by decide) rfl ?_
      refine x_goto (tgt := 15) K dX6_within_11 rfl ?_
      exact x_szret K (Or.inr rfl) h dX6_within_15
/-! X6_isOak -/
abbrev rmX6_isOak : Room := { frames := 3, cells := 0, slots := 0, locals := 82 }
theorem dsX6_isOak : xDesc yX6_isOak 1 := by decide +kernel
set_option maxHeartbeats 4000000 in
set_option maxRecDepth 100000 in
theorem mX6_isOak (l : Launch) (D : va_G) (cI cO : ClassId) (a : Nat → Nat)  (x0 : Int32) : MS l yX6_isOak wsX6_isOak rmX6_isOak D (xtys cI cO) [.int x0] (qX6_isOak x0) := by
  refine MSZ_of (cc := cX6_isOak) (maxL := 1) (own := RX6) (by decide) rfl rfl (Nat.le_of_ble_eq_true rfl) ?_
  intro p e s m args below meth c A Q h K
  refine x_locals [0] (L' := [(0, .int _)]) rfl ?_
  refine x_iload_n (pc' := 1) K dX6_isOak_0 0 rfl rfl ?_
  refine x_iconst (pc' := 2) (v := 0) K dX6_isOak_1 (by decide) rfl ?_
  refine x_bipush (pc' := 4) (v := 15) K dX6_isOak_2 (by decide) rfl ?_
  refine x_callS (pc' := 7) K (mX6_within l D cI cO a _ _ _) rfl gX6_isOak_X6_within dsX6_within ⟨rfl, rfl, ⟨Nat.le_of_ble_eq_true rfl, Nat.le_of_ble_eq_true rfl⟩, Nat.le_of_ble_eq_true rfl, Nat.le_of_ble_eq_true rfl⟩ h (st := []) rfl rfl (Nat.le_of_ble_eq_true rfl) dX6_isOak_4 rfl (fun r4 h => ?_)
  obtain ⟨z7, h⟩ := h
  exact x_szret K z7 h dX6_isOak_7
/-! X6_isFarmer -/
abbrev rmX6_isFarmer : Room := { frames := 3, cells := 0, slots := 0, locals := 82 }
theorem dsX6_isFarmer : xDesc yX6_isFarmer 1 := by decide +kernel
set_option maxHeartbeats 4000000 in
set_option maxRecDepth 100000 in
theorem mX6_isFarmer (l : Launch) (D : va_G) (cI cO : ClassId) (a : Nat → Nat)  (x0 : Int32) : MS l yX6_isFarmer wsX6_isFarmer rmX6_isFarmer D (xtys cI cO) [.int x0] (qX6_isFarmer x0) := by
  refine MSZ_of (cc := cX6_isFarmer) (maxL := 1) (own := RX6) (by decide) rfl rfl (Nat.le_of_ble_eq_true rfl) ?_
  intro p e s m args below meth c A Q h K
  refine x_locals [0] (L' := [(0, .int _)]) rfl ?_
  refine x_iload_n (pc' := 1) K dX6_isFarmer_0 0 rfl rfl ?_
  refine x_iconst (pc' := 2) (v := 0) K dX6_isFarmer_1 (by decide) rfl ?_
  refine x_bipush (pc' := 4) (v := 8) K dX6_isFarmer_2 (by decide) rfl ?_
  refine x_callS (pc' := 7) K (mX6_within l D cI cO a _ _ _) rfl gX6_isFarmer_X6_within dsX6_within ⟨rfl, rfl, ⟨Nat.le_of_ble_eq_true rfl, Nat.le_of_ble_eq_true rfl⟩, Nat.le_of_ble_eq_true rfl, Nat.le_of_ble_eq_true rfl⟩ h (st := []) rfl rfl (Nat.le_of_ble_eq_true rfl) dX6_isFarmer_4 rfl (fun r4 h => ?_)
  obtain ⟨z7, h⟩ := h
  exact x_szret K z7 h dX6_isFarmer_7
/-! X6_isSheet -/
abbrev rmX6_isSheet : Room := { frames := 3, cells := 0, slots := 0, locals := 82 }
theorem dsX6_isSheet : xDesc yX6_isSheet 1 := by decide +kernel
set_option maxHeartbeats 4000000 in
set_option maxRecDepth 100000 in
theorem mX6_isSheet (l : Launch) (D : va_G) (cI cO : ClassId) (a : Nat → Nat)  (x0 : Int32) : MS l yX6_isSheet wsX6_isSheet rmX6_isSheet D (xtys cI cO) [.int x0] (qX6_isSheet x0) := by
  refine MSZ_of (cc := cX6_isSheet) (maxL := 1) (own := RX6) (by decide) rfl rfl (Nat.le_of_ble_eq_true rfl) ?_
  intro p e s m args below meth c A Q h K
  refine x_locals [0] (L' := [(0, .int _)]) rfl ?_
  refine x_iload_n (pc' := 1) K dX6_isSheet_0 0 rfl rfl ?_
  refine x_iconst (pc' := 2) (v := 0) K dX6_isSheet_1 (by decide) rfl ?_
  refine x_iconst (pc' := 3) (v := 3) K dX6_isSheet_2 (by decide) rfl ?_
  refine x_callS (pc' := 6) K (mX6_within l D cI cO a _ _ _) rfl gX6_isSheet_X6_within dsX6_within ⟨rfl, rfl, ⟨Nat.le_of_ble_eq_true rfl, Nat.le_of_ble_eq_true rfl⟩, Nat.le_of_ble_eq_true rfl, Nat.le_of_ble_eq_true rfl⟩ h (st := []) rfl rfl (Nat.le_of_ble_eq_true rfl) dX6_isSheet_3 rfl (fun r3 h => ?_)
  obtain ⟨z6, h⟩ := h
  exact x_szret K z6 h dX6_isSheet_6
/-! X6_isOfKind -/
abbrev rmX6_isOfKind : Room := { frames := 2, cells := 0, slots := 0, locals := 60 }
theorem dsX6_isOfKind : xDesc yX6_isOfKind 2 := by decide +kernel
theorem uX6_isOfKind_f280 : Cond.fieldLink RX6 280 "PigNinths" "ABOVE" "[I" ∈ wsX6_isOfKind := nw_in nwl_X6_isOfKind nwe_389 (by decide +kernel)
set_option maxHeartbeats 4000000 in
set_option maxRecDepth 100000 in
theorem tX6_isOfKind_4 (K : XK p m c cX6_isOfKind 4 s args wsX6_isOfKind RX6 D (xtys cI cO) A meth (some .boolean)) {Q : Int32 → Prop} : ∀ (n : Nat), ∀ (x1 : Int32) (x2 : Int32) (x3 : Int32), qX6_isOfKind_4 Q n x1 x2 x3 → XJ p l e rmX6_isOfKind s m args below meth c 0 0 (MQ below (xQi D (fun _ _ => []) A (fun r _ _ => Q r)) args s 0 0 A) D (xtys cI cO) A 4 [] 4 [(1, .int x1), (2, .int x2), (3, .int x3)] [] := by
  intro n
  induction n with
  | zero =>
    intro x1 x2 x3 h
    exact False.elim h
  | succ n ih =>
    intro x1 x2 x3 h
    refine x_iload_n (pc' := 5) K dX6_isOfKind_4 2 rfl rfl ?_
    refine x_bipush (pc' := 7) (v := 7) K dX6_isOfKind_5 (by decide) rfl ?_
    refine x_icmp_ge (tgt := 33) (pc' := 10) K dX6_isOfKind_7 rfl rfl (fun c7 => ?_) (fun c7 => ?_)
    · replace h := h.1 c7
      refine x_iconst (pc' := 34) (v := 0) K dX6_isOfKind_33 (by decide) rfl ?_
      exact x_szret K (Or.inl rfl) h dX6_isOfKind_34
    · replace h := h.2 c7
      refine x_iload_n (pc' := 11) K dX6_isOfKind_10 1 rfl rfl ?_
      refine x_if_lt (tgt := 33) (pc' := 14) K dX6_isOfKind_11 rfl rfl (fun c11 => ?_) (fun c11 => ?_)
      · replace h := h.1 c11
        refine x_iconst (pc' := 34) (v := 0) K dX6_isOfKind_33 (by decide) rfl ?_
        exact x_szret K (Or.inl rfl) h dX6_isOfKind_34
      · replace h := h.2 c11
        refine x_iload_n (pc' := 15) K dX6_isOfKind_14 1 rfl rfl ?_
        refine x_iload_n (pc' := 16) K dX6_isOfKind_15 0 rfl rfl ?_
        refine x_icmp_ne (tgt := 21) (pc' := 19) K dX6_isOfKind_16 rfl rfl (fun c16 => ?_) (fun c16 => ?_)
        · replace h := h.1 c16
          refine x_tab (pc' := 24) K K.2.2.2.1.1 uX6_isOfKind_f280 dX6_isOfKind_21 rfl (fun t21 ht21 => ?_)
          refine x_iload_n (pc' := 25) K dX6_isOfKind_24 1 rfl rfl ?_
          obtain ⟨i25, h⟩ := h
          refine x_tabi (pc' := 26) K ht21 i25 dX6_isOfKind_25 rfl ?_
          refine x_istore_n (pc' := 27) (i := 2) K dX6_isOfKind_26 rfl (by decide) [1, 0, 2] (L' := [(1, .int _), (2, .int _), (3, .int _)]) rfl rfl ?_
          refine x_iinc (pc' := 30) (v := _ + (1 : Int32)) K dX6_isOfKind_27 2 rfl rfl (by decide) [1, 2, 0] (L' := [(1, .int _), (2, .int _), (3, .int _)]) rfl rfl ?_
          refine x_goto (tgt := 4) K dX6_isOfKind_30 rfl ?_
          exact ih _ _ _ h
        · replace h := h.2 c16
          refine x_iconst (pc' := 20) (v := 1) K dX6_isOfKind_19 (by decide) rfl ?_
          exact x_szret K (Or.inr rfl) h dX6_isOfKind_20
set_option maxHeartbeats 4000000 in
set_option maxRecDepth 100000 in
theorem mX6_isOfKind (l : Launch) (D : va_G) (cI cO : ClassId) (a : Nat → Nat)  (x0 : Int32) (x1 : Int32) : MS l yX6_isOfKind wsX6_isOfKind rmX6_isOfKind D (xtys cI cO) [.int x0, .int x1] (qX6_isOfKind x0 x1) := by
  refine MSZ_of (cc := cX6_isOfKind) (maxL := 4) (own := RX6) (by decide) rfl rfl (Nat.le_of_ble_eq_true rfl) ?_
  intro p e s m args below meth c A Q h K
  refine x_locals [0, 1] (L' := [(0, .int _), (1, .int _)]) rfl ?_
  refine x_iload_n (pc' := 1) K dX6_isOfKind_0 0 rfl rfl ?_
  refine x_istore_n (pc' := 2) (i := 2) K dX6_isOfKind_1 rfl (by decide) [1, 2, 0] (L' := [(0, .int _), (1, .int _), (2, .int _)]) rfl rfl ?_
  refine x_iconst (pc' := 3) (v := 0) K dX6_isOfKind_2 (by decide) rfl ?_
  refine x_istore_n (pc' := 4) (i := 3) K dX6_isOfKind_3 rfl (by decide) [1, 2, 3, 0] (L' := [(0, .int _), (1, .int _), (2, .int _), (3, .int _)]) rfl rfl ?_
  refine x_locals [1, 2, 3] (L' := [(1, .int _), (2, .int _), (3, .int _)]) rfl ?_
  obtain ⟨n4, h⟩ := h
  exact tX6_isOfKind_4 K n4 _ _ _ h
/-! X6_leastMark_0 -/
set_option maxHeartbeats 4000000 in
set_option maxRecDepth 100000 in
theorem xpl19 (cI : ClassId) (cO : ClassId) (a : Nat → Nat) (F : xF) (G : xA) : (w6 cI cO a F G).Perm (List.flatMap (bw6 cI cO a F G) [0, 9, 10, 11, 12, 13, 14, 15, 16, 17, 18, 19, 20, 21, 22, 23, 24, 33, 34, 35, 36, 37, 38, 39, 40, 41, 42, 43, 44, 45, 46, 47, 48, 49, 50, 51, 52, 53] ++ w55 cI (xcat 19 (xsub a 58) (xsub a 1)) (xcat 7 (xsub F 21) (xsub F 0)) (xcat 14 (xsub G 42) (xsub G 0))) := xpermF (bf := bw6 cI cO a F G) (ns := [0, 1, 2, 3, 4, 5, 6, 7, 8, 9, 10, 11, 12, 13, 14, 15, 16, 17, 18, 19, 20, 21, 22, 23, 24, 25, 26, 27, 28, 29, 30, 31, 32, 33, 34, 35, 36, 37, 38, 39, 40, 41, 42, 43, 44, 45, 46, 47, 48, 49, 50, 51, 52, 53]) rfl [0, 9, 10, 11, 12, 13, 14, 15, 16, 17, 18, 19, 20, 21, 22, 23, 24, 33, 34, 35, 36, 37, 38, 39, 40, 41, 42, 43, 44, 45, 46, 47, 48, 49, 50, 51, 52, 53] [25, 26, 27, 28, 29, 30, 31, 32, 1, 2, 3, 4, 5, 6, 7, 8] (by decide +kernel) rfl rfl
set_option maxHeartbeats 4000000 in
set_option maxRecDepth 100000 in
theorem xpr19 (cI : ClassId) (cO : ClassId) (a : Nat → Nat) (F : xF) (G : xA) (F' : xF) (G' : xA) : (w6 cI cO a (xspl (xspl F 21 7 F') 0 7 (xsub F' 7)) (xspl (xspl G 42 14 G') 0 14 (xsub G' 14))).Perm (List.flatMap (bw6 cI cO a F G) [0, 9, 10, 11, 12, 13, 14, 15, 16, 17, 18, 19, 20, 21, 22, 23, 24, 33, 34, 35, 36, 37, 38, 39, 40, 41, 42, 43, 44, 45, 46, 47, 48, 49, 50, 51, 52, 53] ++ w55 cI (xcat 19 (xsub a 58) (xsub a 1)) F' G') := xpermF (bf := bw6 cI cO a (xspl (xspl F 21 7 F') 0 7 (xsub F' 7)) (xspl (xspl G 42 14 G') 0 14 (xsub G' 14))) (ns := [0, 1, 2, 3, 4, 5, 6, 7, 8, 9, 10, 11, 12, 13, 14, 15, 16, 17, 18, 19, 20, 21, 22, 23, 24, 25, 26, 27, 28, 29, 30, 31, 32, 33, 34, 35, 36, 37, 38, 39, 40, 41, 42, 43, 44, 45, 46, 47, 48, 49, 50, 51, 52, 53]) rfl [0, 9, 10, 11, 12, 13, 14, 15, 16, 17, 18, 19, 20, 21, 22, 23, 24, 33, 34, 35, 36, 37, 38, 39, 40, 41, 42, 43, 44, 45, 46, 47, 48, 49, 50, 51, 52, 53] [25, 26, 27, 28, 29, 30, 31, 32, 1, 2, 3, 4, 5, 6, 7, 8] (by decide +kernel) rfl rfl
set_option maxHeartbeats 4000000 in
set_option maxRecDepth 100000 in
theorem xpl20 (cI : ClassId) (cO : ClassId) (a : Nat → Nat) (F : xF) (G : xA) : (w6 cI cO a F G).Perm (List.flatMap (bw6 cI cO a F G) [0, 1, 2, 3, 4, 5, 6, 7, 8, 9, 10, 11, 12, 13, 14, 15, 16, 17, 18, 19, 20, 21, 22, 23, 24, 33, 34, 35, 36, 37, 38, 39, 40, 41, 42, 43, 44, 45, 48, 49, 50, 51, 52, 53] ++ w2a cI (xcat 2 (xsub a 97) (xsub a 58)) (xcat 2 (xsub F 42) (xsub F 21)) (xcat 1 (xsub G 66) (xsub G 42))) := xpermF (bf := bw6 cI cO a F G) (ns := [0, 1, 2, 3, 4, 5, 6, 7, 8, 9, 10, 11, 12, 13, 14, 15, 16, 17, 18, 19, 20, 21, 22, 23, 24, 25, 26, 27, 28, 29, 30, 31, 32, 33, 34, 35, 36, 37, 38, 39, 40, 41, 42, 43, 44, 45, 46, 47, 48, 49, 50, 51, 52, 53]) rfl [0, 1, 2, 3, 4, 5, 6, 7, 8, 9, 10, 11, 12, 13, 14, 15, 16, 17, 18, 19, 20, 21, 22, 23, 24, 33, 34, 35, 36, 37, 38, 39, 40, 41, 42, 43, 44, 45, 48, 49, 50, 51, 52, 53] [46, 47, 25, 26, 27, 28, 29, 30, 31, 32] (by decide +kernel) rfl rfl
set_option maxHeartbeats 4000000 in
set_option maxRecDepth 100000 in
theorem xpr20 (cI : ClassId) (cO : ClassId) (a : Nat → Nat) (F : xF) (G : xA) (F' : xF) (G' : xA) : (w6 cI cO a (xspl (xspl F 42 2 F') 21 7 (xsub F' 2)) (xspl (xspl G 66 1 G') 42 14 (xsub G' 1))).Perm (List.flatMap (bw6 cI cO a F G) [0, 1, 2, 3, 4, 5, 6, 7, 8, 9, 10, 11, 12, 13, 14, 15, 16, 17, 18, 19, 20, 21, 22, 23, 24, 33, 34, 35, 36, 37, 38, 39, 40, 41, 42, 43, 44, 45, 48, 49, 50, 51, 52, 53] ++ w2a cI (xcat 2 (xsub a 97) (xsub a 58)) F' G') := xpermF (bf := bw6 cI cO a (xspl (xspl F 42 2 F') 21 7 (xsub F' 2)) (xspl (xspl G 66 1 G') 42 14 (xsub G' 1))) (ns := [0, 1, 2, 3, 4, 5, 6, 7, 8, 9, 10, 11, 12, 13, 14, 15, 16, 17, 18, 19, 20, 21, 22, 23, 24, 25, 26, 27, 28, 29, 30, 31, 32, 33, 34, 35, 36, 37, 38, 39, 40, 41, 42, 43, 44, 45, 46, 47, 48, 49, 50, 51, 52, 53]) rfl [0, 1, 2, 3, 4, 5, 6, 7, 8, 9, 10, 11, 12, 13, 14, 15, 16, 17, 18, 19, 20, 21, 22, 23, 24, 33, 34, 35, 36, 37, 38, 39, 40, 41, 42, 43, 44, 45, 48, 49, 50, 51, 52, 53] [46, 47, 25, 26, 27, 28, 29, 30, 31, 32] (by decide +kernel) rfl rfl
abbrev rmX6_leastMark_0 : Room := { frames := 7, cells := 0, slots := 0, locals := 242 }
theorem dsX6_leastMark : xDesc yX6_leastMark 3 := by decide +kernel
theorem uX6_leastMark_f41 : Cond.fieldLink RX6 41 "PigNinths" "side" "LPigNinths$World;" ∈ wsX6_leastMark := nw_in nwl_X6_leastMark nwe_337 (by decide +kernel)
theorem hinX6_leastMark_X6 : ∀ w ∈ wsX60, w ∈ wsX6_leastMark := nw_all nwl_X6_leastMark nwl_X60 (by decide +kernel)
theorem uX6_leastMark_f10 : Cond.fieldLink RX6 10 "PigNinths" "now" "LPigNinths$World;" ∈ wsX6_leastMark := nw_in nwl_X6_leastMark nwe_329 (by decide +kernel)
theorem uX6_leastMark_f105 : Cond.fieldLink RX6 105 "PigNinths$World" "kind" "[I" ∈ wsX6_leastMark := nw_in nwl_X6_leastMark nwe_382 (by decide +kernel)
theorem hinX6_leastMark_X5 : ∀ w ∈ wsX50, w ∈ wsX6_leastMark := nw_all nwl_X6_leastMark nwl_X50 (by decide +kernel)
theorem uX6_leastMark_f51 : Cond.fieldLink RX6 51 "PigNinths" "finds" "[I" ∈ wsX6_leastMark := nw_in nwl_X6_leastMark nwe_340 (by decide +kernel)
theorem uX6_leastMark_f44 : Cond.fieldLink RX6 44 "PigNinths" "trial" "LPigNinths$World;" ∈ wsX6_leastMark := nw_in nwl_X6_leastMark nwe_338 (by decide +kernel)
theorem uX6_leastMark_f108 : Cond.fieldLink RX6 108 "PigNinths$World" "mark" "[I" ∈ wsX6_leastMark := nw_in nwl_X6_leastMark nwe_383 (by decide +kernel)
theorem uX6_leastMark_f195 : Cond.fieldLink RX6 195 "PigNinths$World" "purse" "[I" ∈ wsX6_leastMark := nw_in nwl_X6_leastMark nwe_452 (by decide +kernel)
theorem uX6_leastMark_f163 : Cond.fieldLink RX6 163 "PigNinths$World" "day" "I" ∈ wsX6_leastMark := nw_in nwl_X6_leastMark nwe_418 (by decide +kernel)
set_option maxHeartbeats 4000000 in
set_option maxRecDepth 100000 in
theorem tX6_leastMark_0_96 (K : XK p m c cX6_leastMark 6 s args wsX6_leastMark RX6 D (xtys cI cO) A meth (some .int)) {Q : Int32 → xF → xA → Prop} {k54 : Int32 → Int32 → Int32 → xF → xA → Prop} (hk54 : ∀ (x1 : Int32) (x3 : Int32) (x4 : Int32) (F : xF) (G : xA), k54 x1 x3 x4 F G → XJ p l e rmX6_leastMark_0 s m args below meth c 0 0 (MQ below (xQi D (w6 cI cO a) A Q) args s 0 0 A) D (xtys cI cO) A 6 (w6 cI cO a F G) 54 [(0, .ref (a 0)), (1, .int x1), (2, .ref (a 97)), (3, .int x3), (4, .int x4)] []) : ∀ (n : Nat), ∀ (x1 : Int32) (x3 : Int32) (x4 : Int32) (x5 : Int32) (F : xF) (G : xA), qX6_leastMark_0_96 Q k54 n x1 x3 x4 x5 F G → XJ p l e rmX6_leastMark_0 s m args below meth c 0 0 (MQ below (xQi D (w6 cI cO a) A Q) args s 0 0 A) D (xtys cI cO) A 6 (w6 cI cO a F G) 96 [(0, .ref (a 0)), (1, .int x1), (2, .ref (a 97)), (3, .int x3), (4, .int x4), (5, .int x5)] [] := by
  intro n
  induction n with
  | zero =>
    intro x1 x3 x4 x5 F G h
    exact False.elim h
  | succ n ih =>
    intro x1 x3 x4 x5 F G h
    refine x_iload (pc' := 98) K dX6_leastMark_96 5 rfl rfl ?_
    refine x_iload_n (pc' := 99) K dX6_leastMark_98 3 rfl rfl ?_
    refine x_icmp_ge (tgt := 142) (pc' := 102) K dX6_leastMark_99 rfl rfl (fun c99 => ?_) (fun c99 => ?_)
    · replace h := h.1 c99
      refine x_aload_n (pc' := 143) K dX6_leastMark_142 2 rfl rfl ?_
      refine x_aload_n (pc' := 144) K dX6_leastMark_143 0 rfl rfl ?_
      refine xw6_0g_trial (pc' := 147) K hinX6_leastMark_X6 uX6_leastMark_f44 dX6_leastMark_144 rfl ?_
      refine xw6_58g_purse (pc' := 150) K hinX6_leastMark_X5 uX6_leastMark_f195 dX6_leastMark_147 rfl ?_
      refine x_subI (pc' := 153) (wn := fun F' G' => w6 cI cO a (xspl (xspl F 42 2 F') 21 7 (xsub F' 2)) (xspl (xspl G 66 1 G') 42 14 (xsub G' 1))) K (mX2_startsWith l D cI cO (xcat 2 (xsub a 97) (xsub a 58))) rfl gX6_leastMark_X2_startsWith rfl dsX2_startsWith ⟨rfl, rfl, ⟨Nat.le_of_ble_eq_true rfl, Nat.le_of_ble_eq_true rfl⟩, Nat.le_of_ble_eq_true rfl, Nat.le_of_ble_eq_true rfl⟩ h 2 0 rfl rfl (xpl20 cI cO a _ _) (fun F' G' => xpr20 cI cO a _ _ F' G') (st := []) rfl rfl (Nat.le_of_ble_eq_true rfl) dX6_leastMark_150 rfl (fun r150 F150 G150 h => ?_)
      obtain ⟨E150, eE150⟩ : ∃ x : xF, x = (xspl (xspl F 42 2 F150) 21 7 (xsub F150 2)) := ⟨_, rfl⟩
      obtain ⟨H150, eH150⟩ : ∃ x : xA, x = (xspl (xspl G 66 1 G150) 42 14 (xsub G150 1)) := ⟨_, rfl⟩
      refine x_weq (w' := w6 cI cO a E150 H150) (by subst eE150; subst eH150; rfl) ?_
      replace h := h E150 eE150
      replace h := h H150 eH150
      refine x_if_eq (tgt := 159) (pc' := 156) K dX6_leastMark_153 rfl rfl (fun c153 => ?_) (fun c153 => ?_)
      · replace h := h.1 c153
        refine x_iinc (pc' := 162) (v := _ + (1 : Int32)) K dX6_leastMark_159 4 rfl rfl (by decide) [1, 2, 3, 4, 0, 5] (L' := [(0, .ref (a 0)), (1, .int _), (2, .ref (a 97)), (3, .int _), (4, .int _), (5, .int _)]) rfl rfl ?_
        refine x_goto (tgt := 54) K dX6_leastMark_162 rfl ?_
        refine x_locals [0, 1, 2, 3, 4] (L' := [(0, .ref (a 0)), (1, .int _), (2, .ref (a 97)), (3, .int _), (4, .int _)]) rfl ?_
        exact hk54 _ _ _ _ _ h
      · replace h := h.2 c153
        refine x_iload (pc' := 158) K dX6_leastMark_156 4 rfl rfl ?_
        exact x_iret (wf := w6 cI cO a) K h dX6_leastMark_158
    · replace h := h.2 c99
      refine x_aload_n (pc' := 103) K dX6_leastMark_102 0 rfl rfl ?_
      refine xw6_0g_trial (pc' := 106) K hinX6_leastMark_X6 uX6_leastMark_f44 dX6_leastMark_103 rfl ?_
      refine x_aload_n (pc' := 107) K dX6_leastMark_106 0 rfl rfl ?_
      refine xw6_0g_trial (pc' := 110) K hinX6_leastMark_X6 uX6_leastMark_f44 dX6_leastMark_107 rfl ?_
      refine x_subI (pc' := 113) (wn := fun F' G' => w6 cI cO a (xspl F 21 7 F') (xspl G 42 14 G')) K (mX5_whoHasIt l D cI cO (xsub a 58)) rfl gX6_leastMark_X5_whoHasIt rfl dsX5_whoHasIt ⟨rfl, rfl, ⟨Nat.le_of_ble_eq_true rfl, Nat.le_of_ble_eq_true rfl⟩, Nat.le_of_ble_eq_true rfl, Nat.le_of_ble_eq_true rfl⟩ h 5 0 rfl rfl (xpl18 cI cO a _ _) (fun F' G' => xpr18 cI cO a _ _ F' G') (st := [.ref (a 58)]) rfl rfl (Nat.le_of_ble_eq_true rfl) dX6_leastMark_110 rfl (fun r110 F110 G110 h => ?_)
      obtain ⟨E110, eE110⟩ : ∃ x : xF, x = (xspl F 21 7 F110) := ⟨_, rfl⟩
      obtain ⟨H110, eH110⟩ : ∃ x : xA, x = (xspl G 42 14 G110) := ⟨_, rfl⟩
      refine x_weq (w' := w6 cI cO a E110 H110) (by subst eE110; subst eH110; rfl) ?_
      replace h := h E110 eE110
      replace h := h H110 eH110
      refine x_aload_n (pc' := 114) K dX6_leastMark_113 0 rfl rfl ?_
      refine xw6_0g_finds (pc' := 117) K hinX6_leastMark_X6 uX6_leastMark_f51 dX6_leastMark_114 rfl ?_
      refine x_iload (pc' := 119) K dX6_leastMark_117 5 rfl rfl ?_
      obtain ⟨i119, h⟩ := h
      refine xw6_86l (pc' := 120) K i119 rfl dX6_leastMark_119 rfl ?_
      refine x_subV (pc' := 123) (wn := fun F' G' => w6 cI cO a (xspl E110 21 7 F') (xspl H110 42 14 G')) K (mX5_partOut l D cI cO (xsub a 58) _ _) rfl gX6_leastMark_X5_partOut rfl dsX5_partOut ⟨rfl, rfl, ⟨Nat.le_of_ble_eq_true rfl, Nat.le_of_ble_eq_true rfl⟩, Nat.le_of_ble_eq_true rfl, Nat.le_of_ble_eq_true rfl⟩ h 5 0 rfl rfl (xpl18 cI cO a _ _) (fun F' G' => xpr18 cI cO a _ _ F' G') (st := []) rfl rfl (Nat.le_of_ble_eq_true rfl) dX6_leastMark_120 rfl (fun F120 G120 h => ?_)
      obtain ⟨E120, eE120⟩ : ∃ x : xF, x = (xspl E110 21 7 F120) := ⟨_, rfl⟩
      obtain ⟨H120, eH120⟩ : ∃ x : xA, x = (xspl H110 42 14 G120) := ⟨_, rfl⟩
      refine x_weq (w' := w6 cI cO a E120 H120) (by subst eE120; subst eH120; rfl) ?_
      replace h := h E120 eE120
      replace h := h H120 eH120
      refine x_aload_n (pc' := 124) K dX6_leastMark_123 0 rfl rfl ?_
      refine xw6_0g_trial (pc' := 127) K hinX6_leastMark_X6 uX6_leastMark_f44 dX6_leastMark_124 rfl ?_
      refine x_dup (pc' := 128) K dX6_leastMark_127 rfl rfl ?_
      refine xw6_58g_day (pc' := 131) K hinX6_leastMark_X5 uX6_leastMark_f163 dX6_leastMark_128 rfl ?_
      refine x_iconst (pc' := 132) (v := 1) K dX6_leastMark_131 (by decide) rfl ?_
      refine x_iadd (pc' := 133) K dX6_leastMark_132 rfl ?_
      refine xw6_58p_day (pc' := 136) K hinX6_leastMark_X5 uX6_leastMark_f163 dX6_leastMark_133 rfl (fun F133 eF133 => ?_)
      replace h := h F133 eF133
      refine x_iinc (pc' := 139) (v := _ + (1 : Int32)) K dX6_leastMark_136 5 rfl rfl (by decide) [1, 2, 3, 4, 5, 0] (L' := [(0, .ref (a 0)), (1, .int _), (2, .ref (a 97)), (3, .int _), (4, .int _), (5, .int _)]) rfl rfl ?_
      refine x_goto (tgt := 96) K dX6_leastMark_139 rfl ?_
      exact ih _ _ _ _ _ _ h
set_option maxHeartbeats 4000000 in
set_option maxRecDepth 100000 in
theorem tX6_leastMark_0_54 (K : XK p m c cX6_leastMark 6 s args wsX6_leastMark RX6 D (xtys cI cO) A meth (some .int)) {Q : Int32 → xF → xA → Prop} : ∀ (n : Nat), ∀ (x1 : Int32) (x3 : Int32) (x4 : Int32) (F : xF) (G : xA), qX6_leastMark_0_54 Q n x1 x3 x4 F G → XJ p l e rmX6_leastMark_0 s m args below meth c 0 0 (MQ below (xQi D (w6 cI cO a) A Q) args s 0 0 A) D (xtys cI cO) A 6 (w6 cI cO a F G) 54 [(0, .ref (a 0)), (1, .int x1), (2, .ref (a 97)), (3, .int x3), (4, .int x4)] [] := by
  intro n
  induction n with
  | zero =>
    intro x1 x3 x4 F G h
    exact False.elim h
  | succ n ih =>
    intro x1 x3 x4 F G h
    refine x_iload (pc' := 56) K dX6_leastMark_54 4 rfl rfl ?_
    refine x_bipush (pc' := 58) (v := 9) K dX6_leastMark_56 (by decide) rfl ?_
    refine x_icmp_gt (tgt := 165) (pc' := 61) K dX6_leastMark_58 rfl rfl (fun c58 => ?_) (fun c58 => ?_)
    · replace h := h.1 c58
      refine x_iconst (pc' := 166) (v := -1) K dX6_leastMark_165 (by decide) rfl ?_
      exact x_iret (wf := w6 cI cO a) K h dX6_leastMark_166
    · replace h := h.2 c58
      refine x_aload_n (pc' := 62) K dX6_leastMark_61 0 rfl rfl ?_
      refine xw6_0g_trial (pc' := 65) K hinX6_leastMark_X6 uX6_leastMark_f44 dX6_leastMark_62 rfl ?_
      refine x_aload_n (pc' := 66) K dX6_leastMark_65 0 rfl rfl ?_
      refine xw6_0g_now (pc' := 69) K hinX6_leastMark_X6 uX6_leastMark_f10 dX6_leastMark_66 rfl ?_
      refine x_subV (pc' := 72) (wn := fun F' G' => w6 cI cO a (xspl (xspl F 21 7 F') 0 7 (xsub F' 7)) (xspl (xspl G 42 14 G') 0 14 (xsub G' 14))) K (mX5_takeFrom l D cI cO (xcat 19 (xsub a 58) (xsub a 1))) rfl gX6_leastMark_X5_takeFrom rfl dsX5_takeFrom ⟨rfl, rfl, ⟨Nat.le_of_ble_eq_true rfl, Nat.le_of_ble_eq_true rfl⟩, Nat.le_of_ble_eq_true rfl, Nat.le_of_ble_eq_true rfl⟩ h 5 0 rfl rfl (xpl19 cI cO a _ _) (fun F' G' => xpr19 cI cO a _ _ F' G') (st := []) rfl rfl (Nat.le_of_ble_eq_true rfl) dX6_leastMark_69 rfl (fun F69 G69 h => ?_)
      obtain ⟨E69, eE69⟩ : ∃ x : xF, x = (xspl (xspl F 21 7 F69) 0 7 (xsub F69 7)) := ⟨_, rfl⟩
      obtain ⟨H69, eH69⟩ : ∃ x : xA, x = (xspl (xspl G 42 14 G69) 0 14 (xsub G69 14)) := ⟨_, rfl⟩
      refine x_weq (w' := w6 cI cO a E69 H69) (by subst eE69; subst eH69; rfl) ?_
      replace h := h E69 eE69
      replace h := h H69 eH69
      refine x_aload_n (pc' := 73) K dX6_leastMark_72 0 rfl rfl ?_
      refine xw6_0g_trial (pc' := 76) K hinX6_leastMark_X6 uX6_leastMark_f44 dX6_leastMark_73 rfl ?_
      refine xw6_58g_kind (pc' := 79) K hinX6_leastMark_X5 uX6_leastMark_f105 dX6_leastMark_76 rfl ?_
      refine x_iload_n (pc' := 80) K dX6_leastMark_79 1 rfl rfl ?_
      refine x_iconst (pc' := 81) (v := 3) K dX6_leastMark_80 (by decide) rfl ?_
      obtain ⟨i81, h⟩ := h
      refine xw6_61s (pc' := 82) K i81 rfl dX6_leastMark_81 rfl (fun G81 eG81 => ?_)
      replace h := h G81 eG81
      refine x_aload_n (pc' := 83) K dX6_leastMark_82 0 rfl rfl ?_
      refine xw6_0g_trial (pc' := 86) K hinX6_leastMark_X6 uX6_leastMark_f44 dX6_leastMark_83 rfl ?_
      refine xw6_58g_mark (pc' := 89) K hinX6_leastMark_X5 uX6_leastMark_f108 dX6_leastMark_86 rfl ?_
      refine x_iload_n (pc' := 90) K dX6_leastMark_89 1 rfl rfl ?_
      refine x_iload (pc' := 92) K dX6_leastMark_90 4 rfl rfl ?_
      obtain ⟨i92, h⟩ := h
      refine xw6_62s (pc' := 93) K i92 rfl dX6_leastMark_92 rfl (fun G92 eG92 => ?_)
      replace h := h G92 eG92
      refine x_iconst (pc' := 94) (v := 0) K dX6_leastMark_93 (by decide) rfl ?_
      refine x_istore (pc' := 96) (i := 5) K dX6_leastMark_94 (by decide) [1, 2, 3, 4, 5, 0] (L' := [(0, .ref (a 0)), (1, .int _), (2, .ref (a 97)), (3, .int _), (4, .int _), (5, .int _)]) rfl rfl ?_
      obtain ⟨n96, h⟩ := h
      exact tX6_leastMark_0_96 K (fun x1 x3 x4 F G h => ih x1 x3 x4 F G h) n96 _ _ _ _ _ _ h
set_option maxHeartbeats 4000000 in
set_option maxRecDepth 100000 in
theorem tX6_leastMark_0_24 (K : XK p m c cX6_leastMark 6 s args wsX6_leastMark RX6 D (xtys cI cO) A meth (some .int)) {Q : Int32 → xF → xA → Prop} : ∀ (n : Nat), ∀ (x1 : Int32) (x3 : Int32) (x4 : Int32) (F : xF) (G : xA), qX6_leastMark_0_24 Q n x1 x3 x4 F G → XJ p l e rmX6_leastMark_0 s m args below meth c 0 0 (MQ below (xQi D (w6 cI cO a) A Q) args s 0 0 A) D (xtys cI cO) A 6 (w6 cI cO a F G) 24 [(0, .ref (a 0)), (1, .int x1), (2, .ref (a 97)), (3, .int x3), (4, .int x4)] [] := by
  intro n
  induction n with
  | zero =>
    intro x1 x3 x4 F G h
    exact False.elim h
  | succ n ih =>
    intro x1 x3 x4 F G h
    refine x_iload (pc' := 26) K dX6_leastMark_24 4 rfl rfl ?_
    refine x_iload_n (pc' := 27) K dX6_leastMark_26 3 rfl rfl ?_
    refine x_icmp_ge (tgt := 51) (pc' := 30) K dX6_leastMark_27 rfl rfl (fun c27 => ?_) (fun c27 => ?_)
    · replace h := h.1 c27
      refine x_iconst (pc' := 52) (v := 0) K dX6_leastMark_51 (by decide) rfl ?_
      refine x_istore (pc' := 54) (i := 4) K dX6_leastMark_52 (by decide) [1, 2, 3, 4, 0] (L' := [(0, .ref (a 0)), (1, .int _), (2, .ref (a 97)), (3, .int _), (4, .int _)]) rfl rfl ?_
      obtain ⟨n54, h⟩ := h
      exact tX6_leastMark_0_54 K n54 _ _ _ _ _ h
    · replace h := h.2 c27
      refine x_aload_n (pc' := 31) K dX6_leastMark_30 0 rfl rfl ?_
      refine xw6_0g_finds (pc' := 34) K hinX6_leastMark_X6 uX6_leastMark_f51 dX6_leastMark_31 rfl ?_
      refine x_iload (pc' := 36) K dX6_leastMark_34 4 rfl rfl ?_
      refine x_aload_n (pc' := 37) K dX6_leastMark_36 0 rfl rfl ?_
      refine xw6_0g_side (pc' := 40) K hinX6_leastMark_X6 uX6_leastMark_f41 dX6_leastMark_37 rfl ?_
      refine x_iconst (pc' := 41) (v := -1) K dX6_leastMark_40 (by decide) rfl ?_
      refine x_subI (pc' := 44) (wn := fun F' G' => w6 cI cO a (xspl F 14 7 F') (xspl G 28 14 G')) K (mX5_oneDay l D cI cO (xsub a 39) _) rfl gX6_leastMark_X5_oneDay rfl dsX5_oneDay ⟨rfl, rfl, ⟨Nat.le_of_ble_eq_true rfl, Nat.le_of_ble_eq_true rfl⟩, Nat.le_of_ble_eq_true rfl, Nat.le_of_ble_eq_true rfl⟩ h 5 0 rfl rfl (xpl16 cI cO a _ _) (fun F' G' => xpr16 cI cO a _ _ F' G') (st := [.int _, .ref (a 86)]) rfl rfl (Nat.le_of_ble_eq_true rfl) dX6_leastMark_41 rfl (fun r41 F41 G41 h => ?_)
      obtain ⟨E41, eE41⟩ : ∃ x : xF, x = (xspl F 14 7 F41) := ⟨_, rfl⟩
      obtain ⟨H41, eH41⟩ : ∃ x : xA, x = (xspl G 28 14 G41) := ⟨_, rfl⟩
      refine x_weq (w' := w6 cI cO a E41 H41) (by subst eE41; subst eH41; rfl) ?_
      replace h := h E41 eE41
      replace h := h H41 eH41
      obtain ⟨i44, h⟩ := h
      refine xw6_86s (pc' := 45) K i44 rfl dX6_leastMark_44 rfl (fun G44 eG44 => ?_)
      replace h := h G44 eG44
      refine x_iinc (pc' := 48) (v := _ + (1 : Int32)) K dX6_leastMark_45 4 rfl rfl (by decide) [1, 2, 3, 4, 0] (L' := [(0, .ref (a 0)), (1, .int _), (2, .ref (a 97)), (3, .int _), (4, .int _)]) rfl rfl ?_
      refine x_goto (tgt := 24) K dX6_leastMark_48 rfl ?_
      exact ih _ _ _ _ _ h
set_option maxHeartbeats 4000000 in
set_option maxRecDepth 100000 in
theorem mX6_leastMark_0 (l : Launch) (D : va_G) (cI cO : ClassId) (a : Nat → Nat)  (x1 : Int32) (x3 : Int32) : MI l yX6_leastMark wsX6_leastMark rmX6_leastMark_0 D (xtys cI cO) [.ref (a 0), .int x1, .ref (a 97), .int x3] (w6 cI cO a) (qX6_leastMark_0 x1 x3) := by
  refine MI_of (cc := cX6_leastMark) (maxL := 6) (own := RX6) (by decide) rfl rfl (Nat.le_of_ble_eq_true rfl) ?_
  intro p e s m args below meth c A F G Q h K
  refine x_locals [0, 1, 2, 3] (L' := [(0, .ref (a 0)), (1, .int _), (2, .ref (a 97)), (3, .int _)]) rfl ?_
  refine x_aload_n (pc' := 1) K dX6_leastMark_0 0 rfl rfl ?_
  refine xw6_0g_side (pc' := 4) K hinX6_leastMark_X6 uX6_leastMark_f41 dX6_leastMark_1 rfl ?_
  refine x_aload_n (pc' := 5) K dX6_leastMark_4 0 rfl rfl ?_
  refine xw6_0g_now (pc' := 8) K hinX6_leastMark_X6 uX6_leastMark_f10 dX6_leastMark_5 rfl ?_
  refine x_subV (pc' := 11) (wn := fun F' G' => w6 cI cO a (xspl (xspl F 14 7 F') 0 7 (xsub F' 7)) (xspl (xspl G 28 14 G') 0 14 (xsub G' 14))) K (mX5_takeFrom l D cI cO (xcat 19 (xsub a 39) (xsub a 1))) rfl gX6_leastMark_X5_takeFrom rfl dsX5_takeFrom ⟨rfl, rfl, ⟨Nat.le_of_ble_eq_true rfl, Nat.le_of_ble_eq_true rfl⟩, Nat.le_of_ble_eq_true rfl, Nat.le_of_ble_eq_true rfl⟩ h 5 0 rfl rfl (xpl15 cI cO a _ _) (fun F' G' => xpr15 cI cO a _ _ F' G') (st := []) rfl rfl (Nat.le_of_ble_eq_true rfl) dX6_leastMark_8 rfl (fun F8 G8 h => ?_)
  obtain ⟨E8, eE8⟩ : ∃ x : xF, x = (xspl (xspl F 14 7 F8) 0 7 (xsub F8 7)) := ⟨_, rfl⟩
  obtain ⟨H8, eH8⟩ : ∃ x : xA, x = (xspl (xspl G 28 14 G8) 0 14 (xsub G8 14)) := ⟨_, rfl⟩
  refine x_weq (w' := w6 cI cO a E8 H8) (by subst eE8; subst eH8; rfl) ?_
  replace h := h E8 eE8
  replace h := h H8 eH8
  refine x_aload_n (pc' := 12) K dX6_leastMark_11 0 rfl rfl ?_
  refine xw6_0g_side (pc' := 15) K hinX6_leastMark_X6 uX6_leastMark_f41 dX6_leastMark_12 rfl ?_
  refine xw6_39g_kind (pc' := 18) K hinX6_leastMark_X5 uX6_leastMark_f105 dX6_leastMark_15 rfl ?_
  refine x_iload_n (pc' := 19) K dX6_leastMark_18 1 rfl rfl ?_
  refine x_iconst (pc' := 20) (v := 3) K dX6_leastMark_19 (by decide) rfl ?_
  obtain ⟨i20, h⟩ := h
  refine xw6_42s (pc' := 21) K i20 rfl dX6_leastMark_20 rfl (fun G20 eG20 => ?_)
  replace h := h G20 eG20
  refine x_iconst (pc' := 22) (v := 0) K dX6_leastMark_21 (by decide) rfl ?_
  refine x_istore (pc' := 24) (i := 4) K dX6_leastMark_22 (by decide) [1, 2, 3, 4, 0] (L' := [(0, .ref (a 0)), (1, .int _), (2, .ref (a 97)), (3, .int _), (4, .int _)]) rfl rfl ?_
  obtain ⟨n24, h⟩ := h
  exact tX6_leastMark_0_24 K n24 _ _ _ _ _ h
/-! X6_leastMark_1 -/
set_option maxHeartbeats 4000000 in
set_option maxRecDepth 100000 in
theorem xpl21 (cI : ClassId) (cO : ClassId) (a : Nat → Nat) (F : xF) (G : xA) : (w6 cI cO a F G).Perm (List.flatMap (bw6 cI cO a F G) [0, 1, 2, 3, 4, 5, 6, 7, 8, 9, 10, 11, 12, 13, 14, 15, 16, 17, 18, 19, 20, 21, 22, 23, 24, 33, 34, 35, 36, 37, 38, 39, 40, 41, 42, 43, 44, 45, 46, 47, 50, 51, 52, 53] ++ w2a cI (xcat 2 (xsub a 99) (xsub a 58)) (xcat 2 (xsub F 44) (xsub F 21)) (xcat 1 (xsub G 67) (xsub G 42))) := xpermF (bf := bw6 cI cO a F G) (ns := [0, 1, 2, 3, 4, 5, 6, 7, 8, 9, 10, 11, 12, 13, 14, 15, 16, 17, 18, 19, 20, 21, 22, 23, 24, 25, 26, 27, 28, 29, 30, 31, 32, 33, 34, 35, 36, 37, 38, 39, 40, 41, 42, 43, 44, 45, 46, 47, 48, 49, 50, 51, 52, 53]) rfl [0, 1, 2, 3, 4, 5, 6, 7, 8, 9, 10, 11, 12, 13, 14, 15, 16, 17, 18, 19, 20, 21, 22, 23, 24, 33, 34, 35, 36, 37, 38, 39, 40, 41, 42, 43, 44, 45, 46, 47, 50, 51, 52, 53] [48, 49, 25, 26, 27, 28, 29, 30, 31, 32] (by decide +kernel) rfl rfl
set_option maxHeartbeats 4000000 in
set_option maxRecDepth 100000 in
theorem xpr21 (cI : ClassId) (cO : ClassId) (a : Nat → Nat) (F : xF) (G : xA) (F' : xF) (G' : xA) : (w6 cI cO a (xspl (xspl F 44 2 F') 21 7 (xsub F' 2)) (xspl (xspl G 67 1 G') 42 14 (xsub G' 1))).Perm (List.flatMap (bw6 cI cO a F G) [0, 1, 2, 3, 4, 5, 6, 7, 8, 9, 10, 11, 12, 13, 14, 15, 16, 17, 18, 19, 20, 21, 22, 23, 24, 33, 34, 35, 36, 37, 38, 39, 40, 41, 42, 43, 44, 45, 46, 47, 50, 51, 52, 53] ++ w2a cI (xcat 2 (xsub a 99) (xsub a 58)) F' G') := xpermF (bf := bw6 cI cO a (xspl (xspl F 44 2 F') 21 7 (xsub F' 2)) (xspl (xspl G 67 1 G') 42 14 (xsub G' 1))) (ns := [0, 1, 2, 3, 4, 5, 6, 7, 8, 9, 10, 11, 12, 13, 14, 15, 16, 17, 18, 19, 20, 21, 22, 23, 24, 25, 26, 27, 28, 29, 30, 31, 32, 33, 34, 35, 36, 37, 38, 39, 40, 41, 42, 43, 44, 45, 46, 47, 48, 49, 50, 51, 52, 53]) rfl [0, 1, 2, 3, 4, 5, 6, 7, 8, 9, 10, 11, 12, 13, 14, 15, 16, 17, 18, 19, 20, 21, 22, 23, 24, 33, 34, 35, 36, 37, 38, 39, 40, 41, 42, 43, 44, 45, 46, 47, 50, 51, 52, 53] [48, 49, 25, 26, 27, 28, 29, 30, 31, 32] (by decide +kernel) rfl rfl
abbrev rmX6_leastMark_1 : Room := { frames := 7, cells := 0, slots := 0, locals := 242 }
set_option maxHeartbeats 4000000 in
set_option maxRecDepth 100000 in
theorem tX6_leastMark_1_96 (K : XK p m c cX6_leastMark 6 s args wsX6_leastMark RX6 D (xtys cI cO) A meth (some .int)) {Q : Int32 → xF → xA → Prop} {k54 : Int32 → Int32 → Int32 → xF → xA → Prop} (hk54 : ∀ (x1 : Int32) (x3 : Int32) (x4 : Int32) (F : xF) (G : xA), k54 x1 x3 x4 F G → XJ p l e rmX6_leastMark_1 s m args below meth c 0 0 (MQ below (xQi D (w6 cI cO a) A Q) args s 0 0 A) D (xtys cI cO) A 6 (w6 cI cO a F G) 54 [(0, .ref (a 0)), (1, .int x1), (2, .ref (a 99)), (3, .int x3), (4, .int x4)] []) : ∀ (n : Nat), ∀ (x1 : Int32) (x3 : Int32) (x4 : Int32) (x5 : Int32) (F : xF) (G : xA), qX6_leastMark_1_96 Q k54 n x1 x3 x4 x5 F G → XJ p l e rmX6_leastMark_1 s m args below meth c 0 0 (MQ below (xQi D (w6 cI cO a) A Q) args s 0 0 A) D (xtys cI cO) A 6 (w6 cI cO a F G) 96 [(0, .ref (a 0)), (1, .int x1), (2, .ref (a 99)), (3, .int x3), (4, .int x4), (5, .int x5)] [] := by
  intro n
  induction n with
  | zero =>
    intro x1 x3 x4 x5 F G h
    exact False.elim h
  | succ n ih =>
    intro x1 x3 x4 x5 F G h
    refine x_iload (pc' := 98) K dX6_leastMark_96 5 rfl rfl ?_
    refine x_iload_n (pc' := 99) K dX6_leastMark_98 3 rfl rfl ?_
    refine x_icmp_ge (tgt := 142) (pc' := 102) K dX6_leastMark_99 rfl rfl (fun c99 => ?_) (fun c99 => ?_)
    · replace h := h.1 c99
      refine x_aload_n (pc' := 143) K dX6_leastMark_142 2 rfl rfl ?_
      refine x_aload_n (pc' := 144) K dX6_leastMark_143 0 rfl rfl ?_
      refine xw6_0g_trial (pc' := 147) K hinX6_leastMark_X6 uX6_leastMark_f44 dX6_leastMark_144 rfl ?_
      refine xw6_58g_purse (pc' := 150) K hinX6_leastMark_X5 uX6_leastMark_f195 dX6_leastMark_147 rfl ?_
      refine x_subI (pc' := 153) (wn := fun F' G' => w6 cI cO a (xspl (xspl F 44 2 F') 21 7 (xsub F' 2)) (xspl (xspl G 67 1 G') 42 14 (xsub G' 1))) K (mX2_startsWith l D cI cO (xcat 2 (xsub a 99) (xsub a 58))) rfl gX6_leastMark_X2_startsWith rfl dsX2_startsWith ⟨rfl, rfl, ⟨Nat.le_of_ble_eq_true rfl, Nat.le_of_ble_eq_true rfl⟩, Nat.le_of_ble_eq_true rfl, Nat.le_of_ble_eq_true rfl⟩ h 2 0 rfl rfl (xpl21 cI cO a _ _) (fun F' G' => xpr21 cI cO a _ _ F' G') (st := []) rfl rfl (Nat.le_of_ble_eq_true rfl) dX6_leastMark_150 rfl (fun r150 F150 G150 h => ?_)
      obtain ⟨E150, eE150⟩ : ∃ x : xF, x = (xspl (xspl F 44 2 F150) 21 7 (xsub F150 2)) := ⟨_, rfl⟩
      obtain ⟨H150, eH150⟩ : ∃ x : xA, x = (xspl (xspl G 67 1 G150) 42 14 (xsub G150 1)) := ⟨_, rfl⟩
      refine x_weq (w' := w6 cI cO a E150 H150) (by subst eE150; subst eH150; rfl) ?_
      replace h := h E150 eE150
      replace h := h H150 eH150
      refine x_if_eq (tgt := 159) (pc' := 156) K dX6_leastMark_153 rfl rfl (fun c153 => ?_) (fun c153 => ?_)
      · replace h := h.1 c153
        refine x_iinc (pc' := 162) (v := _ + (1 : Int32)) K dX6_leastMark_159 4 rfl rfl (by decide) [1, 2, 3, 4, 0, 5] (L' := [(0, .ref (a 0)), (1, .int _), (2, .ref (a 99)), (3, .int _), (4, .int _), (5, .int _)]) rfl rfl ?_
        refine x_goto (tgt := 54) K dX6_leastMark_162 rfl ?_
        refine x_locals [0, 1, 2, 3, 4] (L' := [(0, .ref (a 0)), (1, .int _), (2, .ref (a 99)), (3, .int _), (4, .int _)]) rfl ?_
        exact hk54 _ _ _ _ _ h
      · replace h := h.2 c153
        refine x_iload (pc' := 158) K dX6_leastMark_156 4 rfl rfl ?_
        exact x_iret (wf := w6 cI cO a) K h dX6_leastMark_158
    · replace h := h.2 c99
      refine x_aload_n (pc' := 103) K dX6_leastMark_102 0 rfl rfl ?_
      refine xw6_0g_trial (pc' := 106) K hinX6_leastMark_X6 uX6_leastMark_f44 dX6_leastMark_103 rfl ?_
      refine x_aload_n (pc' := 107) K dX6_leastMark_106 0 rfl rfl ?_
      refine xw6_0g_trial (pc' := 110) K hinX6_leastMark_X6 uX6_leastMark_f44 dX6_leastMark_107 rfl ?_
      refine x_subI (pc' := 113) (wn := fun F' G' => w6 cI cO a (xspl F 21 7 F') (xspl G 42 14 G')) K (mX5_whoHasIt l D cI cO (xsub a 58)) rfl gX6_leastMark_X5_whoHasIt rfl dsX5_whoHasIt ⟨rfl, rfl, ⟨Nat.le_of_ble_eq_true rfl, Nat.le_of_ble_eq_true rfl⟩, Nat.le_of_ble_eq_true rfl, Nat.le_of_ble_eq_true rfl⟩ h 5 0 rfl rfl (xpl18 cI cO a _ _) (fun F' G' => xpr18 cI cO a _ _ F' G') (st := [.ref (a 58)]) rfl rfl (Nat.le_of_ble_eq_true rfl) dX6_leastMark_110 rfl (fun r110 F110 G110 h => ?_)
      obtain ⟨E110, eE110⟩ : ∃ x : xF, x = (xspl F 21 7 F110) := ⟨_, rfl⟩
      obtain ⟨H110, eH110⟩ : ∃ x : xA, x = (xspl G 42 14 G110) := ⟨_, rfl⟩
      refine x_weq (w' := w6 cI cO a E110 H110) (by subst eE110; subst eH110; rfl) ?_
      replace h := h E110 eE110
      replace h := h H110 eH110
      refine x_aload_n (pc' := 114) K dX6_leastMark_113 0 rfl rfl ?_
      refine xw6_0g_finds (pc' := 117) K hinX6_leastMark_X6 uX6_leastMark_f51 dX6_leastMark_114 rfl ?_
      refine x_iload (pc' := 119) K dX6_leastMark_117 5 rfl rfl ?_
      obtain ⟨i119, h⟩ := h
      refine xw6_86l (pc' := 120) K i119 rfl dX6_leastMark_119 rfl ?_
      refine x_subV (pc' := 123) (wn := fun F' G' => w6 cI cO a (xspl E110 21 7 F') (xspl H110 42 14 G')) K (mX5_partOut l D cI cO (xsub a 58) _ _) rfl gX6_leastMark_X5_partOut rfl dsX5_partOut ⟨rfl, rfl, ⟨Nat.le_of_ble_eq_true rfl, Nat.le_of_ble_eq_true rfl⟩, Nat.le_of_ble_eq_true rfl, Nat.le_of_ble_eq_true rfl⟩ h 5 0 rfl rfl (xpl18 cI cO a _ _) (fun F' G' => xpr18 cI cO a _ _ F' G') (st := []) rfl rfl (Nat.le_of_ble_eq_true rfl) dX6_leastMark_120 rfl (fun F120 G120 h => ?_)
      obtain ⟨E120, eE120⟩ : ∃ x : xF, x = (xspl E110 21 7 F120) := ⟨_, rfl⟩
      obtain ⟨H120, eH120⟩ : ∃ x : xA, x = (xspl H110 42 14 G120) := ⟨_, rfl⟩
      refine x_weq (w' := w6 cI cO a E120 H120) (by subst eE120; subst eH120; rfl) ?_
      replace h := h E120 eE120
      replace h := h H120 eH120
      refine x_aload_n (pc' := 124) K dX6_leastMark_123 0 rfl rfl ?_
      refine xw6_0g_trial (pc' := 127) K hinX6_leastMark_X6 uX6_leastMark_f44 dX6_leastMark_124 rfl ?_
      refine x_dup (pc' := 128) K dX6_leastMark_127 rfl rfl ?_
      refine xw6_58g_day (pc' := 131) K hinX6_leastMark_X5 uX6_leastMark_f163 dX6_leastMark_128 rfl ?_
      refine x_iconst (pc' := 132) (v := 1) K dX6_leastMark_131 (by decide) rfl ?_
      refine x_iadd (pc' := 133) K dX6_leastMark_132 rfl ?_
      refine xw6_58p_day (pc' := 136) K hinX6_leastMark_X5 uX6_leastMark_f163 dX6_leastMark_133 rfl (fun F133 eF133 => ?_)
      replace h := h F133 eF133
      refine x_iinc (pc' := 139) (v := _ + (1 : Int32)) K dX6_leastMark_136 5 rfl rfl (by decide) [1, 2, 3, 4, 5, 0] (L' := [(0, .ref (a 0)), (1, .int _), (2, .ref (a 99)), (3, .int _), (4, .int _), (5, .int _)]) rfl rfl ?_
      refine x_goto (tgt := 96) K dX6_leastMark_139 rfl ?_
      exact ih _ _ _ _ _ _ h
set_option maxHeartbeats 4000000 in
set_option maxRecDepth 100000 in
theorem tX6_leastMark_1_54 (K : XK p m c cX6_leastMark 6 s args wsX6_leastMark RX6 D (xtys cI cO) A meth (some .int)) {Q : Int32 → xF → xA → Prop} : ∀ (n : Nat), ∀ (x1 : Int32) (x3 : Int32) (x4 : Int32) (F : xF) (G : xA), qX6_leastMark_1_54 Q n x1 x3 x4 F G → XJ p l e rmX6_leastMark_1 s m args below meth c 0 0 (MQ below (xQi D (w6 cI cO a) A Q) args s 0 0 A) D (xtys cI cO) A 6 (w6 cI cO a F G) 54 [(0, .ref (a 0)), (1, .int x1), (2, .ref (a 99)), (3, .int x3), (4, .int x4)] [] := by
  intro n
  induction n with
  | zero =>
    intro x1 x3 x4 F G h
    exact False.elim h
  | succ n ih =>
    intro x1 x3 x4 F G h
    refine x_iload (pc' := 56) K dX6_leastMark_54 4 rfl rfl ?_
    refine x_bipush (pc' := 58) (v := 9) K dX6_leastMark_56 (by decide) rfl ?_
    refine x_icmp_gt (tgt := 165) (pc' := 61) K dX6_leastMark_58 rfl rfl (fun c58 => ?_) (fun c58 => ?_)
    · replace h := h.1 c58
      refine x_iconst (pc' := 166) (v := -1) K dX6_leastMark_165 (by decide) rfl ?_
      exact x_iret (wf := w6 cI cO a) K h dX6_leastMark_166
    · replace h := h.2 c58
      refine x_aload_n (pc' := 62) K dX6_leastMark_61 0 rfl rfl ?_
      refine xw6_0g_trial (pc' := 65) K hinX6_leastMark_X6 uX6_leastMark_f44 dX6_leastMark_62 rfl ?_
      refine x_aload_n (pc' := 66) K dX6_leastMark_65 0 rfl rfl ?_
      refine xw6_0g_now (pc' := 69) K hinX6_leastMark_X6 uX6_leastMark_f10 dX6_leastMark_66 rfl ?_
      refine x_subV (pc' := 72) (wn := fun F' G' => w6 cI cO a (xspl (xspl F 21 7 F') 0 7 (xsub F' 7)) (xspl (xspl G 42 14 G') 0 14 (xsub G' 14))) K (mX5_takeFrom l D cI cO (xcat 19 (xsub a 58) (xsub a 1))) rfl gX6_leastMark_X5_takeFrom rfl dsX5_takeFrom ⟨rfl, rfl, ⟨Nat.le_of_ble_eq_true rfl, Nat.le_of_ble_eq_true rfl⟩, Nat.le_of_ble_eq_true rfl, Nat.le_of_ble_eq_true rfl⟩ h 5 0 rfl rfl (xpl19 cI cO a _ _) (fun F' G' => xpr19 cI cO a _ _ F' G') (st := []) rfl rfl (Nat.le_of_ble_eq_true rfl) dX6_leastMark_69 rfl (fun F69 G69 h => ?_)
      obtain ⟨E69, eE69⟩ : ∃ x : xF, x = (xspl (xspl F 21 7 F69) 0 7 (xsub F69 7)) := ⟨_, rfl⟩
      obtain ⟨H69, eH69⟩ : ∃ x : xA, x = (xspl (xspl G 42 14 G69) 0 14 (xsub G69 14)) := ⟨_, rfl⟩
      refine x_weq (w' := w6 cI cO a E69 H69) (by subst eE69; subst eH69; rfl) ?_
      replace h := h E69 eE69
      replace h := h H69 eH69
      refine x_aload_n (pc' := 73) K dX6_leastMark_72 0 rfl rfl ?_
      refine xw6_0g_trial (pc' := 76) K hinX6_leastMark_X6 uX6_leastMark_f44 dX6_leastMark_73 rfl ?_
      refine xw6_58g_kind (pc' := 79) K hinX6_leastMark_X5 uX6_leastMark_f105 dX6_leastMark_76 rfl ?_
      refine x_iload_n (pc' := 80) K dX6_leastMark_79 1 rfl rfl ?_
      refine x_iconst (pc' := 81) (v := 3) K dX6_leastMark_80 (by decide) rfl ?_
      obtain ⟨i81, h⟩ := h
      refine xw6_61s (pc' := 82) K i81 rfl dX6_leastMark_81 rfl (fun G81 eG81 => ?_)
      replace h := h G81 eG81
      refine x_aload_n (pc' := 83) K dX6_leastMark_82 0 rfl rfl ?_
      refine xw6_0g_trial (pc' := 86) K hinX6_leastMark_X6 uX6_leastMark_f44 dX6_leastMark_83 rfl ?_
      refine xw6_58g_mark (pc' := 89) K hinX6_leastMark_X5 uX6_leastMark_f108 dX6_leastMark_86 rfl ?_
      refine x_iload_n (pc' := 90) K dX6_leastMark_89 1 rfl rfl ?_
      refine x_iload (pc' := 92) K dX6_leastMark_90 4 rfl rfl ?_
      obtain ⟨i92, h⟩ := h
      refine xw6_62s (pc' := 93) K i92 rfl dX6_leastMark_92 rfl (fun G92 eG92 => ?_)
      replace h := h G92 eG92
      refine x_iconst (pc' := 94) (v := 0) K dX6_leastMark_93 (by decide) rfl ?_
      refine x_istore (pc' := 96) (i := 5) K dX6_leastMark_94 (by decide) [1, 2, 3, 4, 5, 0] (L' := [(0, .ref (a 0)), (1, .int _), (2, .ref (a 99)), (3, .int _), (4, .int _), (5, .int _)]) rfl rfl ?_
      obtain ⟨n96, h⟩ := h
      exact tX6_leastMark_1_96 K (fun x1 x3 x4 F G h => ih x1 x3 x4 F G h) n96 _ _ _ _ _ _ h
set_option maxHeartbeats 4000000 in
set_option maxRecDepth 100000 in
theorem tX6_leastMark_1_24 (K : XK p m c cX6_leastMark 6 s args wsX6_leastMark RX6 D (xtys cI cO) A meth (some .int)) {Q : Int32 → xF → xA → Prop} : ∀ (n : Nat), ∀ (x1 : Int32) (x3 : Int32) (x4 : Int32) (F : xF) (G : xA), qX6_leastMark_1_24 Q n x1 x3 x4 F G → XJ p l e rmX6_leastMark_1 s m args below meth c 0 0 (MQ below (xQi D (w6 cI cO a) A Q) args s 0 0 A) D (xtys cI cO) A 6 (w6 cI cO a F G) 24 [(0, .ref (a 0)), (1, .int x1), (2, .ref (a 99)), (3, .int x3), (4, .int x4)] [] := by
  intro n
  induction n with
  | zero =>
    intro x1 x3 x4 F G h
    exact False.elim h
  | succ n ih =>
    intro x1 x3 x4 F G h
    refine x_iload (pc' := 26) K dX6_leastMark_24 4 rfl rfl ?_
    refine x_iload_n (pc' := 27) K dX6_leastMark_26 3 rfl rfl ?_
    refine x_icmp_ge (tgt := 51) (pc' := 30) K dX6_leastMark_27 rfl rfl (fun c27 => ?_) (fun c27 => ?_)
    · replace h := h.1 c27
      refine x_iconst (pc' := 52) (v := 0) K dX6_leastMark_51 (by decide) rfl ?_
      refine x_istore (pc' := 54) (i := 4) K dX6_leastMark_52 (by decide) [1, 2, 3, 4, 0] (L' := [(0, .ref (a 0)), (1, .int _), (2, .ref (a 99)), (3, .int _), (4, .int _)]) rfl rfl ?_
      obtain ⟨n54, h⟩ := h
      exact tX6_leastMark_1_54 K n54 _ _ _ _ _ h
    · replace h := h.2 c27
      refine x_aload_n (pc' := 31) K dX6_leastMark_30 0 rfl rfl ?_
      refine xw6_0g_finds (pc' := 34) K hinX6_leastMark_X6 uX6_leastMark_f51 dX6_leastMark_31 rfl ?_
      refine x_iload (pc' := 36) K dX6_leastMark_34 4 rfl rfl ?_
      refine x_aload_n (pc' := 37) K dX6_leastMark_36 0 rfl rfl ?_
      refine xw6_0g_side (pc' := 40) K hinX6_leastMark_X6 uX6_leastMark_f41 dX6_leastMark_37 rfl ?_
      refine x_iconst (pc' := 41) (v := -1) K dX6_leastMark_40 (by decide) rfl ?_
      refine x_subI (pc' := 44) (wn := fun F' G' => w6 cI cO a (xspl F 14 7 F') (xspl G 28 14 G')) K (mX5_oneDay l D cI cO (xsub a 39) _) rfl gX6_leastMark_X5_oneDay rfl dsX5_oneDay ⟨rfl, rfl, ⟨Nat.le_of_ble_eq_true rfl, Nat.le_of_ble_eq_true rfl⟩, Nat.le_of_ble_eq_true rfl, Nat.le_of_ble_eq_true rfl⟩ h 5 0 rfl rfl (xpl16 cI cO a _ _) (fun F' G' => xpr16 cI cO a _ _ F' G') (st := [.int _, .ref (a 86)]) rfl rfl (Nat.le_of_ble_eq_true rfl) dX6_leastMark_41 rfl (fun r41 F41 G41 h => ?_)
      obtain ⟨E41, eE41⟩ : ∃ x : xF, x = (xspl F 14 7 F41) := ⟨_, rfl⟩
      obtain ⟨H41, eH41⟩ : ∃ x : xA, x = (xspl G 28 14 G41) := ⟨_, rfl⟩
      refine x_weq (w' := w6 cI cO a E41 H41) (by subst eE41; subst eH41; rfl) ?_
      replace h := h E41 eE41
      replace h := h H41 eH41
      obtain ⟨i44, h⟩ := h
      refine xw6_86s (pc' := 45) K i44 rfl dX6_leastMark_44 rfl (fun G44 eG44 => ?_)
      replace h := h G44 eG44
      refine x_iinc (pc' := 48) (v := _ + (1 : Int32)) K dX6_leastMark_45 4 rfl rfl (by decide) [1, 2, 3, 4, 0] (L' := [(0, .ref (a 0)), (1, .int _), (2, .ref (a 99)), (3, .int _), (4, .int _)]) rfl rfl ?_
      refine x_goto (tgt := 24) K dX6_leastMark_48 rfl ?_
      exact ih _ _ _ _ _ h
set_option maxHeartbeats 4000000 in
set_option maxRecDepth 100000 in
theorem mX6_leastMark_1 (l : Launch) (D : va_G) (cI cO : ClassId) (a : Nat → Nat)  (x1 : Int32) (x3 : Int32) : MI l yX6_leastMark wsX6_leastMark rmX6_leastMark_1 D (xtys cI cO) [.ref (a 0), .int x1, .ref (a 99), .int x3] (w6 cI cO a) (qX6_leastMark_1 x1 x3) := by
  refine MI_of (cc := cX6_leastMark) (maxL := 6) (own := RX6) (by decide) rfl rfl (Nat.le_of_ble_eq_true rfl) ?_
  intro p e s m args below meth c A F G Q h K
  refine x_locals [0, 1, 2, 3] (L' := [(0, .ref (a 0)), (1, .int _), (2, .ref (a 99)), (3, .int _)]) rfl ?_
  refine x_aload_n (pc' := 1) K dX6_leastMark_0 0 rfl rfl ?_
  refine xw6_0g_side (pc' := 4) K hinX6_leastMark_X6 uX6_leastMark_f41 dX6_leastMark_1 rfl ?_
  refine x_aload_n (pc' := 5) K dX6_leastMark_4 0 rfl rfl ?_
  refine xw6_0g_now (pc' := 8) K hinX6_leastMark_X6 uX6_leastMark_f10 dX6_leastMark_5 rfl ?_
  refine x_subV (pc' := 11) (wn := fun F' G' => w6 cI cO a (xspl (xspl F 14 7 F') 0 7 (xsub F' 7)) (xspl (xspl G 28 14 G') 0 14 (xsub G' 14))) K (mX5_takeFrom l D cI cO (xcat 19 (xsub a 39) (xsub a 1))) rfl gX6_leastMark_X5_takeFrom rfl dsX5_takeFrom ⟨rfl, rfl, ⟨Nat.le_of_ble_eq_true rfl, Nat.le_of_ble_eq_true rfl⟩, Nat.le_of_ble_eq_true rfl, Nat.le_of_ble_eq_true rfl⟩ h 5 0 rfl rfl (xpl15 cI cO a _ _) (fun F' G' => xpr15 cI cO a _ _ F' G') (st := []) rfl rfl (Nat.le_of_ble_eq_true rfl) dX6_leastMark_8 rfl (fun F8 G8 h => ?_)
  obtain ⟨E8, eE8⟩ : ∃ x : xF, x = (xspl (xspl F 14 7 F8) 0 7 (xsub F8 7)) := ⟨_, rfl⟩
  obtain ⟨H8, eH8⟩ : ∃ x : xA, x = (xspl (xspl G 28 14 G8) 0 14 (xsub G8 14)) := ⟨_, rfl⟩
  refine x_weq (w' := w6 cI cO a E8 H8) (by subst eE8; subst eH8; rfl) ?_
  replace h := h E8 eE8
  replace h := h H8 eH8
  refine x_aload_n (pc' := 12) K dX6_leastMark_11 0 rfl rfl ?_
  refine xw6_0g_side (pc' := 15) K hinX6_leastMark_X6 uX6_leastMark_f41 dX6_leastMark_12 rfl ?_
  refine xw6_39g_kind (pc' := 18) K hinX6_leastMark_X5 uX6_leastMark_f105 dX6_leastMark_15 rfl ?_
  refine x_iload_n (pc' := 19) K dX6_leastMark_18 1 rfl rfl ?_
  refine x_iconst (pc' := 20) (v := 3) K dX6_leastMark_19 (by decide) rfl ?_
  obtain ⟨i20, h⟩ := h
  refine xw6_42s (pc' := 21) K i20 rfl dX6_leastMark_20 rfl (fun G20 eG20 => ?_)
  replace h := h G20 eG20
  refine x_iconst (pc' := 22) (v := 0) K dX6_leastMark_21 (by decide) rfl ?_
  refine x_istore (pc' := 24) (i := 4) K dX6_leastMark_22 (by decide) [1, 2, 3, 4, 0] (L' := [(0, .ref (a 0)), (1, .int _), (2, .ref (a 99)), (3, .int _), (4, .int _)]) rfl rfl ?_
  obtain ⟨n24, h⟩ := h
  exact tX6_leastMark_1_24 K n24 _ _ _ _ _ h
end
