section
variable {p : Program} {l : Launch} {e : Env} {s : State} {m : MethodId} {args : Array Value} {below : List Frame} {meth : Method} {c : Code} {D : va_G} {cI cO : ClassId} {A : Nat → Prop} {a : Nat → Nat} {d : Nat}
/-! X6_leastMark_2 -/
set_option maxHeartbeats 4000000 in
set_option maxRecDepth 100000 in
theorem xpl22 (cI : ClassId) (cO : ClassId) (a : Nat → Nat) (F : xF) (G : xA) : (w6 cI cO a F G).Perm (List.flatMap (bw6 cI cO a F G) [0, 1, 2, 3, 4, 5, 6, 7, 8, 9, 10, 11, 12, 13, 14, 15, 16, 17, 18, 19, 20, 21, 22, 23, 24, 33, 34, 35, 36, 37, 38, 39, 40, 41, 42, 43, 44, 45, 46, 47, 48, 49, 52, 53] ++ w2a cI (xcat 2 (xsub a 101) (xsub a 58)) (xcat 2 (xsub F 46) (xsub F 21)) (xcat 1 (xsub G 68) (xsub G 42))) := xpermF (bf := bw6 cI cO a F G) (ns := [0, 1, 2, 3, 4, 5, 6, 7, 8, 9, 10, 11, 12, 13, 14, 15, 16, 17, 18, 19, 20, 21, 22, 23, 24, 25, 26, 27, 28, 29, 30, 31, 32, 33, 34, 35, 36, 37, 38, 39, 40, 41, 42, 43, 44, 45, 46, 47, 48, 49, 50, 51, 52, 53]) rfl [0, 1, 2, 3, 4, 5, 6, 7, 8, 9, 10, 11, 12, 13, 14, 15, 16, 17, 18, 19, 20, 21, 22, 23, 24, 33, 34, 35, 36, 37, 38, 39, 40, 41, 42, 43, 44, 45, 46, 47, 48, 49, 52, 53] [50, 51, 25, 26, 27, 28, 29, 30, 31, 32] (by decide +kernel) rfl rfl
set_option maxHeartbeats 4000000 in
set_option maxRecDepth 100000 in
theorem xpr22 (cI : ClassId) (cO : ClassId) (a : Nat → Nat) (F : xF) (G : xA) (F' : xF) (G' : xA) : (w6 cI cO a (xspl (xspl F 46 2 F') 21 7 (xsub F' 2)) (xspl (xspl G 68 1 G') 42 14 (xsub G' 1))).Perm (List.flatMap (bw6 cI cO a F G) [0, 1, 2, 3, 4, 5, 6, 7, 8, 9, 10, 11, 12, 13, 14, 15, 16, 17, 18, 19, 20, 21, 22, 23, 24, 33, 34, 35, 36, 37, 38, 39, 40, 41, 42, 43, 44, 45, 46, 47, 48, 49, 52, 53] ++ w2a cI (xcat 2 (xsub a 101) (xsub a 58)) F' G') := xpermF (bf := bw6 cI cO a (xspl (xspl F 46 2 F') 21 7 (xsub F' 2)) (xspl (xspl G 68 1 G') 42 14 (xsub G' 1))) (ns := [0, 1, 2, 3, 4, 5, 6, 7, 8, 9, 10, 11, 12, 13, 14, 15, 16, 17, 18, 19, 20, 21, 22, 23, 24, 25, 26, 27, 28, 29, 30, 31, 32, 33, 34, 35, 36, 37, 38, 39, 40, 41, 42, 43, 44, 45, 46, 47, 48, 49, 50, 51, 52, 53]) rfl [0, 1, 2, 3, 4, 5, 6, 7, 8, 9, 10, 11, 12, 13, 14, 15, 16, 17, 18, 19, 20, 21, 22, 23, 24, 33, 34, 35, 36, 37, 38, 39, 40, 41, 42, 43, 44, 45, 46, 47, 48, 49, 52, 53] [50, 51, 25, 26, 27, 28, 29, 30, 31, 32] (by decide +kernel) rfl rfl
abbrev rmX6_leastMark_2 : Room := { frames := 7, cells := 0, slots := 0, locals := 242 }
set_option maxHeartbeats 4000000 in
set_option maxRecDepth 100000 in
theorem tX6_leastMark_2_96 (K : XK p m c cX6_leastMark 6 s args wsX6_leastMark RX6 D (xtys cI cO) A meth (some .int)) {Q : Int32 → xF → xA → Prop} {k54 : Int32 → Int32 → Int32 → xF → xA → Prop} (hk54 : ∀ (x1 : Int32) (x3 : Int32) (x4 : Int32) (F : xF) (G : xA), k54 x1 x3 x4 F G → XJ p l e rmX6_leastMark_2 s m args below meth c 0 0 (MQ below (xQi D (w6 cI cO a) A Q) args s 0 0 A) D (xtys cI cO) A 6 (w6 cI cO a F G) 54 [(0, .ref (a 0)), (1, .int x1), (2, .ref (a 101)), (3, .int x3), (4, .int x4)] []) : ∀ (n : Nat), ∀ (x1 : Int32) (x3 : Int32) (x4 : Int32) (x5 : Int32) (F : xF) (G : xA), qX6_leastMark_2_96 Q k54 n x1 x3 x4 x5 F G → XJ p l e rmX6_leastMark_2 s m args below meth c 0 0 (MQ below (xQi D (w6 cI cO a) A Q) args s 0 0 A) D (xtys cI cO) A 6 (w6 cI cO a F G) 96 [(0, .ref (a 0)), (1, .int x1), (2, .ref (a 101)), (3, .int x3), (4, .int x4), (5, .int x5)] [] := by
  intro n
  induction n with
  | zero =>
    intro x1 x3 x4 x5 F G h
    exact False.elim h
  | succ n ih =>
    intro x1 x3 x4 x5 F G h
    refine x_iload (pc' := 98) K dX6_leastMark_96 5 rfl rfl ?_
    refine x_iload_n (pc' := 99) K dX6_leastMark_98 3 rfl rfl ?_
    refine x_icmp_ge (tgt := 142) (pc' := 102) K dX6_leastMark_99 rfl rfl (fun c99 => ?_) (fun c99 => ?_)
    · replace h := h.1 c99
      refine x_aload_n (pc' := 143) K dX6_leastMark_142 2 rfl rfl ?_
      refine x_aload_n (pc' := 144) K dX6_leastMark_143 0 rfl rfl ?_
      refine xw6_0g_trial (pc' := 147) K hinX6_leastMark_X6 uX6_leastMark_f44 dX6_leastMark_144 rfl ?_
      refine xw6_58g_purse (pc' := 150) K hinX6_leastMark_X5 uX6_leastMark_f195 dX6_leastMark_147 rfl ?_
      refine x_subI (pc' := 153) (wn := fun F' G' => w6 cI cO a (xspl (xspl F 46 2 F') 21 7 (xsub F' 2)) (xspl (xspl G 68 1 G') 42 14 (xsub G' 1))) K (mX2_startsWith l D cI cO (xcat 2 (xsub a 101) (xsub a 58))) rfl gX6_leastMark_X2_startsWith rfl dsX2_startsWith ⟨rfl, rfl, ⟨Nat.le_of_ble_eq_true rfl, Nat.le_of_ble_eq_true rfl⟩, Nat.le_of_ble_eq_true rfl, Nat.le_of_ble_eq_true rfl⟩ h 2 0 rfl rfl (xpl22 cI cO a _ _) (fun F' G' => xpr22 cI cO a _ _ F' G') (st := []) rfl rfl (Nat.le_of_ble_eq_true rfl) dX6_leastMark_150 rfl (fun r150 F150 G150 h => ?_)
      obtain ⟨E150, eE150⟩ : ∃ x : xF, x = (xspl (xspl F 46 2 F150) 21 7 (xsub F150 2)) := ⟨_, rfl⟩
      obtain ⟨H150, eH150⟩ : ∃ x : xA, x = (xspl (xspl G 68 1 G150) 42 14 (xsub G150 1)) := ⟨_, rfl⟩
      refine x_weq (w' := w6 cI cO a E150 H150) (by subst eE150; subst eH150; rfl) ?_
      replace h := h E150 eE150
      replace h := h H150 eH150
      refine x_if_eq (tgt := 159) (pc' := 156) K dX6_leastMark_153 rfl rfl (fun c153 => ?_) (fun c153 => ?_)
      · replace h := h.1 c153
        refine x_iinc (pc' := 162) (v := _ + (1 : Int32)) K dX6_leastMark_159 4 rfl rfl (by decide) [1, 2, 3, 4, 0, 5] (L' := [(0, .ref (a 0)), (1, .int _), (2, .ref (a 101)), (3, .int _), (4, .int _), (5, .int _)]) rfl rfl ?_
        refine x_goto (tgt := 54) K dX6_leastMark_162 rfl ?_
        refine x_locals [0, 1, 2, 3, 4] (L' := [(0, .ref (a 0)), (1, .int _), (2, .ref (a 101)), (3, .int _), (4, .int _)]) rfl ?_
        exact hk54 _ _ _ _ _ h
      · replace h := h.2 c153
        refine x_iload (pc' := 158) K dX6_leastMark_156 4 rfl rfl ?_
        exact x_iret (wf := w6 cI cO a) K h dX6_leastMark_158
    · replace h := h.2 c99
      refine x_aload_n (pc' := 103) K dX6_leastMark_102 0 rfl rfl ?_
      refine xw6_0g_trial (pc' := 106) K hinX6_leastMark_X6 uX6_leastMark_f44 dX6_leastMark_103 rfl ?_
      refine x_aload_n (pc' := 107) K dX6_leastMark_106 0 rfl rfl ?_
      refine xw6_0g_trial (pc' := 110) K hinX6_leastMark_X6 uX6_leastMark_f44 dX6_leastMark_107 rfl ?_
      refine x_subI (pc' := 113) (wn := fun F' G' => w6 cI cO a (xspl F 21 7 F') (xspl G 42 14 G')) K (mX5_whoHasIt l D cI cO (xsub a 58)) rfl gX6_leastMark_X5_whoHasIt rfl dsX5_whoHasIt ⟨rfl, rfl, ⟨Nat.le_of_ble_eq_true rfl, Nat.le_of_ble_eq_true rfl⟩, Nat.le_of_ble_eq_true rfl, Nat.le_of_ble_eq_true rfl⟩ h 5 0 rfl rfl (xpl18 cI cO a _ _) (fun F' G' => xpr18 cI cO a _ _ F' G') (st := [.ref (a 58)]) rfl rfl (Nat.le_of_ble_eq_true rfl) dX6_leastMark_110 rfl (fun r110 F110 G110 h => ?_)
      obtain ⟨E110, eE110⟩ : ∃ x : xF, x = (xspl F 21 7 F110) := ⟨_, rfl⟩
      obtain ⟨H110, eH110⟩ : ∃ x : xA, x = (xspl G 42 14 G110) := ⟨_, rfl⟩
      refine x_weq (w' := w6 cI cO a E110 H110) (by subst eE110; subst eH110; rfl) ?_
      replace h := h E110 eE110
      replace h := h H110 eH110
      refine x_aload_n (pc' := 114) K dX6_leastMark_113 0 rfl rfl ?_
      refine xw6_0g_finds (pc' := 117) K hinX6_leastMark_X6 uX6_leastMark_f51 dX6_leastMark_114 rfl ?_
      refine x_iload (pc' := 119) K dX6_leastMark_117 5 rfl rfl ?_
      obtain ⟨i119, h⟩ := h
      refine xw6_86l (pc' := 120) K i119 rfl dX6_leastMark_119 rfl ?_
      refine x_subV (pc' := 123) (wn := fun F' G' => w6 cI cO a (xspl E110 21 7 F') (xspl H110 42 14 G')) K (mX5_partOut l D cI cO (xsub a 58) _ _) rfl gX6_leastMark_X5_partOut rfl dsX5_partOut ⟨rfl, rfl, ⟨Nat.le_of_ble_eq_true rfl, Nat.le_of_ble_eq_true rfl⟩, Nat.le_of_ble_eq_true rfl, Nat.le_of_ble_eq_true rfl⟩ h 5 0 rfl rfl (xpl18 cI cO a _ _) (fun F' G' => xpr18 cI cO a _ _ F' G') (st := []) rfl rfl (Nat.le_of_ble_eq_true rfl) dX6_leastMark_120 rfl (fun F120 G120 h => ?_)
      obtain ⟨E120, eE120⟩ : ∃ x : xF, x = (xspl E110 21 7 F120) := ⟨_, rfl⟩
      obtain ⟨H120, eH120⟩ : ∃ x : xA, x = (xspl H110 42 14 G120) := ⟨_, rfl⟩
      refine x_weq (w' := w6 cI cO a E120 H120) (by subst eE120; subst eH120; rfl) ?_
      replace h := h E120 eE120
      replace h := h H120 eH120
      refine x_aload_n (pc' := 124) K dX6_leastMark_123 0 rfl rfl ?_
      refine xw6_0g_trial (pc' := 127) K hinX6_leastMark_X6 uX6_leastMark_f44 dX6_leastMark_124 rfl ?_
      refine x_dup (pc' := 128) K dX6_leastMark_127 rfl rfl ?_
      refine xw6_58g_day (pc' := 131) K hinX6_leastMark_X5 uX6_leastMark_f163 dX6_leastMark_128 rfl ?_
      refine x_iconst (pc' := 132) (v := 1) K dX6_leastMark_131 (by decide) rfl ?_
      refine x_iadd (pc' := 133) K dX6_leastMark_132 rfl ?_
      refine xw6_58p_day (pc' := 136) K hinX6_leastMark_X5 uX6_leastMark_f163 dX6_leastMark_133 rfl (fun F133 eF133 => ?_)
      replace h := h F133 eF133
      refine x_iinc (pc' := 139) (v := _ + (1 : Int32)) K dX6_leastMark_136 5 rfl rfl (by decide) [1, 2, 3, 4, 5, 0] (L' := [(0, .ref (a 0)), (1, .int _), (2, .ref (a 101)), (3, .int _), (4, .int _), (5, .int _)]) rfl rfl ?_
      refine x_goto (tgt := 96) K dX6_leastMark_139 rfl ?_
      exact ih _ _ _ _ _ _ h
set_option maxHeartbeats 4000000 in
set_option maxRecDepth 100000 in
theorem tX6_leastMark_2_54 (K : XK p m c cX6_leastMark 6 s args wsX6_leastMark RX6 D (xtys cI cO) A meth (some .int)) {Q : Int32 → xF → xA → Prop} : ∀ (n : Nat), ∀ (x1 : Int32) (x3 : Int32) (x4 : Int32) (F : xF) (G : xA), qX6_leastMark_2_54 Q n x1 x3 x4 F G → XJ p l e rmX6_leastMark_2 s m args below meth c 0 0 (MQ below (xQi D (w6 cI cO a) A Q) args s 0 0 A) D (xtys cI cO) A 6 (w6 cI cO a F G) 54 [(0, .ref (a 0)), (1, .int x1), (2, .ref (a 101)), (3, .int x3), (4, .int x4)] [] := by
  intro n
  induction n with
  | zero =>
    intro x1 x3 x4 F G h
    exact False.elim h
  | succ n ih =>
    intro x1 x3 x4 F G h
    refine x_iload (pc' := 56) K dX6_leastMark_54 4 rfl rfl ?_
    refine x_bipush (pc' := 58) (v := 9) K dX6_leastMark_56 (by decide) rfl ?_
    refine x_icmp_gt (tgt := 165) (pc' := 61) K dX6_leastMark_58 rfl rfl (fun c58 => ?_) (fun c58 => ?_)
    · replace h := h.1 c58
      refine x_iconst (pc' := 166) (v := -1) K dX6_leastMark_165 (by decide) rfl ?_
      exact x_iret (wf := w6 cI cO a) K h dX6_leastMark_166
    · replace h := h.2 c58
      refine x_aload_n (pc' := 62) K dX6_leastMark_61 0 rfl rfl ?_
      refine xw6_0g_trial (pc' := 65) K hinX6_leastMark_X6 uX6_leastMark_f44 dX6_leastMark_62 rfl ?_
      refine x_aload_n (pc' := 66) K dX6_leastMark_65 0 rfl rfl ?_
      refine xw6_0g_now (pc' := 69) K hinX6_leastMark_X6 uX6_leastMark_f10 dX6_leastMark_66 rfl ?_
      refine x_subV (pc' := 72) (wn := fun F' G' => w6 cI cO a (xspl (xspl F 21 7 F') 0 7 (xsub F' 7)) (xspl (xspl G 42 14 G') 0 14 (xsub G' 14))) K (mX5_takeFrom l D cI cO (xcat 19 (xsub a 58) (xsub a 1))) rfl gX6_leastMark_X5_takeFrom rfl dsX5_takeFrom ⟨rfl, rfl, ⟨Nat.le_of_ble_eq_true rfl, Nat.le_of_ble_eq_true rfl⟩, Nat.le_of_ble_eq_true rfl, Nat.le_of_ble_eq_true rfl⟩ h 5 0 rfl rfl (xpl19 cI cO a _ _) (fun F' G' => xpr19 cI cO a _ _ F' G') (st := []) rfl rfl (Nat.le_of_ble_eq_true rfl) dX6_leastMark_69 rfl (fun F69 G69 h => ?_)
      obtain ⟨E69, eE69⟩ : ∃ x : xF, x = (xspl (xspl F 21 7 F69) 0 7 (xsub F69 7)) := ⟨_, rfl⟩
      obtain ⟨H69, eH69⟩ : ∃ x : xA, x = (xspl (xspl G 42 14 G69) 0 14 (xsub G69 14)) := ⟨_, rfl⟩
      refine x_weq (w' := w6 cI cO a E69 H69) (by subst eE69; subst eH69; rfl) ?_
      replace h := h E69 eE69
      replace h := h H69 eH69
      refine x_aload_n (pc' := 73) K dX6_leastMark_72 0 rfl rfl ?_
      refine xw6_0g_trial (pc' := 76) K hinX6_leastMark_X6 uX6_leastMark_f44 dX6_leastMark_73 rfl ?_
      refine xw6_58g_kind (pc' := 79) K hinX6_leastMark_X5 uX6_leastMark_f105 dX6_leastMark_76 rfl ?_
      refine x_iload_n (pc' := 80) K dX6_leastMark_79 1 rfl rfl ?_
      refine x_iconst (pc' := 81) (v := 3) K dX6_leastMark_80 (by decide) rfl ?_
      obtain ⟨i81, h⟩ := h
      refine xw6_61s (pc' := 82) K i81 rfl dX6_leastMark_81 rfl (fun G81 eG81 => ?_)
      replace h := h G81 eG81
      refine x_aload_n (pc' := 83) K dX6_leastMark_82 0 rfl rfl ?_
      refine xw6_0g_trial (pc' := 86) K hinX6_leastMark_X6 uX6_leastMark_f44 dX6_leastMark_83 rfl ?_
      refine xw6_58g_mark (pc' := 89) K hinX6_leastMark_X5 uX6_leastMark_f108 dX6_leastMark_86 rfl ?_
      refine x_iload_n (pc' := 90) K dX6_leastMark_89 1 rfl rfl ?_
      refine x_iload (pc' := 92) K dX6_leastMark_90 4 rfl rfl ?_
      obtain ⟨i92, h⟩ := h
      refine xw6_62s (pc' := 93) K i92 rfl dX6_leastMark_92 rfl (fun G92 eG92 => ?_)
      replace h := h G92 eG92
      refine x_iconst (pc' := 94) (v := 0) K dX6_leastMark_93 (by decide) rfl ?_
      refine x_istore (pc' := 96) (i := 5) K dX6_leastMark_94 (by decide) [1, 2, 3, 4, 5, 0] (L' := [(0, .ref (a 0)), (1, .int _), (2, .ref (a 101)), (3, .int _), (4, .int _), (5, .int _)]) rfl rfl ?_
      obtain ⟨n96, h⟩ := h
      exact tX6_leastMark_2_96 K (fun x1 x3 x4 F G h => ih x1 x3 x4 F G h) n96 _ _ _ _ _ _ h
set_option maxHeartbeats 4000000 in
set_option maxRecDepth 100000 in
theorem tX6_leastMark_2_24 (K : XK p m c cX6_leastMark 6 s args wsX6_leastMark RX6 D (xtys cI cO) A meth (some .int)) {Q : Int32 → xF → xA → Prop} : ∀ (n : Nat), ∀ (x1 : Int32) (x3 : Int32) (x4 : Int32) (F : xF) (G : xA), qX6_leastMark_2_24 Q n x1 x3 x4 F G → XJ p l e rmX6_leastMark_2 s m args below meth c 0 0 (MQ below (xQi D (w6 cI cO a) A Q) args s 0 0 A) D (xtys cI cO) A 6 (w6 cI cO a F G) 24 [(0, .ref (a 0)), (1, .int x1), (2, .ref (a 101)), (3, .int x3), (4, .int x4)] [] := by
  intro n
  induction n with
  | zero =>
    intro x1 x3 x4 F G h
    exact False.elim h
  | succ n ih =>
    intro x1 x3 x4 F G h
    refine x_iload (pc' := 26) K dX6_leastMark_24 4 rfl rfl ?_
    refine x_iload_n (pc' := 27) K dX6_leastMark_26 3 rfl rfl ?_
    refine x_icmp_ge (tgt := 51) (pc' := 30) K dX6_leastMark_27 rfl rfl (fun c27 => ?_) (fun c27 => ?_)
    · replace h := h.1 c27
      refine x_iconst (pc' := 52) (v := 0) K dX6_leastMark_51 (by decide) rfl ?_
      refine x_istore (pc' := 54) (i := 4) K dX6_leastMark_52 (by decide) [1, 2, 3, 4, 0] (L' := [(0, .ref (a 0)), (1, .int _), (2, .ref (a 101)), (3, .int _), (4, .int _)]) rfl rfl ?_
      obtain ⟨n54, h⟩ := h
      exact tX6_leastMark_2_54 K n54 _ _ _ _ _ h
    · replace h := h.2 c27
      refine x_aload_n (pc' := 31) K dX6_leastMark_30 0 rfl rfl ?_
      refine xw6_0g_finds (pc' := 34) K hinX6_leastMark_X6 uX6_leastMark_f51 dX6_leastMark_31 rfl ?_
      refine x_iload (pc' := 36) K dX6_leastMark_34 4 rfl rfl ?_
      refine x_aload_n (pc' := 37) K dX6_leastMark_36 0 rfl rfl ?_
      refine xw6_0g_side (pc' := 40) K hinX6_leastMark_X6 uX6_leastMark_f41 dX6_leastMark_37 rfl ?_
      refine x_iconst (pc' := 41) (v := -1) K dX6_leastMark_40 (by decide) rfl ?_
      refine x_subI (pc' := 44) (wn := fun F' G' => w6 cI cO a (xspl F 14 7 F') (xspl G 28 14 G')) K (mX5_oneDay l D cI cO (xsub a 39) _) rfl gX6_leastMark_X5_oneDay rfl dsX5_oneDay ⟨rfl, rfl, ⟨Nat.le_of_ble_eq_true rfl, Nat.le_of_ble_eq_true rfl⟩, Nat.le_of_ble_eq_true rfl, Nat.le_of_ble_eq_true rfl⟩ h 5 0 rfl rfl (xpl16 cI cO a _ _) (fun F' G' => xpr16 cI cO a _ _ F' G') (st := [.int _, .ref (a 86)]) rfl rfl (Nat.le_of_ble_eq_true rfl) dX6_leastMark_41 rfl (fun r41 F41 G41 h => ?_)
      obtain ⟨E41, eE41⟩ : ∃ x : xF, x = (xspl F 14 7 F41) := ⟨_, rfl⟩
      obtain ⟨H41, eH41⟩ : ∃ x : xA, x = (xspl G 28 14 G41) := ⟨_, rfl⟩
      refine x_weq (w' := w6 cI cO a E41 H41) (by subst eE41; subst eH41; rfl) ?_
      replace h := h E41 eE41
      replace h := h H41 eH41
      obtain ⟨i44, h⟩ := h
      refine xw6_86s (pc' := 45) K i44 rfl dX6_leastMark_44 rfl (fun G44 eG44 => ?_)
      replace h := h G44 eG44
      refine x_iinc (pc' := 48) (v := _ + (1 : Int32)) K dX6_leastMark_45 4 rfl rfl (by decide) [1, 2, 3, 4, 0] (L' := [(0, .ref (a 0)), (1, .int _), (2, .ref (a 101)), (3, .int _), (4, .int _)]) rfl rfl ?_
      refine x_goto (tgt := 24) K dX6_leastMark_48 rfl ?_
      exact ih _ _ _ _ _ h
set_option maxHeartbeats 4000000 in
set_option maxRecDepth 100000 in
theorem mX6_leastMark_2 (l : Launch) (D : va_G) (cI cO : ClassId) (a : Nat → Nat)  (x1 : Int32) (x3 : Int32) : MI l yX6_leastMark wsX6_leastMark rmX6_leastMark_2 D (xtys cI cO) [.ref (a 0), .int x1, .ref (a 101), .int x3] (w6 cI cO a) (qX6_leastMark_2 x1 x3) := by
  refine MI_of (cc := cX6_leastMark) (maxL := 6) (own := RX6) (by decide) rfl rfl (Nat.le_of_ble_eq_true rfl) ?_
  intro p e s m args below meth c A F G Q h K
  refine x_locals [0, 1, 2, 3] (L' := [(0, .ref (a 0)), (1, .int _), (2, .ref (a 101)), (3, .int _)]) rfl ?_
  refine x_aload_n (pc' := 1) K dX6_leastMark_0 0 rfl rfl ?_
  refine xw6_0g_side (pc' := 4) K hinX6_leastMark_X6 uX6_leastMark_f41 dX6_leastMark_1 rfl ?_
  refine x_aload_n (pc' := 5) K dX6_leastMark_4 0 rfl rfl ?_
  refine xw6_0g_now (pc' := 8) K hinX6_leastMark_X6 uX6_leastMark_f10 dX6_leastMark_5 rfl ?_
  refine x_subV (pc' := 11) (wn := fun F' G' => w6 cI cO a (xspl (xspl F 14 7 F') 0 7 (xsub F' 7)) (xspl (xspl G 28 14 G') 0 14 (xsub G' 14))) K (mX5_takeFrom l D cI cO (xcat 19 (xsub a 39) (xsub a 1))) rfl gX6_leastMark_X5_takeFrom rfl dsX5_takeFrom ⟨rfl, rfl, ⟨Nat.le_of_ble_eq_true rfl, Nat.le_of_ble_eq_true rfl⟩, Nat.le_of_ble_eq_true rfl, Nat.le_of_ble_eq_true rfl⟩ h 5 0 rfl rfl (xpl15 cI cO a _ _) (fun F' G' => xpr15 cI cO a _ _ F' G') (st := []) rfl rfl (Nat.le_of_ble_eq_true rfl) dX6_leastMark_8 rfl (fun F8 G8 h => ?_)
  obtain ⟨E8, eE8⟩ : ∃ x : xF, x = (xspl (xspl F 14 7 F8) 0 7 (xsub F8 7)) := ⟨_, rfl⟩
  obtain ⟨H8, eH8⟩ : ∃ x : xA, x = (xspl (xspl G 28 14 G8) 0 14 (xsub G8 14)) := ⟨_, rfl⟩
  refine x_weq (w' := w6 cI cO a E8 H8) (by subst eE8; subst eH8; rfl) ?_
  replace h := h E8 eE8
  replace h := h H8 eH8
  refine x_aload_n (pc' := 12) K dX6_leastMark_11 0 rfl rfl ?_
  refine xw6_0g_side (pc' := 15) K hinX6_leastMark_X6 uX6_leastMark_f41 dX6_leastMark_12 rfl ?_
  refine xw6_39g_kind (pc' := 18) K hinX6_leastMark_X5 uX6_leastMark_f105 dX6_leastMark_15 rfl ?_
  refine x_iload_n (pc' := 19) K dX6_leastMark_18 1 rfl rfl ?_
  refine x_iconst (pc' := 20) (v := 3) K dX6_leastMark_19 (by decide) rfl ?_
  obtain ⟨i20, h⟩ := h
  refine xw6_42s (pc' := 21) K i20 rfl dX6_leastMark_20 rfl (fun G20 eG20 => ?_)
  replace h := h G20 eG20
  refine x_iconst (pc' := 22) (v := 0) K dX6_leastMark_21 (by decide) rfl ?_
  refine x_istore (pc' := 24) (i := 4) K dX6_leastMark_22 (by decide) [1, 2, 3, 4, 0] (L' := [(0, .ref (a 0)), (1, .int _), (2, .ref (a 101)), (3, .int _), (4, .int _)]) rfl rfl ?_
  obtain ⟨n24, h⟩ := h
  exact tX6_leastMark_2_24 K n24 _ _ _ _ _ h
/-! X6_leastMark_3 -/
set_option maxHeartbeats 4000000 in
set_option maxRecDepth 100000 in
theorem xpl23 (cI : ClassId) (cO : ClassId) (a : Nat → Nat) (F : xF) (G : xA) : (w6 cI cO a F G).Perm (List.flatMap (bw6 cI cO a F G) [0, 1, 2, 3, 4, 5, 6, 7, 8, 9, 10, 11, 12, 13, 14, 15, 16, 17, 18, 19, 20, 21, 22, 23, 24, 33, 34, 35, 36, 37, 38, 39, 40, 41, 42, 43, 44, 45, 46, 47, 48, 49, 50, 51] ++ w2a cI (xcat 2 (xsub a 103) (xsub a 58)) (xcat 2 (xsub F 48) (xsub F 21)) (xcat 1 (xsub G 69) (xsub G 42))) := xpermF (bf := bw6 cI cO a F G) (ns := [0, 1, 2, 3, 4, 5, 6, 7, 8, 9, 10, 11, 12, 13, 14, 15, 16, 17, 18, 19, 20, 21, 22, 23, 24, 25, 26, 27, 28, 29, 30, 31, 32, 33, 34, 35, 36, 37, 38, 39, 40, 41, 42, 43, 44, 45, 46, 47, 48, 49, 50, 51, 52, 53]) rfl [0, 1, 2, 3, 4, 5, 6, 7, 8, 9, 10, 11, 12, 13, 14, 15, 16, 17, 18, 19, 20, 21, 22, 23, 24, 33, 34, 35, 36, 37, 38, 39, 40, 41, 42, 43, 44, 45, 46, 47, 48, 49, 50, 51] [52, 53, 25, 26, 27, 28, 29, 30, 31, 32] (by decide +kernel) rfl rfl
set_option maxHeartbeats 4000000 in
set_option maxRecDepth 100000 in
theorem xpr23 (cI : ClassId) (cO : ClassId) (a : Nat → Nat) (F : xF) (G : xA) (F' : xF) (G' : xA) : (w6 cI cO a (xspl (xspl F 48 2 F') 21 7 (xsub F' 2)) (xspl (xspl G 69 1 G') 42 14 (xsub G' 1))).Perm (List.flatMap (bw6 cI cO a F G) [0, 1, 2, 3, 4, 5, 6, 7, 8, 9, 10, 11, 12, 13, 14, 15, 16, 17, 18, 19, 20, 21, 22, 23, 24, 33, 34, 35, 36, 37, 38, 39, 40, 41, 42, 43, 44, 45, 46, 47, 48, 49, 50, 51] ++ w2a cI (xcat 2 (xsub a 103) (xsub a 58)) F' G') := xpermF (bf := bw6 cI cO a (xspl (xspl F 48 2 F') 21 7 (xsub F' 2)) (xspl (xspl G 69 1 G') 42 14 (xsub G' 1))) (ns := [0, 1, 2, 3, 4, 5, 6, 7, 8, 9, 10, 11, 12, 13, 14, 15, 16, 17, 18, 19, 20, 21, 22, 23, 24, 25, 26, 27, 28, 29, 30, 31, 32, 33, 34, 35, 36, 37, 38, 39, 40, 41, 42, 43, 44, 45, 46, 47, 48, 49, 50, 51, 52, 53]) rfl [0, 1, 2, 3, 4, 5, 6, 7, 8, 9, 10, 11, 12, 13, 14, 15, 16, 17, 18, 19, 20, 21, 22, 23, 24, 33, 34, 35, 36, 37, 38, 39, 40, 41, 42, 43, 44, 45, 46, 47, 48, 49, 50, 51] [52, 53, 25, 26, 27, 28, 29, 30, 31, 32] (by decide +kernel) rfl rfl
abbrev rmX6_leastMark_3 : Room := { frames := 7, cells := 0, slots := 0, locals := 242 }
set_option maxHeartbeats 4000000 in
set_option maxRecDepth 100000 in
theorem tX6_leastMark_3_96 (K : XK p m c cX6_leastMark 6 s args wsX6_leastMark RX6 D (xtys cI cO) A meth (some .int)) {Q : Int32 → xF → xA → Prop} {k54 : Int32 → Int32 → Int32 → xF → xA → Prop} (hk54 : ∀ (x1 : Int32) (x3 : Int32) (x4 : Int32) (F : xF) (G : xA), k54 x1 x3 x4 F G → XJ p l e rmX6_leastMark_3 s m args below meth c 0 0 (MQ below (xQi D (w6 cI cO a) A Q) args s 0 0 A) D (xtys cI cO) A 6 (w6 cI cO a F G) 54 [(0, .ref (a 0)), (1, .int x1), (2, .ref (a 103)), (3, .int x3), (4, .int x4)] []) : ∀ (n : Nat), ∀ (x1 : Int32) (x3 : Int32) (x4 : Int32) (x5 : Int32) (F : xF) (G : xA), qX6_leastMark_3_96 Q k54 n x1 x3 x4 x5 F G → XJ p l e rmX6_leastMark_3 s m args below meth c 0 0 (MQ below (xQi D (w6 cI cO a) A Q) args s 0 0 A) D (xtys cI cO) A 6 (w6 cI cO a F G) 96 [(0, .ref (a 0)), (1, .int x1), (2, .ref (a 103)), (3, .int x3), (4, .int x4), (5, .int x5)] [] := by
  intro n
  induction n with
  | zero =>
    intro x1 x3 x4 x5 F G h
    exact False.elim h
  | succ n ih =>
    intro x1 x3 x4 x5 F G h
    refine x_iload (pc' := 98) K dX6_leastMark_96 5 rfl rfl ?_
    refine x_iload_n (pc' := 99) K dX6_leastMark_98 3 rfl rfl ?_
    refine x_icmp_ge (tgt := 142) (pc' := 102) K dX6_leastMark_99 rfl rfl (fun c99 => ?_) (fun c99 => ?_)
    · replace h := h.1 c99
      refine x_aload_n (pc' := 143) K dX6_leastMark_142 2 rfl rfl ?_
      refine x_aload_n (pc' := 144) K dX6_leastMark_143 0 rfl rfl ?_
      refine xw6_0g_trial (pc' := 147) K hinX6_leastMark_X6 uX6_leastMark_f44 dX6_leastMark_144 rfl ?_
      refine xw6_58g_purse (pc' := 150) K hinX6_leastMark_X5 uX6_leastMark_f195 dX6_leastMark_147 rfl ?_
      refine x_subI (pc' := 153) (wn := fun F' G' => w6 cI cO a (xspl (xspl F 48 2 F') 21 7 (xsub F' 2)) (xspl (xspl G 69 1 G') 42 14 (xsub G' 1))) K (mX2_startsWith l D cI cO (xcat 2 (xsub a 103) (xsub a 58))) rfl gX6_leastMark_X2_startsWith rfl dsX2_startsWith ⟨rfl, rfl, ⟨Nat.le_of_ble_eq_true rfl, Nat.le_of_ble_eq_true rfl⟩, Nat.le_of_ble_eq_true rfl, Nat.le_of_ble_eq_true rfl⟩ h 2 0 rfl rfl (xpl23 cI cO a _ _) (fun F' G' => xpr23 cI cO a _ _ F' G') (st := []) rfl rfl (Nat.le_of_ble_eq_true rfl) dX6_leastMark_150 rfl (fun r150 F150 G150 h => ?_)
      obtain ⟨E150, eE150⟩ : ∃ x : xF, x = (xspl (xspl F 48 2 F150) 21 7 (xsub F150 2)) := ⟨_, rfl⟩
      obtain ⟨H150, eH150⟩ : ∃ x : xA, x = (xspl (xspl G 69 1 G150) 42 14 (xsub G150 1)) := ⟨_, rfl⟩
      refine x_weq (w' := w6 cI cO a E150 H150) (by subst eE150; subst eH150; rfl) ?_
      replace h := h E150 eE150
      replace h := h H150 eH150
      refine x_if_eq (tgt := 159) (pc' := 156) K dX6_leastMark_153 rfl rfl (fun c153 => ?_) (fun c153 => ?_)
      · replace h := h.1 c153
        refine x_iinc (pc' := 162) (v := _ + (1 : Int32)) K dX6_leastMark_159 4 rfl rfl (by decide) [1, 2, 3, 4, 0, 5] (L' := [(0, .ref (a 0)), (1, .int _), (2, .ref (a 103)), (3, .int _), (4, .int _), (5, .int _)]) rfl rfl ?_
        refine x_goto (tgt := 54) K dX6_leastMark_162 rfl ?_
        refine x_locals [0, 1, 2, 3, 4] (L' := [(0, .ref (a 0)), (1, .int _), (2, .ref (a 103)), (3, .int _), (4, .int _)]) rfl ?_
        exact hk54 _ _ _ _ _ h
      · replace h := h.2 c153
        refine x_iload (pc' := 158) K dX6_leastMark_156 4 rfl rfl ?_
        exact x_iret (wf := w6 cI cO a) K h dX6_leastMark_158
    · replace h := h.2 c99
      refine x_aload_n (pc' := 103) K dX6_leastMark_102 0 rfl rfl ?_
      refine xw6_0g_trial (pc' := 106) K hinX6_leastMark_X6 uX6_leastMark_f44 dX6_leastMark_103 rfl ?_
      refine x_aload_n (pc' := 107) K dX6_leastMark_106 0 rfl rfl ?_
      refine xw6_0g_trial (pc' := 110) K hinX6_leastMark_X6 uX6_leastMark_f44 dX6_leastMark_107 rfl ?_
      refine x_subI (pc' := 113) (wn := fun F' G' => w6 cI cO a (xspl F 21 7 F') (xspl G 42 14 G')) K (mX5_whoHasIt l D cI cO (xsub a 58)) rfl gX6_leastMark_X5_whoHasIt rfl dsX5_whoHasIt ⟨rfl, rfl, ⟨Nat.le_of_ble_eq_true rfl, Nat.le_of_ble_eq_true rfl⟩, Nat.le_of_ble_eq_true rfl, Nat.le_of_ble_eq_true rfl⟩ h 5 0 rfl rfl (xpl18 cI cO a _ _) (fun F' G' => xpr18 cI cO a _ _ F' G') (st := [.ref (a 58)]) rfl rfl (Nat.le_of_ble_eq_true rfl) dX6_leastMark_110 rfl (fun r110 F110 G110 h => ?_)
      obtain ⟨E110, eE110⟩ : ∃ x : xF, x = (xspl F 21 7 F110) := ⟨_, rfl⟩
      obtain ⟨H110, eH110⟩ : ∃ x : xA, x = (xspl G 42 14 G110) := ⟨_, rfl⟩
      refine x_weq (w' := w6 cI cO a E110 H110) (by subst eE110; subst eH110; rfl) ?_
      replace h := h E110 eE110
      replace h := h H110 eH110
      refine x_aload_n (pc' := 114) K dX6_leastMark_113 0 rfl rfl ?_
      refine xw6_0g_finds (pc' := 117) K hinX6_leastMark_X6 uX6_leastMark_f51 dX6_leastMark_114 rfl ?_
      refine x_iload (pc' := 119) K dX6_leastMark_117 5 rfl rfl ?_
      obtain ⟨i119, h⟩ := h
      refine xw6_86l (pc' := 120) K i119 rfl dX6_leastMark_119 rfl ?_
      refine x_subV (pc' := 123) (wn := fun F' G' => w6 cI cO a (xspl E110 21 7 F') (xspl H110 42 14 G')) K (mX5_partOut l D cI cO (xsub a 58) _ _) rfl gX6_leastMark_X5_partOut rfl dsX5_partOut ⟨rfl, rfl, ⟨Nat.le_of_ble_eq_true rfl, Nat.le_of_ble_eq_true rfl⟩, Nat.le_of_ble_eq_true rfl, Nat.le_of_ble_eq_true rfl⟩ h 5 0 rfl rfl (xpl18 cI cO a _ _) (fun F' G' => xpr18 cI cO a _ _ F' G') (st := []) rfl rfl (Nat.le_of_ble_eq_true rfl) dX6_leastMark_120 rfl (fun F120 G120 h => ?_)
      obtain ⟨E120, eE120⟩ : ∃ x : xF, x = (xspl E110 21 7 F120) := ⟨_, rfl⟩
      obtain ⟨H120, eH120⟩ : ∃ x : xA, x = (xspl H110 42 14 G120) := ⟨_, rfl⟩
      refine x_weq (w' := w6 cI cO a E120 H120) (by subst eE120; subst eH120; rfl) ?_
      replace h := h E120 eE120
      replace h := h H120 eH120
      refine x_aload_n (pc' := 124) K dX6_leastMark_123 0 rfl rfl ?_
      refine xw6_0g_trial (pc' := 127) K hinX6_leastMark_X6 uX6_leastMark_f44 dX6_leastMark_124 rfl ?_
      refine x_dup (pc' := 128) K dX6_leastMark_127 rfl rfl ?_
      refine xw6_58g_day (pc' := 131) K hinX6_leastMark_X5 uX6_leastMark_f163 dX6_leastMark_128 rfl ?_
      refine x_iconst (pc' := 132) (v := 1) K dX6_leastMark_131 (by decide) rfl ?_
      refine x_iadd (pc' := 133) K dX6_leastMark_132 rfl ?_
      refine xw6_58p_day (pc' := 136) K hinX6_leastMark_X5 uX6_leastMark_f163 dX6_leastMark_133 rfl (fun F133 eF133 => ?_)
      replace h := h F133 eF133
      refine x_iinc (pc' := 139) (v := _ + (1 : Int32)) K dX6_leastMark_136 5 rfl rfl (by decide) [1, 2, 3, 4, 5, 0] (L' := [(0, .ref (a 0)), (1, .int _), (2, .ref (a 103)), (3, .int _), (4, .int _), (5, .int _)]) rfl rfl ?_
      refine x_goto (tgt := 96) K dX6_leastMark_139 rfl ?_
      exact ih _ _ _ _ _ _ h
set_option maxHeartbeats 4000000 in
set_option maxRecDepth 100000 in
theorem tX6_leastMark_3_54 (K : XK p m c cX6_leastMark 6 s args wsX6_leastMark RX6 D (xtys cI cO) A meth (some .int)) {Q : Int32 → xF → xA → Prop} : ∀ (n : Nat), ∀ (x1 : Int32) (x3 : Int32) (x4 : Int32) (F : xF) (G : xA), qX6_leastMark_3_54 Q n x1 x3 x4 F G → XJ p l e rmX6_leastMark_3 s m args below meth c 0 0 (MQ below (xQi D (w6 cI cO a) A Q) args s 0 0 A) D (xtys cI cO) A 6 (w6 cI cO a F G) 54 [(0, .ref (a 0)), (1, .int x1), (2, .ref (a 103)), (3, .int x3), (4, .int x4)] [] := by
  intro n
  induction n with
  | zero =>
    intro x1 x3 x4 F G h
    exact False.elim h
  | succ n ih =>
    intro x1 x3 x4 F G h
    refine x_iload (pc' := 56) K dX6_leastMark_54 4 rfl rfl ?_
    refine x_bipush (pc' := 58) (v := 9) K dX6_leastMark_56 (by decide) rfl ?_
    refine x_icmp_gt (tgt := 165) (pc' := 61) K dX6_leastMark_58 rfl rfl (fun c58 => ?_) (fun c58 => ?_)
    · replace h := h.1 c58
      refine x_iconst (pc' := 166) (v := -1) K dX6_leastMark_165 (by decide) rfl ?_
      exact x_iret (wf := w6 cI cO a) K h dX6_leastMark_166
    · replace h := h.2 c58
      refine x_aload_n (pc' := 62) K dX6_leastMark_61 0 rfl rfl ?_
      refine xw6_0g_trial (pc' := 65) K hinX6_leastMark_X6 uX6_leastMark_f44 dX6_leastMark_62 rfl ?_
      refine x_aload_n (pc' := 66) K dX6_leastMark_65 0 rfl rfl ?_
      refine xw6_0g_now (pc' := 69) K hinX6_leastMark_X6 uX6_leastMark_f10 dX6_leastMark_66 rfl ?_
      refine x_subV (pc' := 72) (wn := fun F' G' => w6 cI cO a (xspl (xspl F 21 7 F') 0 7 (xsub F' 7)) (xspl (xspl G 42 14 G') 0 14 (xsub G' 14))) K (mX5_takeFrom l D cI cO (xcat 19 (xsub a 58) (xsub a 1))) rfl gX6_leastMark_X5_takeFrom rfl dsX5_takeFrom ⟨rfl, rfl, ⟨Nat.le_of_ble_eq_true rfl, Nat.le_of_ble_eq_true rfl⟩, Nat.le_of_ble_eq_true rfl, Nat.le_of_ble_eq_true rfl⟩ h 5 0 rfl rfl (xpl19 cI cO a _ _) (fun F' G' => xpr19 cI cO a _ _ F' G') (st := []) rfl rfl (Nat.le_of_ble_eq_true rfl) dX6_leastMark_69 rfl (fun F69 G69 h => ?_)
      obtain ⟨E69, eE69⟩ : ∃ x : xF, x = (xspl (xspl F 21 7 F69) 0 7 (xsub F69 7)) := ⟨_, rfl⟩
      obtain ⟨H69, eH69⟩ : ∃ x : xA, x = (xspl (xspl G 42 14 G69) 0 14 (xsub G69 14)) := ⟨_, rfl⟩
      refine x_weq (w' := w6 cI cO a E69 H69) (by subst eE69; subst eH69; rfl) ?_
      replace h := h E69 eE69
      replace h := h H69 eH69
      refine x_aload_n (pc' := 73) K dX6_leastMark_72 0 rfl rfl ?_
      refine xw6_0g_trial (pc' := 76) K hinX6_leastMark_X6 uX6_leastMark_f44 dX6_leastMark_73 rfl ?_
      refine xw6_58g_kind (pc' := 79) K hinX6_leastMark_X5 uX6_leastMark_f105 dX6_leastMark_76 rfl ?_
      refine x_iload_n (pc' := 80) K dX6_leastMark_79 1 rfl rfl ?_
      refine x_iconst (pc' := 81) (v := 3) K dX6_leastMark_80 (by decide) rfl ?_
      obtain ⟨i81, h⟩ := h
      refine xw6_61s (pc' := 82) K i81 rfl dX6_leastMark_81 rfl (fun G81 eG81 => ?_)
      replace h := h G81 eG81
      refine x_aload_n (pc' := 83) K dX6_leastMark_82 0 rfl rfl ?_
      refine xw6_0g_trial (pc' := 86) K hinX6_leastMark_X6 uX6_leastMark_f44 dX6_leastMark_83 rfl ?_
      refine xw6_58g_mark (pc' := 89) K hinX6_leastMark_X5 uX6_leastMark_f108 dX6_leastMark_86 rfl ?_
      refine x_iload_n (pc' := 90) K dX6_leastMark_89 1 rfl rfl ?_
      refine x_iload (pc' := 92) K dX6_leastMark_90 4 rfl rfl ?_
      obtain ⟨i92, h⟩ := h
      refine xw6_62s (pc' := 93) K i92 rfl dX6_leastMark_92 rfl (fun G92 eG92 => ?_)
      replace h := h G92 eG92
      refine x_iconst (pc' := 94) (v := 0) K dX6_leastMark_93 (by decide) rfl ?_
      refine x_istore (pc' := 96) (i := 5) K dX6_leastMark_94 (by decide) [1, 2, 3, 4, 5, 0] (L' := [(0, .ref (a 0)), (1, .int _), (2, .ref (a 103)), (3, .int _), (4, .int _), (5, .int _)]) rfl rfl ?_
      obtain ⟨n96, h⟩ := h
      exact tX6_leastMark_3_96 K (fun x1 x3 x4 F G h => ih x1 x3 x4 F G h) n96 _ _ _ _ _ _ h
set_option maxHeartbeats 4000000 in
set_option maxRecDepth 100000 in
theorem tX6_leastMark_3_24 (K : XK p m c cX6_leastMark 6 s args wsX6_leastMark RX6 D (xtys cI cO) A meth (some .int)) {Q : Int32 → xF → xA → Prop} : ∀ (n : Nat), ∀ (x1 : Int32) (x3 : Int32) (x4 : Int32) (F : xF) (G : xA), qX6_leastMark_3_24 Q n x1 x3 x4 F G → XJ p l e rmX6_leastMark_3 s m args below meth c 0 0 (MQ below (xQi D (w6 cI cO a) A Q) args s 0 0 A) D (xtys cI cO) A 6 (w6 cI cO a F G) 24 [(0, .ref (a 0)), (1, .int x1), (2, .ref (a 103)), (3, .int x3), (4, .int x4)] [] := by
  intro n
  induction n with
  | zero =>
    intro x1 x3 x4 F G h
    exact False.elim h
  | succ n ih =>
    intro x1 x3 x4 F G h
    refine x_iload (pc' := 26) K dX6_leastMark_24 4 rfl rfl ?_
    refine x_iload_n (pc' := 27) K dX6_leastMark_26 3 rfl rfl ?_
    refine x_icmp_ge (tgt := 51) (pc' := 30) K dX6_leastMark_27 rfl rfl (fun c27 => ?_) (fun c27 => ?_)
    · replace h := h.1 c27
      refine x_iconst (pc' := 52) (v := 0) K dX6_leastMark_51 (by decide) rfl ?_
      refine x_istore (pc' := 54) (i := 4) K dX6_leastMark_52 (by decide) [1, 2, 3, 4, 0] (L' := [(0, .ref (a 0)), (1, .int _), (2, .ref (a 103)), (3, .int _), (4, .int _)]) rfl rfl ?_
      obtain ⟨n54, h⟩ := h
      exact tX6_leastMark_3_54 K n54 _ _ _ _ _ h
    · replace h := h.2 c27
      refine x_aload_n (pc' := 31) K dX6_leastMark_30 0 rfl rfl ?_
      refine xw6_0g_finds (pc' := 34) K hinX6_leastMark_X6 uX6_leastMark_f51 dX6_leastMark_31 rfl ?_
      refine x_iload (pc' := 36) K dX6_leastMark_34 4 rfl rfl ?_
      refine x_aload_n (pc' := 37) K dX6_leastMark_36 0 rfl rfl ?_
      refine xw6_0g_side (pc' := 40) K hinX6_leastMark_X6 uX6_leastMark_f41 dX6_leastMark_37 rfl ?_
      refine x_iconst (pc' := 41) (v := -1) K dX6_leastMark_40 (by decide) rfl ?_
      refine x_subI (pc' := 44) (wn := fun F' G' => w6 cI cO a (xspl F 14 7 F') (xspl G 28 14 G')) K (mX5_oneDay l D cI cO (xsub a 39) _) rfl gX6_leastMark_X5_oneDay rfl dsX5_oneDay ⟨rfl, rfl, ⟨Nat.le_of_ble_eq_true rfl, Nat.le_of_ble_eq_true rfl⟩, Nat.le_of_ble_eq_true rfl, Nat.le_of_ble_eq_true rfl⟩ h 5 0 rfl rfl (xpl16 cI cO a _ _) (fun F' G' => xpr16 cI cO a _ _ F' G') (st := [.int _, .ref (a 86)]) rfl rfl (Nat.le_of_ble_eq_true rfl) dX6_leastMark_41 rfl (fun r41 F41 G41 h => ?_)
      obtain ⟨E41, eE41⟩ : ∃ x : xF, x = (xspl F 14 7 F41) := ⟨_, rfl⟩
      obtain ⟨H41, eH41⟩ : ∃ x : xA, x = (xspl G 28 14 G41) := ⟨_, rfl⟩
      refine x_weq (w' := w6 cI cO a E41 H41) (by subst eE41; subst eH41; rfl) ?_
      replace h := h E41 eE41
      replace h := h H41 eH41
      obtain ⟨i44, h⟩ := h
      refine xw6_86s (pc' := 45) K i44 rfl dX6_leastMark_44 rfl (fun G44 eG44 => ?_)
      replace h := h G44 eG44
      refine x_iinc (pc' := 48) (v := _ + (1 : Int32)) K dX6_leastMark_45 4 rfl rfl (by decide) [1, 2, 3, 4, 0] (L' := [(0, .ref (a 0)), (1, .int _), (2, .ref (a 103)), (3, .int _), (4, .int _)]) rfl rfl ?_
      refine x_goto (tgt := 24) K dX6_leastMark_48 rfl ?_
      exact ih _ _ _ _ _ h
set_option maxHeartbeats 4000000 in
set_option maxRecDepth 100000 in
theorem mX6_leastMark_3 (l : Launch) (D : va_G) (cI cO : ClassId) (a : Nat → Nat)  (x1 : Int32) (x3 : Int32) : MI l yX6_leastMark wsX6_leastMark rmX6_leastMark_3 D (xtys cI cO) [.ref (a 0), .int x1, .ref (a 103), .int x3] (w6 cI cO a) (qX6_leastMark_3 x1 x3) := by
  refine MI_of (cc := cX6_leastMark) (maxL := 6) (own := RX6) (by decide) rfl rfl (Nat.le_of_ble_eq_true rfl) ?_
  intro p e s m args below meth c A F G Q h K
  refine x_locals [0, 1, 2, 3] (L' := [(0, .ref (a 0)), (1, .int _), (2, .ref (a 103)), (3, .int _)]) rfl ?_
  refine x_aload_n (pc' := 1) K dX6_leastMark_0 0 rfl rfl ?_
  refine xw6_0g_side (pc' := 4) K hinX6_leastMark_X6 uX6_leastMark_f41 dX6_leastMark_1 rfl ?_
  refine x_aload_n (pc' := 5) K dX6_leastMark_4 0 rfl rfl ?_
  refine xw6_0g_now (pc' := 8) K hinX6_leastMark_X6 uX6_leastMark_f10 dX6_leastMark_5 rfl ?_
  refine x_subV (pc' := 11) (wn := fun F' G' => w6 cI cO a (xspl (xspl F 14 7 F') 0 7 (xsub F' 7)) (xspl (xspl G 28 14 G') 0 14 (xsub G' 14))) K (mX5_takeFrom l D cI cO (xcat 19 (xsub a 39) (xsub a 1))) rfl gX6_leastMark_X5_takeFrom rfl dsX5_takeFrom ⟨rfl, rfl, ⟨Nat.le_of_ble_eq_true rfl, Nat.le_of_ble_eq_true rfl⟩, Nat.le_of_ble_eq_true rfl, Nat.le_of_ble_eq_true rfl⟩ h 5 0 rfl rfl (xpl15 cI cO a _ _) (fun F' G' => xpr15 cI cO a _ _ F' G') (st := []) rfl rfl (Nat.le_of_ble_eq_true rfl) dX6_leastMark_8 rfl (fun F8 G8 h => ?_)
  obtain ⟨E8, eE8⟩ : ∃ x : xF, x = (xspl (xspl F 14 7 F8) 0 7 (xsub F8 7)) := ⟨_, rfl⟩
  obtain ⟨H8, eH8⟩ : ∃ x : xA, x = (xspl (xspl G 28 14 G8) 0 14 (xsub G8 14)) := ⟨_, rfl⟩
  refine x_weq (w' := w6 cI cO a E8 H8) (by subst eE8; subst eH8; rfl) ?_
  replace h := h E8 eE8
  replace h := h H8 eH8
  refine x_aload_n (pc' := 12) K dX6_leastMark_11 0 rfl rfl ?_
  refine xw6_0g_side (pc' := 15) K hinX6_leastMark_X6 uX6_leastMark_f41 dX6_leastMark_12 rfl ?_
  refine xw6_39g_kind (pc' := 18) K hinX6_leastMark_X5 uX6_leastMark_f105 dX6_leastMark_15 rfl ?_
  refine x_iload_n (pc' := 19) K dX6_leastMark_18 1 rfl rfl ?_
  refine x_iconst (pc' := 20) (v := 3) K dX6_leastMark_19 (by decide) rfl ?_
  obtain ⟨i20, h⟩ := h
  refine xw6_42s (pc' := 21) K i20 rfl dX6_leastMark_20 rfl (fun G20 eG20 => ?_)
  replace h := h G20 eG20
  refine x_iconst (pc' := 22) (v := 0) K dX6_leastMark_21 (by decide) rfl ?_
  refine x_istore (pc' := 24) (i := 4) K dX6_leastMark_22 (by decide) [1, 2, 3, 4, 0] (L' := [(0, .ref (a 0)), (1, .int _), (2, .ref (a 103)), (3, .int _), (4, .int _)]) rfl rfl ?_
  obtain ⟨n24, h⟩ := h
  exact tX6_leastMark_3_24 K n24 _ _ _ _ _ h
/-! X6_oak -/
abbrev rmX6_oak : Room := { frames := 4, cells := 0, slots := 0, locals := 102 }
theorem dsX6_oak : xDesc yX6_oak 3 := by decide +kernel
theorem uX6_oak_f10 : Cond.fieldLink RX6 10 "PigNinths" "now" "LPigNinths$World;" ∈ wsX6_oak := nw_in nwl_X6_oak nwe_329 (by decide +kernel)
theorem hinX6_oak_X6 : ∀ w ∈ wsX60, w ∈ wsX6_oak := nw_all nwl_X6_oak nwl_X60 (by decide +kernel)
theorem uX6_oak_f96 : Cond.fieldLink RX6 96 "PigNinths$World" "under" "[I" ∈ wsX6_oak := nw_in nwl_X6_oak nwe_369 (by decide +kernel)
theorem hinX6_oak_X5 : ∀ w ∈ wsX50, w ∈ wsX6_oak := nw_all nwl_X6_oak nwl_X50 (by decide +kernel)
theorem uX6_oak_f93 : Cond.fieldLink RX6 93 "PigNinths$World" "owner" "[I" ∈ wsX6_oak := nw_in nwl_X6_oak nwe_368 (by decide +kernel)
set_option maxHeartbeats 4000000 in
set_option maxRecDepth 100000 in
theorem mX6_oak (l : Launch) (D : va_G) (cI cO : ClassId) (a : Nat → Nat)  (x1 : Int32) (x2 : Int32) (x3 : Int32) : MI l yX6_oak wsX6_oak rmX6_oak D (xtys cI cO) [.ref (a 0), .int x1, .int x2, .int x3] (w6 cI cO a) (qX6_oak x1 x2 x3) := by
  refine MI_of (cc := cX6_oak) (maxL := 5) (own := RX6) (by decide) rfl rfl (Nat.le_of_ble_eq_true rfl) ?_
  intro p e s m args below meth c A F G Q h K
  refine x_locals [0, 1, 2, 3] (L' := [(0, .ref (a 0)), (1, .int _), (2, .int _), (3, .int _)]) rfl ?_
  refine x_iload_n (pc' := 1) K dX6_oak_0 1 rfl rfl ?_
  refine x_callS (pc' := 4) K (mX6_isOak l D cI cO a _) rfl gX6_oak_X6_isOak dsX6_isOak ⟨rfl, rfl, ⟨Nat.le_of_ble_eq_true rfl, Nat.le_of_ble_eq_true rfl⟩, Nat.le_of_ble_eq_true rfl, Nat.le_of_ble_eq_true rfl⟩ h (st := []) rfl rfl (Nat.le_of_ble_eq_true rfl) dX6_oak_1 rfl (fun r1 h => ?_)
  refine x_if_eq (tgt := 16) (pc' := 7) K dX6_oak_4 rfl rfl (fun c4 => ?_) (fun c4 => ?_)
  · replace h := h.1 c4
    refine x_aload_n (pc' := 17) K dX6_oak_16 0 rfl rfl ?_
    refine x_iconst (pc' := 18) (v := 1) K dX6_oak_17 (by decide) rfl ?_
    refine x_callI (pc' := 21) K (mX6_error l D cI cO a _) rfl gX6_oak_X6_error rfl dsX6_error ⟨rfl, rfl, ⟨Nat.le_of_ble_eq_true rfl, Nat.le_of_ble_eq_true rfl⟩, Nat.le_of_ble_eq_true rfl, Nat.le_of_ble_eq_true rfl⟩ h 6 0 rfl rfl (st := []) rfl rfl (Nat.le_of_ble_eq_true rfl) dX6_oak_18 rfl (fun r18 F18 G18 h => ?_)
    exact x_iret (wf := w6 cI cO a) K h dX6_oak_21
  · replace h := h.2 c4
    refine x_iload_n (pc' := 8) K dX6_oak_7 2 rfl rfl ?_
    refine x_iconst (pc' := 9) (v := 0) K dX6_oak_8 (by decide) rfl ?_
    refine x_iconst (pc' := 10) (v := 1) K dX6_oak_9 (by decide) rfl ?_
    refine x_callS (pc' := 13) K (mX6_within l D cI cO a _ _ _) rfl gX6_oak_X6_within dsX6_within ⟨rfl, rfl, ⟨Nat.le_of_ble_eq_true rfl, Nat.le_of_ble_eq_true rfl⟩, Nat.le_of_ble_eq_true rfl, Nat.le_of_ble_eq_true rfl⟩ h (st := []) rfl rfl (Nat.le_of_ble_eq_true rfl) dX6_oak_10 rfl (fun r10 h => ?_)
    refine x_if_ne (tgt := 22) (pc' := 16) K dX6_oak_13 rfl rfl (fun c13 => ?_) (fun c13 => ?_)
    · replace h := h.1 c13
      refine x_iload_n (pc' := 23) K dX6_oak_22 2 rfl rfl ?_
      refine x_if_ne (tgt := 63) (pc' := 26) K dX6_oak_23 rfl rfl (fun c23 => ?_) (fun c23 => ?_)
      · replace h := h.1 c23
        refine x_iload_n (pc' := 64) K dX6_oak_63 3 rfl rfl ?_
        refine x_iconst (pc' := 65) (v := 0) K dX6_oak_64 (by decide) rfl ?_
        refine x_sipush (pc' := 68) (v := 999) K dX6_oak_65 (by decide) rfl ?_
        refine x_callS (pc' := 71) K (mX6_within l D cI cO a _ _ _) rfl gX6_oak_X6_within dsX6_within ⟨rfl, rfl, ⟨Nat.le_of_ble_eq_true rfl, Nat.le_of_ble_eq_true rfl⟩, Nat.le_of_ble_eq_true rfl, Nat.le_of_ble_eq_true rfl⟩ h (st := []) rfl rfl (Nat.le_of_ble_eq_true rfl) dX6_oak_68 rfl (fun r68 h => ?_)
        refine x_if_ne (tgt := 80) (pc' := 74) K dX6_oak_71 rfl rfl (fun c71 => ?_) (fun c71 => ?_)
        · replace h := h.1 c71
          refine x_aload_n (pc' := 81) K dX6_oak_80 0 rfl rfl ?_
          refine xw6_0g_now (pc' := 84) K hinX6_oak_X6 uX6_oak_f10 dX6_oak_81 rfl ?_
          refine xw6_1g_under (pc' := 87) K hinX6_oak_X5 uX6_oak_f96 dX6_oak_84 rfl ?_
          refine x_iload_n (pc' := 88) K dX6_oak_87 1 rfl rfl ?_
          obtain ⟨i88, h⟩ := h
          refine xw6_3l (pc' := 89) K i88 rfl dX6_oak_88 rfl ?_
          refine x_istore (pc' := 91) (i := 4) K dX6_oak_89 (by decide) [1, 2, 3, 4, 0] (L' := [(0, .ref (a 0)), (1, .int _), (2, .int _), (3, .int _), (4, .int _)]) rfl rfl ?_
          refine x_aload_n (pc' := 92) K dX6_oak_91 0 rfl rfl ?_
          refine xw6_0g_now (pc' := 95) K hinX6_oak_X6 uX6_oak_f10 dX6_oak_92 rfl ?_
          refine xw6_1g_under (pc' := 98) K hinX6_oak_X5 uX6_oak_f96 dX6_oak_95 rfl ?_
          refine x_iload_n (pc' := 99) K dX6_oak_98 1 rfl rfl ?_
          refine x_iload_n (pc' := 100) K dX6_oak_99 3 rfl rfl ?_
          obtain ⟨i100, h⟩ := h
          refine xw6_3s (pc' := 101) K i100 rfl dX6_oak_100 rfl (fun G100 eG100 => ?_)
          replace h := h G100 eG100
          refine x_iload (pc' := 103) K dX6_oak_101 4 rfl rfl ?_
          exact x_iret (wf := w6 cI cO a) K h dX6_oak_103
        · replace h := h.2 c71
          refine x_aload_n (pc' := 75) K dX6_oak_74 0 rfl rfl ?_
          refine x_iconst (pc' := 76) (v := 1) K dX6_oak_75 (by decide) rfl ?_
          refine x_callI (pc' := 79) K (mX6_error l D cI cO a _) rfl gX6_oak_X6_error rfl dsX6_error ⟨rfl, rfl, ⟨Nat.le_of_ble_eq_true rfl, Nat.le_of_ble_eq_true rfl⟩, Nat.le_of_ble_eq_true rfl, Nat.le_of_ble_eq_true rfl⟩ h 6 0 rfl rfl (st := []) rfl rfl (Nat.le_of_ble_eq_true rfl) dX6_oak_76 rfl (fun r76 F76 G76 h => ?_)
          exact x_iret (wf := w6 cI cO a) K h dX6_oak_79
      · replace h := h.2 c23
        refine x_iload_n (pc' := 27) K dX6_oak_26 3 rfl rfl ?_
        refine x_callS (pc' := 30) K (mX6_isFarmer l D cI cO a _) rfl gX6_oak_X6_isFarmer dsX6_isFarmer ⟨rfl, rfl, ⟨Nat.le_of_ble_eq_true rfl, Nat.le_of_ble_eq_true rfl⟩, Nat.le_of_ble_eq_true rfl, Nat.le_of_ble_eq_true rfl⟩ h (st := []) rfl rfl (Nat.le_of_ble_eq_true rfl) dX6_oak_27 rfl (fun r27 h => ?_)
        refine x_if_ne (tgt := 39) (pc' := 33) K dX6_oak_30 rfl rfl (fun c30 => ?_) (fun c30 => ?_)
        · replace h := h.1 c30
          refine x_aload_n (pc' := 40) K dX6_oak_39 0 rfl rfl ?_
          refine xw6_0g_now (pc' := 43) K hinX6_oak_X6 uX6_oak_f10 dX6_oak_40 rfl ?_
          refine xw6_1g_owner (pc' := 46) K hinX6_oak_X5 uX6_oak_f93 dX6_oak_43 rfl ?_
          refine x_iload_n (pc' := 47) K dX6_oak_46 1 rfl rfl ?_
          obtain ⟨i47, h⟩ := h
          refine xw6_2l (pc' := 48) K i47 rfl dX6_oak_47 rfl ?_
          refine x_istore (pc' := 50) (i := 4) K dX6_oak_48 (by decide) [1, 2, 3, 4, 0] (L' := [(0, .ref (a 0)), (1, .int _), (2, .int _), (3, .int _), (4, .int _)]) rfl rfl ?_
          refine x_aload_n (pc' := 51) K dX6_oak_50 0 rfl rfl ?_
          refine xw6_0g_now (pc' := 54) K hinX6_oak_X6 uX6_oak_f10 dX6_oak_51 rfl ?_
          refine xw6_1g_owner (pc' := 57) K hinX6_oak_X5 uX6_oak_f93 dX6_oak_54 rfl ?_
          refine x_iload_n (pc' := 58) K dX6_oak_57 1 rfl rfl ?_
          refine x_iload_n (pc' := 59) K dX6_oak_58 3 rfl rfl ?_
          obtain ⟨i59, h⟩ := h
          refine xw6_2s (pc' := 60) K i59 rfl dX6_oak_59 rfl (fun G59 eG59 => ?_)
          replace h := h G59 eG59
          refine x_iload (pc' := 62) K dX6_oak_60 4 rfl rfl ?_
          exact x_iret (wf := w6 cI cO a) K h dX6_oak_62
        · replace h := h.2 c30
          refine x_aload_n (pc' := 34) K dX6_oak_33 0 rfl rfl ?_
          refine x_iconst (pc' := 35) (v := 1) K dX6_oak_34 (by decide) rfl ?_
          refine x_callI (pc' := 38) K (mX6_error l D cI cO a _) rfl gX6_oak_X6_error rfl dsX6_error ⟨rfl, rfl, ⟨Nat.le_of_ble_eq_true rfl, Nat.le_of_ble_eq_true rfl⟩, Nat.le_of_ble_eq_true rfl, Nat.le_of_ble_eq_true rfl⟩ h 6 0 rfl rfl (st := []) rfl rfl (Nat.le_of_ble_eq_true rfl) dX6_oak_35 rfl (fun r35 F35 G35 h => ?_)
          exact x_iret (wf := w6 cI cO a) K h dX6_oak_38
    · replace h := h.2 c13
      refine x_aload_n (pc' := 17) K dX6_oak_16 0 rfl rfl ?_
      refine x_iconst (pc' := 18) (v := 1) K dX6_oak_17 (by decide) rfl ?_
      refine x_callI (pc' := 21) K (mX6_error l D cI cO a _) rfl gX6_oak_X6_error rfl dsX6_error ⟨rfl, rfl, ⟨Nat.le_of_ble_eq_true rfl, Nat.le_of_ble_eq_true rfl⟩, Nat.le_of_ble_eq_true rfl, Nat.le_of_ble_eq_true rfl⟩ h 6 0 rfl rfl (st := []) rfl rfl (Nat.le_of_ble_eq_true rfl) dX6_oak_18 rfl (fun r18 F18 G18 h => ?_)
      exact x_iret (wf := w6 cI cO a) K h dX6_oak_21
/-! X6_oakIs -/
set_option maxHeartbeats 4000000 in
set_option maxRecDepth 100000 in
theorem xpl24 (cI : ClassId) (cO : ClassId) (a : Nat → Nat) (F : xF) (G : xA) : (w6 cI cO a F G).Perm (List.flatMap (bw6 cI cO a F G) [0, 9, 10, 11, 12, 13, 14, 15, 16, 17, 18, 19, 20, 21, 22, 23, 24, 25, 26, 27, 28, 29, 30, 31, 32, 33, 34, 35, 36, 37, 38, 39, 40, 41, 42, 43, 44, 45, 46, 47, 48, 49, 50, 51, 52, 53] ++ w5 cI (xsub a 1) (xsub F 0) (xsub G 0)) := xpermF (bf := bw6 cI cO a F G) (ns := [0, 1, 2, 3, 4, 5, 6, 7, 8, 9, 10, 11, 12, 13, 14, 15, 16, 17, 18, 19, 20, 21, 22, 23, 24, 25, 26, 27, 28, 29, 30, 31, 32, 33, 34, 35, 36, 37, 38, 39, 40, 41, 42, 43, 44, 45, 46, 47, 48, 49, 50, 51, 52, 53]) rfl [0, 9, 10, 11, 12, 13, 14, 15, 16, 17, 18, 19, 20, 21, 22, 23, 24, 25, 26, 27, 28, 29, 30, 31, 32, 33, 34, 35, 36, 37, 38, 39, 40, 41, 42, 43, 44, 45, 46, 47, 48, 49, 50, 51, 52, 53] [1, 2, 3, 4, 5, 6, 7, 8] (by decide +kernel) rfl rfl
set_option maxHeartbeats 4000000 in
set_option maxRecDepth 100000 in
theorem xpr24 (cI : ClassId) (cO : ClassId) (a : Nat → Nat) (F : xF) (G : xA) (F' : xF) (G' : xA) : (w6 cI cO a (xspl F 0 7 F') (xspl G 0 14 G')).Perm (List.flatMap (bw6 cI cO a F G) [0, 9, 10, 11, 12, 13, 14, 15, 16, 17, 18, 19, 20, 21, 22, 23, 24, 25, 26, 27, 28, 29, 30, 31, 32, 33, 34, 35, 36, 37, 38, 39, 40, 41, 42, 43, 44, 45, 46, 47, 48, 49, 50, 51, 52, 53] ++ w5 cI (xsub a 1) F' G') := xpermF (bf := bw6 cI cO a (xspl F 0 7 F') (xspl G 0 14 G')) (ns := [0, 1, 2, 3, 4, 5, 6, 7, 8, 9, 10, 11, 12, 13, 14, 15, 16, 17, 18, 19, 20, 21, 22, 23, 24, 25, 26, 27, 28, 29, 30, 31, 32, 33, 34, 35, 36, 37, 38, 39, 40, 41, 42, 43, 44, 45, 46, 47, 48, 49, 50, 51, 52, 53]) rfl [0, 9, 10, 11, 12, 13, 14, 15, 16, 17, 18, 19, 20, 21, 22, 23, 24, 25, 26, 27, 28, 29, 30, 31, 32, 33, 34, 35, 36, 37, 38, 39, 40, 41, 42, 43, 44, 45, 46, 47, 48, 49, 50, 51, 52, 53] [1, 2, 3, 4, 5, 6, 7, 8] (by decide +kernel) rfl rfl
abbrev rmX6_oakIs : Room := { frames := 5, cells := 0, slots := 0, locals := 130 }
theorem dsX6_oakIs : xDesc yX6_oakIs 2 := by decide +kernel
theorem uX6_oakIs_f10 : Cond.fieldLink RX6 10 "PigNinths" "now" "LPigNinths$World;" ∈ wsX6_oakIs := nw_in nwl_X6_oakIs nwe_329 (by decide +kernel)
theorem hinX6_oakIs_X6 : ∀ w ∈ wsX60, w ∈ wsX6_oakIs := nw_all nwl_X6_oakIs nwl_X60 (by decide +kernel)
theorem uX6_oakIs_f96 : Cond.fieldLink RX6 96 "PigNinths$World" "under" "[I" ∈ wsX6_oakIs := nw_in nwl_X6_oakIs nwe_369 (by decide +kernel)
theorem hinX6_oakIs_X5 : ∀ w ∈ wsX50, w ∈ wsX6_oakIs := nw_all nwl_X6_oakIs nwl_X50 (by decide +kernel)
theorem uX6_oakIs_f93 : Cond.fieldLink RX6 93 "PigNinths$World" "owner" "[I" ∈ wsX6_oakIs := nw_in nwl_X6_oakIs nwe_368 (by decide +kernel)
set_option maxHeartbeats 4000000 in
set_option maxRecDepth 100000 in
theorem mX6_oakIs (l : Launch) (D : va_G) (cI cO : ClassId) (a : Nat → Nat)  (x1 : Int32) (x2 : Int32) : MI l yX6_oakIs wsX6_oakIs rmX6_oakIs D (xtys cI cO) [.ref (a 0), .int x1, .int x2] (w6 cI cO a) (qX6_oakIs x1 x2) := by
  refine MI_of (cc := cX6_oakIs) (maxL := 3) (own := RX6) (by decide) rfl rfl (Nat.le_of_ble_eq_true rfl) ?_
  intro p e s m args below meth c A F G Q h K
  refine x_locals [0, 1, 2] (L' := [(0, .ref (a 0)), (1, .int _), (2, .int _)]) rfl ?_
  refine x_iload_n (pc' := 1) K dX6_oakIs_0 1 rfl rfl ?_
  refine x_callS (pc' := 4) K (mX6_isOak l D cI cO a _) rfl gX6_oakIs_X6_isOak dsX6_isOak ⟨rfl, rfl, ⟨Nat.le_of_ble_eq_true rfl, Nat.le_of_ble_eq_true rfl⟩, Nat.le_of_ble_eq_true rfl, Nat.le_of_ble_eq_true rfl⟩ h (st := []) rfl rfl (Nat.le_of_ble_eq_true rfl) dX6_oakIs_1 rfl (fun r1 h => ?_)
  refine x_if_eq (tgt := 16) (pc' := 7) K dX6_oakIs_4 rfl rfl (fun c4 => ?_) (fun c4 => ?_)
  · replace h := h.1 c4
    refine x_aload_n (pc' := 17) K dX6_oakIs_16 0 rfl rfl ?_
    refine x_iconst (pc' := 18) (v := 1) K dX6_oakIs_17 (by decide) rfl ?_
    refine x_callI (pc' := 21) K (mX6_error l D cI cO a _) rfl gX6_oakIs_X6_error rfl dsX6_error ⟨rfl, rfl, ⟨Nat.le_of_ble_eq_true rfl, Nat.le_of_ble_eq_true rfl⟩, Nat.le_of_ble_eq_true rfl, Nat.le_of_ble_eq_true rfl⟩ h 6 0 rfl rfl (st := []) rfl rfl (Nat.le_of_ble_eq_true rfl) dX6_oakIs_18 rfl (fun r18 F18 G18 h => ?_)
    exact x_iret (wf := w6 cI cO a) K h dX6_oakIs_21
  · replace h := h.2 c4
    refine x_iload_n (pc' := 8) K dX6_oakIs_7 2 rfl rfl ?_
    refine x_iconst (pc' := 9) (v := 0) K dX6_oakIs_8 (by decide) rfl ?_
    refine x_iconst (pc' := 10) (v := 2) K dX6_oakIs_9 (by decide) rfl ?_
    refine x_callS (pc' := 13) K (mX6_within l D cI cO a _ _ _) rfl gX6_oakIs_X6_within dsX6_within ⟨rfl, rfl, ⟨Nat.le_of_ble_eq_true rfl, Nat.le_of_ble_eq_true rfl⟩, Nat.le_of_ble_eq_true rfl, Nat.le_of_ble_eq_true rfl⟩ h (st := []) rfl rfl (Nat.le_of_ble_eq_true rfl) dX6_oakIs_10 rfl (fun r10 h => ?_)
    refine x_if_ne (tgt := 22) (pc' := 16) K dX6_oakIs_13 rfl rfl (fun c13 => ?_) (fun c13 => ?_)
    · replace h := h.1 c13
      refine x_iload_n (pc' := 23) K dX6_oakIs_22 2 rfl rfl ?_
      refine x_if_ne (tgt := 36) (pc' := 26) K dX6_oakIs_23 rfl rfl (fun c23 => ?_) (fun c23 => ?_)
      · replace h := h.1 c23
        refine x_iload_n (pc' := 37) K dX6_oakIs_36 2 rfl rfl ?_
        refine x_iconst (pc' := 38) (v := 1) K dX6_oakIs_37 (by decide) rfl ?_
        refine x_icmp_ne (tgt := 53) (pc' := 41) K dX6_oakIs_38 rfl rfl (fun c38 => ?_) (fun c38 => ?_)
        · replace h := h.1 c38
          refine x_aload_n (pc' := 54) K dX6_oakIs_53 0 rfl rfl ?_
          refine xw6_0g_now (pc' := 57) K hinX6_oakIs_X6 uX6_oakIs_f10 dX6_oakIs_54 rfl ?_
          refine x_iload_n (pc' := 58) K dX6_oakIs_57 1 rfl rfl ?_
          refine x_subI (pc' := 61) (wn := fun F' G' => w6 cI cO a (xspl F 0 7 F') (xspl G 0 14 G')) K (mX5_smellOf l D cI cO (xsub a 1) _) rfl gX6_oakIs_X5_smellOf rfl dsX5_smellOf ⟨rfl, rfl, ⟨Nat.le_of_ble_eq_true rfl, Nat.le_of_ble_eq_true rfl⟩, Nat.le_of_ble_eq_true rfl, Nat.le_of_ble_eq_true rfl⟩ h 5 0 rfl rfl (xpl24 cI cO a _ _) (fun F' G' => xpr24 cI cO a _ _ F' G') (st := []) rfl rfl (Nat.le_of_ble_eq_true rfl) dX6_oakIs_58 rfl (fun r58 F58 G58 h => ?_)
          obtain ⟨E58, eE58⟩ : ∃ x : xF, x = (xspl F 0 7 F58) := ⟨_, rfl⟩
          obtain ⟨H58, eH58⟩ : ∃ x : xA, x = (xspl G 0 14 G58) := ⟨_, rfl⟩
          refine x_weq (w' := w6 cI cO a E58 H58) (by subst eE58; subst eH58; rfl) ?_
          replace h := h E58 eE58
          replace h := h H58 eH58
          exact x_iret (wf := w6 cI cO a) K h dX6_oakIs_61
        · replace h := h.2 c38
          refine x_aload_n (pc' := 42) K dX6_oakIs_41 0 rfl rfl ?_
          refine xw6_0g_now (pc' := 45) K hinX6_oakIs_X6 uX6_oakIs_f10 dX6_oakIs_42 rfl ?_
          refine xw6_1g_under (pc' := 48) K hinX6_oakIs_X5 uX6_oakIs_f96 dX6_oakIs_45 rfl ?_
          refine x_iload_n (pc' := 49) K dX6_oakIs_48 1 rfl rfl ?_
          obtain ⟨i49, h⟩ := h
          refine xw6_3l (pc' := 50) K i49 rfl dX6_oakIs_49 rfl ?_
          refine x_goto (tgt := 61) K dX6_oakIs_50 rfl ?_
          exact x_iret (wf := w6 cI cO a) K h dX6_oakIs_61
      · replace h := h.2 c23
        refine x_aload_n (pc' := 27) K dX6_oakIs_26 0 rfl rfl ?_
        refine xw6_0g_now (pc' := 30) K hinX6_oakIs_X6 uX6_oakIs_f10 dX6_oakIs_27 rfl ?_
        refine xw6_1g_owner (pc' := 33) K hinX6_oakIs_X5 uX6_oakIs_f93 dX6_oakIs_30 rfl ?_
        refine x_iload_n (pc' := 34) K dX6_oakIs_33 1 rfl rfl ?_
        obtain ⟨i34, h⟩ := h
        refine xw6_2l (pc' := 35) K i34 rfl dX6_oakIs_34 rfl ?_
        exact x_iret (wf := w6 cI cO a) K h dX6_oakIs_35
    · replace h := h.2 c13
      refine x_aload_n (pc' := 17) K dX6_oakIs_16 0 rfl rfl ?_
      refine x_iconst (pc' := 18) (v := 1) K dX6_oakIs_17 (by decide) rfl ?_
      refine x_callI (pc' := 21) K (mX6_error l D cI cO a _) rfl gX6_oakIs_X6_error rfl dsX6_error ⟨rfl, rfl, ⟨Nat.le_of_ble_eq_true rfl, Nat.le_of_ble_eq_true rfl⟩, Nat.le_of_ble_eq_true rfl, Nat.le_of_ble_eq_true rfl⟩ h 6 0 rfl rfl (st := []) rfl rfl (Nat.le_of_ble_eq_true rfl) dX6_oakIs_18 rfl (fun r18 F18 G18 h => ?_)
      exact x_iret (wf := w6 cI cO a) K h dX6_oakIs_21
/-! X6_rain -/
abbrev rmX6_rain : Room := { frames := 3, cells := 0, slots := 0, locals := 82 }
theorem dsX6_rain : xDesc yX6_rain 1 := by decide +kernel
theorem uX6_rain_f10 : Cond.fieldLink RX6 10 "PigNinths" "now" "LPigNinths$World;" ∈ wsX6_rain := nw_in nwl_X6_rain nwe_329 (by decide +kernel)
theorem hinX6_rain_X6 : ∀ w ∈ wsX60, w ∈ wsX6_rain := nw_all nwl_X6_rain nwl_X60 (by decide +kernel)
theorem uX6_rain_f102 : Cond.fieldLink RX6 102 "PigNinths$World" "rain" "I" ∈ wsX6_rain := nw_in nwl_X6_rain nwe_380 (by decide +kernel)
theorem hinX6_rain_X5 : ∀ w ∈ wsX50, w ∈ wsX6_rain := nw_all nwl_X6_rain nwl_X50 (by decide +kernel)
set_option maxHeartbeats 4000000 in
set_option maxRecDepth 100000 in
theorem mX6_rain (l : Launch) (D : va_G) (cI cO : ClassId) (a : Nat → Nat)  (x1 : Int32) : MI l yX6_rain wsX6_rain rmX6_rain D (xtys cI cO) [.ref (a 0), .int x1] (w6 cI cO a) (qX6_rain x1) := by
  refine MI_of (cc := cX6_rain) (maxL := 3) (own := RX6) (by decide) rfl rfl (Nat.le_of_ble_eq_true rfl) ?_
  intro p e s m args below meth c A F G Q h K
  refine x_locals [0, 1] (L' := [(0, .ref (a 0)), (1, .int _)]) rfl ?_
  refine x_iload_n (pc' := 1) K dX6_rain_0 1 rfl rfl ?_
  refine x_iconst (pc' := 2) (v := 0) K dX6_rain_1 (by decide) rfl ?_
  refine x_bipush (pc' := 4) (v := 9) K dX6_rain_2 (by decide) rfl ?_
  refine x_callS (pc' := 7) K (mX6_within l D cI cO a _ _ _) rfl gX6_rain_X6_within dsX6_within ⟨rfl, rfl, ⟨Nat.le_of_ble_eq_true rfl, Nat.le_of_ble_eq_true rfl⟩, Nat.le_of_ble_eq_true rfl, Nat.le_of_ble_eq_true rfl⟩ h (st := []) rfl rfl (Nat.le_of_ble_eq_true rfl) dX6_rain_4 rfl (fun r4 h => ?_)
  refine x_if_ne (tgt := 16) (pc' := 10) K dX6_rain_7 rfl rfl (fun c7 => ?_) (fun c7 => ?_)
  · replace h := h.1 c7
    refine x_aload_n (pc' := 17) K dX6_rain_16 0 rfl rfl ?_
    refine xw6_0g_now (pc' := 20) K hinX6_rain_X6 uX6_rain_f10 dX6_rain_17 rfl ?_
    refine xw6_1g_rain (pc' := 23) K hinX6_rain_X5 uX6_rain_f102 dX6_rain_20 rfl ?_
    refine x_istore_n (pc' := 24) (i := 2) K dX6_rain_23 rfl (by decide) [1, 2, 0] (L' := [(0, .ref (a 0)), (1, .int _), (2, .int _)]) rfl rfl ?_
    refine x_aload_n (pc' := 25) K dX6_rain_24 0 rfl rfl ?_
    refine xw6_0g_now (pc' := 28) K hinX6_rain_X6 uX6_rain_f10 dX6_rain_25 rfl ?_
    refine x_iload_n (pc' := 29) K dX6_rain_28 1 rfl rfl ?_
    refine xw6_1p_rain (pc' := 32) K hinX6_rain_X5 uX6_rain_f102 dX6_rain_29 rfl (fun F29 eF29 => ?_)
    replace h := h F29 eF29
    refine x_iload_n (pc' := 33) K dX6_rain_32 2 rfl rfl ?_
    exact x_iret (wf := w6 cI cO a) K h dX6_rain_33
  · replace h := h.2 c7
    refine x_aload_n (pc' := 11) K dX6_rain_10 0 rfl rfl ?_
    refine x_iconst (pc' := 12) (v := 1) K dX6_rain_11 (by decide) rfl ?_
    refine x_callI (pc' := 15) K (mX6_error l D cI cO a _) rfl gX6_rain_X6_error rfl dsX6_error ⟨rfl, rfl, ⟨Nat.le_of_ble_eq_true rfl, Nat.le_of_ble_eq_true rfl⟩, Nat.le_of_ble_eq_true rfl, Nat.le_of_ble_eq_true rfl⟩ h 6 0 rfl rfl (st := []) rfl rfl (Nat.le_of_ble_eq_true rfl) dX6_rain_12 rfl (fun r12 F12 G12 h => ?_)
    exact x_iret (wf := w6 cI cO a) K h dX6_rain_15
/-! X6_farmer -/
abbrev rmX6_farmer : Room := { frames := 4, cells := 0, slots := 0, locals := 102 }
theorem dsX6_farmer : xDesc yX6_farmer 2 := by decide +kernel
theorem uX6_farmer_f10 : Cond.fieldLink RX6 10 "PigNinths" "now" "LPigNinths$World;" ∈ wsX6_farmer := nw_in nwl_X6_farmer nwe_329 (by decide +kernel)
theorem hinX6_farmer_X6 : ∀ w ∈ wsX60, w ∈ wsX6_farmer := nw_all nwl_X6_farmer nwl_X60 (by decide +kernel)
theorem uX6_farmer_f105 : Cond.fieldLink RX6 105 "PigNinths$World" "kind" "[I" ∈ wsX6_farmer := nw_in nwl_X6_farmer nwe_382 (by decide +kernel)
theorem hinX6_farmer_X5 : ∀ w ∈ wsX50, w ∈ wsX6_farmer := nw_all nwl_X6_farmer nwl_X50 (by decide +kernel)
theorem uX6_farmer_f108 : Cond.fieldLink RX6 108 "PigNinths$World" "mark" "[I" ∈ wsX6_farmer := nw_in nwl_X6_farmer nwe_383 (by decide +kernel)
set_option maxHeartbeats 4000000 in
set_option maxRecDepth 100000 in
theorem mX6_farmer (l : Launch) (D : va_G) (cI cO : ClassId) (a : Nat → Nat)  (x1 : Int32) (x2 : Int32) : MI l yX6_farmer wsX6_farmer rmX6_farmer D (xtys cI cO) [.ref (a 0), .int x1, .int x2] (w6 cI cO a) (qX6_farmer x1 x2) := by
  refine MI_of (cc := cX6_farmer) (maxL := 4) (own := RX6) (by decide) rfl rfl (Nat.le_of_ble_eq_true rfl) ?_
  intro p e s m args below meth c A F G Q h K
  refine x_locals [0, 1, 2] (L' := [(0, .ref (a 0)), (1, .int _), (2, .int _)]) rfl ?_
  refine x_iload_n (pc' := 1) K dX6_farmer_0 1 rfl rfl ?_
  refine x_callS (pc' := 4) K (mX6_isFarmer l D cI cO a _) rfl gX6_farmer_X6_isFarmer dsX6_isFarmer ⟨rfl, rfl, ⟨Nat.le_of_ble_eq_true rfl, Nat.le_of_ble_eq_true rfl⟩, Nat.le_of_ble_eq_true rfl, Nat.le_of_ble_eq_true rfl⟩ h (st := []) rfl rfl (Nat.le_of_ble_eq_true rfl) dX6_farmer_1 rfl (fun r1 h => ?_)
  refine x_if_eq (tgt := 17) (pc' := 7) K dX6_farmer_4 rfl rfl (fun c4 => ?_) (fun c4 => ?_)
  · replace h := h.1 c4
    refine x_aload_n (pc' := 18) K dX6_farmer_17 0 rfl rfl ?_
    refine x_iconst (pc' := 19) (v := 1) K dX6_farmer_18 (by decide) rfl ?_
    refine x_callI (pc' := 22) K (mX6_error l D cI cO a _) rfl gX6_farmer_X6_error rfl dsX6_error ⟨rfl, rfl, ⟨Nat.le_of_ble_eq_true rfl, Nat.le_of_ble_eq_true rfl⟩, Nat.le_of_ble_eq_true rfl, Nat.le_of_ble_eq_true rfl⟩ h 6 0 rfl rfl (st := []) rfl rfl (Nat.le_of_ble_eq_true rfl) dX6_farmer_19 rfl (fun r19 F19 G19 h => ?_)
    exact x_iret (wf := w6 cI cO a) K h dX6_farmer_22
  · replace h := h.2 c4
    refine x_iload_n (pc' := 8) K dX6_farmer_7 2 rfl rfl ?_
    refine x_iconst (pc' := 9) (v := 0) K dX6_farmer_8 (by decide) rfl ?_
    refine x_bipush (pc' := 11) (v := 69) K dX6_farmer_9 (by decide) rfl ?_
    refine x_callS (pc' := 14) K (mX6_within l D cI cO a _ _ _) rfl gX6_farmer_X6_within dsX6_within ⟨rfl, rfl, ⟨Nat.le_of_ble_eq_true rfl, Nat.le_of_ble_eq_true rfl⟩, Nat.le_of_ble_eq_true rfl, Nat.le_of_ble_eq_true rfl⟩ h (st := []) rfl rfl (Nat.le_of_ble_eq_true rfl) dX6_farmer_11 rfl (fun r11 h => ?_)
    refine x_if_ne (tgt := 23) (pc' := 17) K dX6_farmer_14 rfl rfl (fun c14 => ?_) (fun c14 => ?_)
    · replace h := h.1 c14
      refine x_bipush (pc' := 25) (v := 10) K dX6_farmer_23 (by decide) rfl ?_
      refine x_aload_n (pc' := 26) K dX6_farmer_25 0 rfl rfl ?_
      refine xw6_0g_now (pc' := 29) K hinX6_farmer_X6 uX6_farmer_f10 dX6_farmer_26 rfl ?_
      refine xw6_1g_kind (pc' := 32) K hinX6_farmer_X5 uX6_farmer_f105 dX6_farmer_29 rfl ?_
      refine x_iload_n (pc' := 33) K dX6_farmer_32 1 rfl rfl ?_
      obtain ⟨i33, h⟩ := h
      refine xw6_4l (pc' := 34) K i33 rfl dX6_farmer_33 rfl ?_
      refine x_imul (pc' := 35) K dX6_farmer_34 rfl ?_
      refine x_aload_n (pc' := 36) K dX6_farmer_35 0 rfl rfl ?_
      refine xw6_0g_now (pc' := 39) K hinX6_farmer_X6 uX6_farmer_f10 dX6_farmer_36 rfl ?_
      refine xw6_1g_mark (pc' := 42) K hinX6_farmer_X5 uX6_farmer_f108 dX6_farmer_39 rfl ?_
      refine x_iload_n (pc' := 43) K dX6_farmer_42 1 rfl rfl ?_
      obtain ⟨i43, h⟩ := h
      refine xw6_5l (pc' := 44) K i43 rfl dX6_farmer_43 rfl ?_
      refine x_iadd (pc' := 45) K dX6_farmer_44 rfl ?_
      refine x_istore_n (pc' := 46) (i := 3) K dX6_farmer_45 rfl (by decide) [1, 2, 3, 0] (L' := [(0, .ref (a 0)), (1, .int _), (2, .int _), (3, .int _)]) rfl rfl ?_
      refine x_aload_n (pc' := 47) K dX6_farmer_46 0 rfl rfl ?_
      refine xw6_0g_now (pc' := 50) K hinX6_farmer_X6 uX6_farmer_f10 dX6_farmer_47 rfl ?_
      refine xw6_1g_kind (pc' := 53) K hinX6_farmer_X5 uX6_farmer_f105 dX6_farmer_50 rfl ?_
      refine x_iload_n (pc' := 54) K dX6_farmer_53 1 rfl rfl ?_
      refine x_iload_n (pc' := 55) K dX6_farmer_54 2 rfl rfl ?_
      refine x_bipush (pc' := 57) (v := 10) K dX6_farmer_55 (by decide) rfl ?_
      refine x_idiv (pc' := 58) K dX6_farmer_57 (by decide) rfl ?_
      obtain ⟨i58, h⟩ := h
      refine xw6_4s (pc' := 59) K i58 rfl dX6_farmer_58 rfl (fun G58 eG58 => ?_)
      replace h := h G58 eG58
      refine x_aload_n (pc' := 60) K dX6_farmer_59 0 rfl rfl ?_
      refine xw6_0g_now (pc' := 63) K hinX6_farmer_X6 uX6_farmer_f10 dX6_farmer_60 rfl ?_
      refine xw6_1g_mark (pc' := 66) K hinX6_farmer_X5 uX6_farmer_f108 dX6_farmer_63 rfl ?_
      refine x_iload_n (pc' := 67) K dX6_farmer_66 1 rfl rfl ?_
      refine x_iload_n (pc' := 68) K dX6_farmer_67 2 rfl rfl ?_
      refine x_bipush (pc' := 70) (v := 10) K dX6_farmer_68 (by decide) rfl ?_
      refine x_irem (pc' := 71) K dX6_farmer_70 (by decide) rfl ?_
      obtain ⟨i71, h⟩ := h
      refine xw6_5s (pc' := 72) K i71 rfl dX6_farmer_71 rfl (fun G71 eG71 => ?_)
      replace h := h G71 eG71
      refine x_iload_n (pc' := 73) K dX6_farmer_72 3 rfl rfl ?_
      exact x_iret (wf := w6 cI cO a) K h dX6_farmer_73
    · replace h := h.2 c14
      refine x_aload_n (pc' := 18) K dX6_farmer_17 0 rfl rfl ?_
      refine x_iconst (pc' := 19) (v := 1) K dX6_farmer_18 (by decide) rfl ?_
      refine x_callI (pc' := 22) K (mX6_error l D cI cO a _) rfl gX6_farmer_X6_error rfl dsX6_error ⟨rfl, rfl, ⟨Nat.le_of_ble_eq_true rfl, Nat.le_of_ble_eq_true rfl⟩, Nat.le_of_ble_eq_true rfl, Nat.le_of_ble_eq_true rfl⟩ h 6 0 rfl rfl (st := []) rfl rfl (Nat.le_of_ble_eq_true rfl) dX6_farmer_19 rfl (fun r19 F19 G19 h => ?_)
      exact x_iret (wf := w6 cI cO a) K h dX6_farmer_22
/-! X6_farmerIs -/
abbrev rmX6_farmerIs : Room := { frames := 4, cells := 0, slots := 0, locals := 102 }
theorem dsX6_farmerIs : xDesc yX6_farmerIs 2 := by decide +kernel
theorem uX6_farmerIs_f10 : Cond.fieldLink RX6 10 "PigNinths" "now" "LPigNinths$World;" ∈ wsX6_farmerIs := nw_in nwl_X6_farmerIs nwe_329 (by decide +kernel)
theorem hinX6_farmerIs_X6 : ∀ w ∈ wsX60, w ∈ wsX6_farmerIs := nw_all nwl_X6_farmerIs nwl_X60 (by decide +kernel)
set_option maxHeartbeats 4000000 in
set_option maxRecDepth 100000 in
theorem mX6_farmerIs (l : Launch) (D : va_G) (cI cO : ClassId) (a : Nat → Nat)  (x1 : Int32) (x2 : Int32) : MI l yX6_farmerIs wsX6_farmerIs rmX6_farmerIs D (xtys cI cO) [.ref (a 0), .int x1, .int x2] (w6 cI cO a) (qX6_farmerIs x1 x2) := by
  refine MI_of (cc := cX6_farmerIs) (maxL := 3) (own := RX6) (by decide) rfl rfl (Nat.le_of_ble_eq_true rfl) ?_
  intro p e s m args below meth c A F G Q h K
  refine x_locals [0, 1, 2] (L' := [(0, .ref (a 0)), (1, .int _), (2, .int _)]) rfl ?_
  refine x_iload_n (pc' := 1) K dX6_farmerIs_0 1 rfl rfl ?_
  refine x_callS (pc' := 4) K (mX6_isFarmer l D cI cO a _) rfl gX6_farmerIs_X6_isFarmer dsX6_isFarmer ⟨rfl, rfl, ⟨Nat.le_of_ble_eq_true rfl, Nat.le_of_ble_eq_true rfl⟩, Nat.le_of_ble_eq_true rfl, Nat.le_of_ble_eq_true rfl⟩ h (st := []) rfl rfl (Nat.le_of_ble_eq_true rfl) dX6_farmerIs_1 rfl (fun r1 h => ?_)
  refine x_if_eq (tgt := 17) (pc' := 7) K dX6_farmerIs_4 rfl rfl (fun c4 => ?_) (fun c4 => ?_)
  · replace h := h.1 c4
    refine x_aload_n (pc' := 18) K dX6_farmerIs_17 0 rfl rfl ?_
    refine x_iconst (pc' := 19) (v := 1) K dX6_farmerIs_18 (by decide) rfl ?_
    refine x_callI (pc' := 22) K (mX6_error l D cI cO a _) rfl gX6_farmerIs_X6_error rfl dsX6_error ⟨rfl, rfl, ⟨Nat.le_of_ble_eq_true rfl, Nat.le_of_ble_eq_true rfl⟩, Nat.le_of_ble_eq_true rfl, Nat.le_of_ble_eq_true rfl⟩ h 6 0 rfl rfl (st := []) rfl rfl (Nat.le_of_ble_eq_true rfl) dX6_farmerIs_19 rfl (fun r19 F19 G19 h => ?_)
    exact x_iret (wf := w6 cI cO a) K h dX6_farmerIs_22
  · replace h := h.2 c4
    refine x_iload_n (pc' := 8) K dX6_farmerIs_7 2 rfl rfl ?_
    refine x_iconst (pc' := 9) (v := 0) K dX6_farmerIs_8 (by decide) rfl ?_
    refine x_bipush (pc' := 11) (v := 8) K dX6_farmerIs_9 (by decide) rfl ?_
    refine x_callS (pc' := 14) K (mX6_within l D cI cO a _ _ _) rfl gX6_farmerIs_X6_within dsX6_within ⟨rfl, rfl, ⟨Nat.le_of_ble_eq_true rfl, Nat.le_of_ble_eq_true rfl⟩, Nat.le_of_ble_eq_true rfl, Nat.le_of_ble_eq_true rfl⟩ h (st := []) rfl rfl (Nat.le_of_ble_eq_true rfl) dX6_farmerIs_11 rfl (fun r11 h => ?_)
    refine x_if_ne (tgt := 23) (pc' := 17) K dX6_farmerIs_14 rfl rfl (fun c14 => ?_) (fun c14 => ?_)
    · replace h := h.1 c14
      refine x_aload_n (pc' := 24) K dX6_farmerIs_23 0 rfl rfl ?_
      refine xw6_0g_now (pc' := 27) K hinX6_farmerIs_X6 uX6_farmerIs_f10 dX6_farmerIs_24 rfl ?_
      refine x_iload_n (pc' := 28) K dX6_farmerIs_27 1 rfl rfl ?_
      refine x_iload_n (pc' := 29) K dX6_farmerIs_28 2 rfl rfl ?_
      refine x_subI (pc' := 32) (wn := fun F' G' => w6 cI cO a (xspl F 0 7 F') (xspl G 0 14 G')) K (mX5_ofFarmer l D cI cO (xsub a 1) _ _) rfl gX6_farmerIs_X5_ofFarmer rfl dsX5_ofFarmer ⟨rfl, rfl, ⟨Nat.le_of_ble_eq_true rfl, Nat.le_of_ble_eq_true rfl⟩, Nat.le_of_ble_eq_true rfl, Nat.le_of_ble_eq_true rfl⟩ h 5 0 rfl rfl (xpl24 cI cO a _ _) (fun F' G' => xpr24 cI cO a _ _ F' G') (st := []) rfl rfl (Nat.le_of_ble_eq_true rfl) dX6_farmerIs_29 rfl (fun r29 F29 G29 h => ?_)
      obtain ⟨E29, eE29⟩ : ∃ x : xF, x = (xspl F 0 7 F29) := ⟨_, rfl⟩
      obtain ⟨H29, eH29⟩ : ∃ x : xA, x = (xspl G 0 14 G29) := ⟨_, rfl⟩
      refine x_weq (w' := w6 cI cO a E29 H29) (by subst eE29; subst eH29; rfl) ?_
      replace h := h E29 eE29
      replace h := h H29 eH29
      exact x_iret (wf := w6 cI cO a) K h dX6_farmerIs_32
    · replace h := h.2 c14
      refine x_aload_n (pc' := 18) K dX6_farmerIs_17 0 rfl rfl ?_
      refine x_iconst (pc' := 19) (v := 1) K dX6_farmerIs_18 (by decide) rfl ?_
      refine x_callI (pc' := 22) K (mX6_error l D cI cO a _) rfl gX6_farmerIs_X6_error rfl dsX6_error ⟨rfl, rfl, ⟨Nat.le_of_ble_eq_true rfl, Nat.le_of_ble_eq_true rfl⟩, Nat.le_of_ble_eq_true rfl, Nat.le_of_ble_eq_true rfl⟩ h 6 0 rfl rfl (st := []) rfl rfl (Nat.le_of_ble_eq_true rfl) dX6_farmerIs_19 rfl (fun r19 F19 G19 h => ?_)
      exact x_iret (wf := w6 cI cO a) K h dX6_farmerIs_22
/-! X6_as -/
abbrev rmX6_as : Room := { frames := 4, cells := 0, slots := 0, locals := 102 }
theorem dsX6_as : xDesc yX6_as 2 := by decide +kernel
theorem uX6_as_f10 : Cond.fieldLink RX6 10 "PigNinths" "now" "LPigNinths$World;" ∈ wsX6_as := nw_in nwl_X6_as nwe_329 (by decide +kernel)
theorem hinX6_as_X6 : ∀ w ∈ wsX60, w ∈ wsX6_as := nw_all nwl_X6_as nwl_X60 (by decide +kernel)
theorem uX6_as_f105 : Cond.fieldLink RX6 105 "PigNinths$World" "kind" "[I" ∈ wsX6_as := nw_in nwl_X6_as nwe_382 (by decide +kernel)
theorem hinX6_as_X5 : ∀ w ∈ wsX50, w ∈ wsX6_as := nw_all nwl_X6_as nwl_X50 (by decide +kernel)
theorem uX6_as_f108 : Cond.fieldLink RX6 108 "PigNinths$World" "mark" "[I" ∈ wsX6_as := nw_in nwl_X6_as nwe_383 (by decide +kernel)
set_option maxHeartbeats 4000000 in
set_option maxRecDepth 100000 in
theorem mX6_as (l : Launch) (D : va_G) (cI cO : ClassId) (a : Nat → Nat)  (x1 : Int32) (x2 : Int32) : MI l yX6_as wsX6_as rmX6_as D (xtys cI cO) [.ref (a 0), .int x1, .int x2] (w6 cI cO a) (qX6_as x1 x2) := by
  refine MI_of (cc := cX6_as) (maxL := 3) (own := RX6) (by decide) rfl rfl (Nat.le_of_ble_eq_true rfl) ?_
  intro p e s m args below meth c A F G Q h K
  refine x_locals [0, 1, 2] (L' := [(0, .ref (a 0)), (1, .int _), (2, .int _)]) rfl ?_
  refine x_iload_n (pc' := 1) K dX6_as_0 1 rfl rfl ?_
  refine x_callS (pc' := 4) K (mX6_isFarmer l D cI cO a _) rfl gX6_as_X6_isFarmer dsX6_isFarmer ⟨rfl, rfl, ⟨Nat.le_of_ble_eq_true rfl, Nat.le_of_ble_eq_true rfl⟩, Nat.le_of_ble_eq_true rfl, Nat.le_of_ble_eq_true rfl⟩ h (st := []) rfl rfl (Nat.le_of_ble_eq_true rfl) dX6_as_1 rfl (fun r1 h => ?_)
  refine x_if_eq (tgt := 17) (pc' := 7) K dX6_as_4 rfl rfl (fun c4 => ?_) (fun c4 => ?_)
  · replace h := h.1 c4
    refine x_aload_n (pc' := 18) K dX6_as_17 0 rfl rfl ?_
    refine x_iconst (pc' := 19) (v := 1) K dX6_as_18 (by decide) rfl ?_
    refine x_callI (pc' := 22) K (mX6_error l D cI cO a _) rfl gX6_as_X6_error rfl dsX6_error ⟨rfl, rfl, ⟨Nat.le_of_ble_eq_true rfl, Nat.le_of_ble_eq_true rfl⟩, Nat.le_of_ble_eq_true rfl, Nat.le_of_ble_eq_true rfl⟩ h 6 0 rfl rfl (st := []) rfl rfl (Nat.le_of_ble_eq_true rfl) dX6_as_19 rfl (fun r19 F19 G19 h => ?_)
    exact x_iret (wf := w6 cI cO a) K h dX6_as_22
  · replace h := h.2 c4
    refine x_iload_n (pc' := 8) K dX6_as_7 2 rfl rfl ?_
    refine x_iconst (pc' := 9) (v := 0) K dX6_as_8 (by decide) rfl ?_
    refine x_bipush (pc' := 11) (v := 6) K dX6_as_9 (by decide) rfl ?_
    refine x_callS (pc' := 14) K (mX6_within l D cI cO a _ _ _) rfl gX6_as_X6_within dsX6_within ⟨rfl, rfl, ⟨Nat.le_of_ble_eq_true rfl, Nat.le_of_ble_eq_true rfl⟩, Nat.le_of_ble_eq_true rfl, Nat.le_of_ble_eq_true rfl⟩ h (st := []) rfl rfl (Nat.le_of_ble_eq_true rfl) dX6_as_11 rfl (fun r11 h => ?_)
    refine x_if_ne (tgt := 23) (pc' := 17) K dX6_as_14 rfl rfl (fun c14 => ?_) (fun c14 => ?_)
    · replace h := h.1 c14
      refine x_aload_n (pc' := 24) K dX6_as_23 0 rfl rfl ?_
      refine xw6_0g_now (pc' := 27) K hinX6_as_X6 uX6_as_f10 dX6_as_24 rfl ?_
      refine xw6_1g_kind (pc' := 30) K hinX6_as_X5 uX6_as_f105 dX6_as_27 rfl ?_
      refine x_iload_n (pc' := 31) K dX6_as_30 1 rfl rfl ?_
      obtain ⟨i31, h⟩ := h
      refine xw6_4l (pc' := 32) K i31 rfl dX6_as_31 rfl ?_
      refine x_iload_n (pc' := 33) K dX6_as_32 2 rfl rfl ?_
      refine x_callS (pc' := 36) K (mX6_isOfKind l D cI cO a _ _) rfl gX6_as_X6_isOfKind dsX6_isOfKind ⟨rfl, rfl, ⟨Nat.le_of_ble_eq_true rfl, Nat.le_of_ble_eq_true rfl⟩, Nat.le_of_ble_eq_true rfl, Nat.le_of_ble_eq_true rfl⟩ h (st := []) rfl rfl (Nat.le_of_ble_eq_true rfl) dX6_as_33 rfl (fun r33 h => ?_)
      refine x_if_ne (tgt := 45) (pc' := 39) K dX6_as_36 rfl rfl (fun c36 => ?_) (fun c36 => ?_)
      · replace h := h.1 c36
        refine x_aload_n (pc' := 46) K dX6_as_45 0 rfl rfl ?_
        refine xw6_0g_now (pc' := 49) K hinX6_as_X6 uX6_as_f10 dX6_as_46 rfl ?_
        refine xw6_1g_mark (pc' := 52) K hinX6_as_X5 uX6_as_f108 dX6_as_49 rfl ?_
        refine x_iload_n (pc' := 53) K dX6_as_52 1 rfl rfl ?_
        obtain ⟨i53, h⟩ := h
        refine xw6_5l (pc' := 54) K i53 rfl dX6_as_53 rfl ?_
        exact x_iret (wf := w6 cI cO a) K h dX6_as_54
      · replace h := h.2 c36
        refine x_aload_n (pc' := 40) K dX6_as_39 0 rfl rfl ?_
        refine x_iconst (pc' := 41) (v := 5) K dX6_as_40 (by decide) rfl ?_
        refine x_callI (pc' := 44) K (mX6_error l D cI cO a _) rfl gX6_as_X6_error rfl dsX6_error ⟨rfl, rfl, ⟨Nat.le_of_ble_eq_true rfl, Nat.le_of_ble_eq_true rfl⟩, Nat.le_of_ble_eq_true rfl, Nat.le_of_ble_eq_true rfl⟩ h 6 0 rfl rfl (st := []) rfl rfl (Nat.le_of_ble_eq_true rfl) dX6_as_41 rfl (fun r41 F41 G41 h => ?_)
        exact x_iret (wf := w6 cI cO a) K h dX6_as_44
    · replace h := h.2 c14
      refine x_aload_n (pc' := 18) K dX6_as_17 0 rfl rfl ?_
      refine x_iconst (pc' := 19) (v := 1) K dX6_as_18 (by decide) rfl ?_
      refine x_callI (pc' := 22) K (mX6_error l D cI cO a _) rfl gX6_as_X6_error rfl dsX6_error ⟨rfl, rfl, ⟨Nat.le_of_ble_eq_true rfl, Nat.le_of_ble_eq_true rfl⟩, Nat.le_of_ble_eq_true rfl, Nat.le_of_ble_eq_true rfl⟩ h 6 0 rfl rfl (st := []) rfl rfl (Nat.le_of_ble_eq_true rfl) dX6_as_19 rfl (fun r19 F19 G19 h => ?_)
      exact x_iret (wf := w6 cI cO a) K h dX6_as_22
/-! X6_trade -/
abbrev rmX6_trade : Room := { frames := 4, cells := 0, slots := 0, locals := 102 }
theorem dsX6_trade : xDesc yX6_trade 2 := by decide +kernel
theorem uX6_trade_f10 : Cond.fieldLink RX6 10 "PigNinths" "now" "LPigNinths$World;" ∈ wsX6_trade := nw_in nwl_X6_trade nwe_329 (by decide +kernel)
theorem hinX6_trade_X6 : ∀ w ∈ wsX60, w ∈ wsX6_trade := nw_all nwl_X6_trade nwl_X60 (by decide +kernel)
theorem uX6_trade_f123 : Cond.fieldLink RX6 123 "PigNinths$World" "turn" "[I" ∈ wsX6_trade := nw_in nwl_X6_trade nwe_394 (by decide +kernel)
theorem hinX6_trade_X5 : ∀ w ∈ wsX50, w ∈ wsX6_trade := nw_all nwl_X6_trade nwl_X50 (by decide +kernel)
set_option maxHeartbeats 4000000 in
set_option maxRecDepth 100000 in
theorem mX6_trade (l : Launch) (D : va_G) (cI cO : ClassId) (a : Nat → Nat)  (x1 : Int32) (x2 : Int32) : MI l yX6_trade wsX6_trade rmX6_trade D (xtys cI cO) [.ref (a 0), .int x1, .int x2] (w6 cI cO a) (qX6_trade x1 x2) := by
  refine MI_of (cc := cX6_trade) (maxL := 3) (own := RX6) (by decide) rfl rfl (Nat.le_of_ble_eq_true rfl) ?_
  intro p e s m args below meth c A F G Q h K
  refine x_locals [0, 1, 2] (L' := [(0, .ref (a 0)), (1, .int _), (2, .int _)]) rfl ?_
  refine x_iload_n (pc' := 1) K dX6_trade_0 1 rfl rfl ?_
  refine x_callS (pc' := 4) K (mX6_isFarmer l D cI cO a _) rfl gX6_trade_X6_isFarmer dsX6_isFarmer ⟨rfl, rfl, ⟨Nat.le_of_ble_eq_true rfl, Nat.le_of_ble_eq_true rfl⟩, Nat.le_of_ble_eq_true rfl, Nat.le_of_ble_eq_true rfl⟩ h (st := []) rfl rfl (Nat.le_of_ble_eq_true rfl) dX6_trade_1 rfl (fun r1 h => ?_)
  refine x_if_eq (tgt := 14) (pc' := 7) K dX6_trade_4 rfl rfl (fun c4 => ?_) (fun c4 => ?_)
  · replace h := h.1 c4
    refine x_aload_n (pc' := 15) K dX6_trade_14 0 rfl rfl ?_
    refine x_iconst (pc' := 16) (v := 1) K dX6_trade_15 (by decide) rfl ?_
    refine x_callI (pc' := 19) K (mX6_error l D cI cO a _) rfl gX6_trade_X6_error rfl dsX6_error ⟨rfl, rfl, ⟨Nat.le_of_ble_eq_true rfl, Nat.le_of_ble_eq_true rfl⟩, Nat.le_of_ble_eq_true rfl, Nat.le_of_ble_eq_true rfl⟩ h 6 0 rfl rfl (st := []) rfl rfl (Nat.le_of_ble_eq_true rfl) dX6_trade_16 rfl (fun r16 F16 G16 h => ?_)
    exact x_iret (wf := w6 cI cO a) K h dX6_trade_19
  · replace h := h.2 c4
    refine x_iload_n (pc' := 8) K dX6_trade_7 2 rfl rfl ?_
    refine x_callS (pc' := 11) K (mX6_isFarmer l D cI cO a _) rfl gX6_trade_X6_isFarmer dsX6_isFarmer ⟨rfl, rfl, ⟨Nat.le_of_ble_eq_true rfl, Nat.le_of_ble_eq_true rfl⟩, Nat.le_of_ble_eq_true rfl, Nat.le_of_ble_eq_true rfl⟩ h (st := []) rfl rfl (Nat.le_of_ble_eq_true rfl) dX6_trade_8 rfl (fun r8 h => ?_)
    refine x_if_ne (tgt := 20) (pc' := 14) K dX6_trade_11 rfl rfl (fun c11 => ?_) (fun c11 => ?_)
    · replace h := h.1 c11
      refine x_aload_n (pc' := 21) K dX6_trade_20 0 rfl rfl ?_
      refine xw6_0g_now (pc' := 24) K hinX6_trade_X6 uX6_trade_f10 dX6_trade_21 rfl ?_
      refine x_iload_n (pc' := 25) K dX6_trade_24 1 rfl rfl ?_
      refine x_iload_n (pc' := 26) K dX6_trade_25 2 rfl rfl ?_
      refine x_subV (pc' := 29) (wn := fun F' G' => w6 cI cO a (xspl F 0 7 F') (xspl G 0 14 G')) K (mX5_changeTurns l D cI cO (xsub a 1) _ _) rfl gX6_trade_X5_changeTurns rfl dsX5_changeTurns ⟨rfl, rfl, ⟨Nat.le_of_ble_eq_true rfl, Nat.le_of_ble_eq_true rfl⟩, Nat.le_of_ble_eq_true rfl, Nat.le_of_ble_eq_true rfl⟩ h 5 0 rfl rfl (xpl24 cI cO a _ _) (fun F' G' => xpr24 cI cO a _ _ F' G') (st := []) rfl rfl (Nat.le_of_ble_eq_true rfl) dX6_trade_26 rfl (fun F26 G26 h => ?_)
      obtain ⟨E26, eE26⟩ : ∃ x : xF, x = (xspl F 0 7 F26) := ⟨_, rfl⟩
      obtain ⟨H26, eH26⟩ : ∃ x : xA, x = (xspl G 0 14 G26) := ⟨_, rfl⟩
      refine x_weq (w' := w6 cI cO a E26 H26) (by subst eE26; subst eH26; rfl) ?_
      replace h := h E26 eE26
      replace h := h H26 eH26
      refine x_aload_n (pc' := 30) K dX6_trade_29 0 rfl rfl ?_
      refine xw6_0g_now (pc' := 33) K hinX6_trade_X6 uX6_trade_f10 dX6_trade_30 rfl ?_
      refine xw6_1g_turn (pc' := 36) K hinX6_trade_X5 uX6_trade_f123 dX6_trade_33 rfl ?_
      refine x_iload_n (pc' := 37) K dX6_trade_36 1 rfl rfl ?_
      obtain ⟨i37, h⟩ := h
      refine xw6_8l (pc' := 38) K i37 rfl dX6_trade_37 rfl ?_
      exact x_iret (wf := w6 cI cO a) K h dX6_trade_38
    · replace h := h.2 c11
      refine x_aload_n (pc' := 15) K dX6_trade_14 0 rfl rfl ?_
      refine x_iconst (pc' := 16) (v := 1) K dX6_trade_15 (by decide) rfl ?_
      refine x_callI (pc' := 19) K (mX6_error l D cI cO a _) rfl gX6_trade_X6_error rfl dsX6_error ⟨rfl, rfl, ⟨Nat.le_of_ble_eq_true rfl, Nat.le_of_ble_eq_true rfl⟩, Nat.le_of_ble_eq_true rfl, Nat.le_of_ble_eq_true rfl⟩ h 6 0 rfl rfl (st := []) rfl rfl (Nat.le_of_ble_eq_true rfl) dX6_trade_16 rfl (fun r16 F16 G16 h => ?_)
      exact x_iret (wf := w6 cI cO a) K h dX6_trade_19
/-! X6_leash -/
abbrev rmX6_leash : Room := { frames := 4, cells := 0, slots := 0, locals := 102 }
theorem dsX6_leash : xDesc yX6_leash 3 := by decide +kernel
theorem uX6_leash_f10 : Cond.fieldLink RX6 10 "PigNinths" "now" "LPigNinths$World;" ∈ wsX6_leash := nw_in nwl_X6_leash nwe_329 (by decide +kernel)
theorem hinX6_leash_X6 : ∀ w ∈ wsX60, w ∈ wsX6_leash := nw_all nwl_X6_leash nwl_X60 (by decide +kernel)
theorem uX6_leash_f126 : Cond.fieldLink RX6 126 "PigNinths$World" "leash" "[I" ∈ wsX6_leash := nw_in nwl_X6_leash nwe_399 (by decide +kernel)
theorem hinX6_leash_X5 : ∀ w ∈ wsX50, w ∈ wsX6_leash := nw_all nwl_X6_leash nwl_X50 (by decide +kernel)
set_option maxHeartbeats 4000000 in
set_option maxRecDepth 100000 in
theorem mX6_leash (l : Launch) (D : va_G) (cI cO : ClassId) (a : Nat → Nat)  (x1 : Int32) (x2 : Int32) (x3 : Int32) : MI l yX6_leash wsX6_leash rmX6_leash D (xtys cI cO) [.ref (a 0), .int x1, .int x2, .int x3] (w6 cI cO a) (qX6_leash x1 x2 x3) := by
  refine MI_of (cc := cX6_leash) (maxL := 5) (own := RX6) (by decide) rfl rfl (Nat.le_of_ble_eq_true rfl) ?_
  intro p e s m args below meth c A F G Q h K
  refine x_locals [0, 1, 2, 3] (L' := [(0, .ref (a 0)), (1, .int _), (2, .int _), (3, .int _)]) rfl ?_
  refine x_iload_n (pc' := 1) K dX6_leash_0 1 rfl rfl ?_
  refine x_callS (pc' := 4) K (mX6_isFarmer l D cI cO a _) rfl gX6_leash_X6_isFarmer dsX6_isFarmer ⟨rfl, rfl, ⟨Nat.le_of_ble_eq_true rfl, Nat.le_of_ble_eq_true rfl⟩, Nat.le_of_ble_eq_true rfl, Nat.le_of_ble_eq_true rfl⟩ h (st := []) rfl rfl (Nat.le_of_ble_eq_true rfl) dX6_leash_1 rfl (fun r1 h => ?_)
  refine x_if_eq (tgt := 25) (pc' := 7) K dX6_leash_4 rfl rfl (fun c4 => ?_) (fun c4 => ?_)
  · replace h := h.1 c4
    refine x_aload_n (pc' := 26) K dX6_leash_25 0 rfl rfl ?_
    refine x_iconst (pc' := 27) (v := 1) K dX6_leash_26 (by decide) rfl ?_
    refine x_callI (pc' := 30) K (mX6_error l D cI cO a _) rfl gX6_leash_X6_error rfl dsX6_error ⟨rfl, rfl, ⟨Nat.le_of_ble_eq_true rfl, Nat.le_of_ble_eq_true rfl⟩, Nat.le_of_ble_eq_true rfl, Nat.le_of_ble_eq_true rfl⟩ h 6 0 rfl rfl (st := []) rfl rfl (Nat.le_of_ble_eq_true rfl) dX6_leash_27 rfl (fun r27 F27 G27 h => ?_)
    exact x_iret (wf := w6 cI cO a) K h dX6_leash_30
  · replace h := h.2 c4
    refine x_iload_n (pc' := 8) K dX6_leash_7 2 rfl rfl ?_
    refine x_iconst (pc' := 9) (v := 0) K dX6_leash_8 (by decide) rfl ?_
    refine x_iconst (pc' := 10) (v := 3) K dX6_leash_9 (by decide) rfl ?_
    refine x_callS (pc' := 13) K (mX6_within l D cI cO a _ _ _) rfl gX6_leash_X6_within dsX6_within ⟨rfl, rfl, ⟨Nat.le_of_ble_eq_true rfl, Nat.le_of_ble_eq_true rfl⟩, Nat.le_of_ble_eq_true rfl, Nat.le_of_ble_eq_true rfl⟩ h (st := []) rfl rfl (Nat.le_of_ble_eq_true rfl) dX6_leash_10 rfl (fun r10 h => ?_)
    refine x_if_eq (tgt := 25) (pc' := 16) K dX6_leash_13 rfl rfl (fun c13 => ?_) (fun c13 => ?_)
    · replace h := h.1 c13
      refine x_aload_n (pc' := 26) K dX6_leash_25 0 rfl rfl ?_
      refine x_iconst (pc' := 27) (v := 1) K dX6_leash_26 (by decide) rfl ?_
      refine x_callI (pc' := 30) K (mX6_error l D cI cO a _) rfl gX6_leash_X6_error rfl dsX6_error ⟨rfl, rfl, ⟨Nat.le_of_ble_eq_true rfl, Nat.le_of_ble_eq_true rfl⟩, Nat.le_of_ble_eq_true rfl, Nat.le_of_ble_eq_true rfl⟩ h 6 0 rfl rfl (st := []) rfl rfl (Nat.le_of_ble_eq_true rfl) dX6_leash_27 rfl (fun r27 F27 G27 h => ?_)
      exact x_iret (wf := w6 cI cO a) K h dX6_leash_30
    · replace h := h.2 c13
      refine x_iload_n (pc' := 17) K dX6_leash_16 3 rfl rfl ?_
      refine x_iconst (pc' := 18) (v := 0) K dX6_leash_17 (by decide) rfl ?_
      refine x_iconst (pc' := 19) (v := 4) K dX6_leash_18 (by decide) rfl ?_
      refine x_callS (pc' := 22) K (mX6_within l D cI cO a _ _ _) rfl gX6_leash_X6_within dsX6_within ⟨rfl, rfl, ⟨Nat.le_of_ble_eq_true rfl, Nat.le_of_ble_eq_true rfl⟩, Nat.le_of_ble_eq_true rfl, Nat.le_of_ble_eq_true rfl⟩ h (st := []) rfl rfl (Nat.le_of_ble_eq_true rfl) dX6_leash_19 rfl (fun r19 h => ?_)
      refine x_if_ne (tgt := 31) (pc' := 25) K dX6_leash_22 rfl rfl (fun c22 => ?_) (fun c22 => ?_)
      · replace h := h.1 c22
        refine x_aload_n (pc' := 32) K dX6_leash_31 0 rfl rfl ?_
        refine xw6_0g_now (pc' := 35) K hinX6_leash_X6 uX6_leash_f10 dX6_leash_32 rfl ?_
        refine xw6_1g_leash (pc' := 38) K hinX6_leash_X5 uX6_leash_f126 dX6_leash_35 rfl ?_
        refine x_iconst (pc' := 39) (v := 4) K dX6_leash_38 (by decide) rfl ?_
        refine x_iload_n (pc' := 40) K dX6_leash_39 1 rfl rfl ?_
        refine x_imul (pc' := 41) K dX6_leash_40 rfl ?_
        refine x_iload_n (pc' := 42) K dX6_leash_41 2 rfl rfl ?_
        refine x_iadd (pc' := 43) K dX6_leash_42 rfl ?_
        obtain ⟨i43, h⟩ := h
        refine xw6_9l (pc' := 44) K i43 rfl dX6_leash_43 rfl ?_
        refine x_istore (pc' := 46) (i := 4) K dX6_leash_44 (by decide) [1, 2, 3, 4, 0] (L' := [(0, .ref (a 0)), (1, .int _), (2, .int _), (3, .int _), (4, .int _)]) rfl rfl ?_
        refine x_aload_n (pc' := 47) K dX6_leash_46 0 rfl rfl ?_
        refine xw6_0g_now (pc' := 50) K hinX6_leash_X6 uX6_leash_f10 dX6_leash_47 rfl ?_
        refine xw6_1g_leash (pc' := 53) K hinX6_leash_X5 uX6_leash_f126 dX6_leash_50 rfl ?_
        refine x_iconst (pc' := 54) (v := 4) K dX6_leash_53 (by decide) rfl ?_
        refine x_iload_n (pc' := 55) K dX6_leash_54 1 rfl rfl ?_
        refine x_imul (pc' := 56) K dX6_leash_55 rfl ?_
        refine x_iload_n (pc' := 57) K dX6_leash_56 2 rfl rfl ?_
        refine x_iadd (pc' := 58) K dX6_leash_57 rfl ?_
        refine x_iload_n (pc' := 59) K dX6_leash_58 3 rfl rfl ?_
        obtain ⟨i59, h⟩ := h
        refine xw6_9s (pc' := 60) K i59 rfl dX6_leash_59 rfl (fun G59 eG59 => ?_)
        replace h := h G59 eG59
        refine x_iload (pc' := 62) K dX6_leash_60 4 rfl rfl ?_
        exact x_iret (wf := w6 cI cO a) K h dX6_leash_62
      · replace h := h.2 c22
        refine x_aload_n (pc' := 26) K dX6_leash_25 0 rfl rfl ?_
        refine x_iconst (pc' := 27) (v := 1) K dX6_leash_26 (by decide) rfl ?_
        refine x_callI (pc' := 30) K (mX6_error l D cI cO a _) rfl gX6_leash_X6_error rfl dsX6_error ⟨rfl, rfl, ⟨Nat.le_of_ble_eq_true rfl, Nat.le_of_ble_eq_true rfl⟩, Nat.le_of_ble_eq_true rfl, Nat.le_of_ble_eq_true rfl⟩ h 6 0 rfl rfl (st := []) rfl rfl (Nat.le_of_ble_eq_true rfl) dX6_leash_27 rfl (fun r27 F27 G27 h => ?_)
        exact x_iret (wf := w6 cI cO a) K h dX6_leash_30
/-! X6_pig -/
abbrev rmX6_pig : Room := { frames := 4, cells := 0, slots := 0, locals := 102 }
theorem dsX6_pig : xDesc yX6_pig 2 := by decide +kernel
theorem uX6_pig_f10 : Cond.fieldLink RX6 10 "PigNinths" "now" "LPigNinths$World;" ∈ wsX6_pig := nw_in nwl_X6_pig nwe_329 (by decide +kernel)
theorem hinX6_pig_X6 : ∀ w ∈ wsX60, w ∈ wsX6_pig := nw_all nwl_X6_pig nwl_X60 (by decide +kernel)
theorem uX6_pig_f129 : Cond.fieldLink RX6 129 "PigNinths$World" "place" "I" ∈ wsX6_pig := nw_in nwl_X6_pig nwe_401 (by decide +kernel)
theorem hinX6_pig_X5 : ∀ w ∈ wsX50, w ∈ wsX6_pig := nw_all nwl_X6_pig nwl_X50 (by decide +kernel)
theorem uX6_pig_f132 : Cond.fieldLink RX6 132 "PigNinths$World" "hunger" "I" ∈ wsX6_pig := nw_in nwl_X6_pig nwe_402 (by decide +kernel)
set_option maxHeartbeats 4000000 in
set_option maxRecDepth 100000 in
theorem tX6_pig_29 (K : XK p m c cX6_pig 4 s args wsX6_pig RX6 D (xtys cI cO) A meth (some .int)) {Q : Int32 → xF → xA → Prop} : ∀ (x1 : Int32) (x2 : Int32) (F : xF) (G : xA), qX6_pig_29 Q x1 x2 F G → XJ p l e rmX6_pig s m args below meth c 0 0 (MQ below (xQi D (w6 cI cO a) A Q) args s 0 0 A) D (xtys cI cO) A 4 (w6 cI cO a F G) 29 [(0, .ref (a 0)), (1, .int x1), (2, .int x2)] [] := by
  intro x1 x2 F G h
  refine x_iload_n (pc' := 30) K dX6_pig_29 1 rfl rfl ?_
  refine x_iconst (pc' := 31) (v := 1) K dX6_pig_30 (by decide) rfl ?_
  refine x_icmp_ne (tgt := 62) (pc' := 34) K dX6_pig_31 rfl rfl (fun c31 => ?_) (fun c31 => ?_)
  · replace h := h.1 c31
    refine x_aload_n (pc' := 63) K dX6_pig_62 0 rfl rfl ?_
    refine x_iconst (pc' := 64) (v := 1) K dX6_pig_63 (by decide) rfl ?_
    refine x_callI (pc' := 67) K (mX6_error l D cI cO a _) rfl gX6_pig_X6_error rfl dsX6_error ⟨rfl, rfl, ⟨Nat.le_of_ble_eq_true rfl, Nat.le_of_ble_eq_true rfl⟩, Nat.le_of_ble_eq_true rfl, Nat.le_of_ble_eq_true rfl⟩ h 6 0 rfl rfl (st := []) rfl rfl (Nat.le_of_ble_eq_true rfl) dX6_pig_64 rfl (fun r64 F64 G64 h => ?_)
    exact x_iret (wf := w6 cI cO a) K h dX6_pig_67
  · replace h := h.2 c31
    refine x_iload_n (pc' := 35) K dX6_pig_34 2 rfl rfl ?_
    refine x_iconst (pc' := 36) (v := 0) K dX6_pig_35 (by decide) rfl ?_
    refine x_bipush (pc' := 38) (v := 9) K dX6_pig_36 (by decide) rfl ?_
    refine x_callS (pc' := 41) K (mX6_within l D cI cO a _ _ _) rfl gX6_pig_X6_within dsX6_within ⟨rfl, rfl, ⟨Nat.le_of_ble_eq_true rfl, Nat.le_of_ble_eq_true rfl⟩, Nat.le_of_ble_eq_true rfl, Nat.le_of_ble_eq_true rfl⟩ h (st := []) rfl rfl (Nat.le_of_ble_eq_true rfl) dX6_pig_38 rfl (fun r38 h => ?_)
    refine x_if_eq (tgt := 62) (pc' := 44) K dX6_pig_41 rfl rfl (fun c41 => ?_) (fun c41 => ?_)
    · replace h := h.1 c41
      refine x_aload_n (pc' := 63) K dX6_pig_62 0 rfl rfl ?_
      refine x_iconst (pc' := 64) (v := 1) K dX6_pig_63 (by decide) rfl ?_
      refine x_callI (pc' := 67) K (mX6_error l D cI cO a _) rfl gX6_pig_X6_error rfl dsX6_error ⟨rfl, rfl, ⟨Nat.le_of_ble_eq_true rfl, Nat.le_of_ble_eq_true rfl⟩, Nat.le_of_ble_eq_true rfl, Nat.le_of_ble_eq_true rfl⟩ h 6 0 rfl rfl (st := []) rfl rfl (Nat.le_of_ble_eq_true rfl) dX6_pig_64 rfl (fun r64 F64 G64 h => ?_)
      exact x_iret (wf := w6 cI cO a) K h dX6_pig_67
    · replace h := h.2 c41
      refine x_aload_n (pc' := 45) K dX6_pig_44 0 rfl rfl ?_
      refine xw6_0g_now (pc' := 48) K hinX6_pig_X6 uX6_pig_f10 dX6_pig_45 rfl ?_
      refine xw6_1g_hunger (pc' := 51) K hinX6_pig_X5 uX6_pig_f132 dX6_pig_48 rfl ?_
      refine x_istore_n (pc' := 52) (i := 3) K dX6_pig_51 rfl (by decide) [1, 2, 3, 0] (L' := [(0, .ref (a 0)), (1, .int _), (2, .int _), (3, .int _)]) rfl rfl ?_
      refine x_aload_n (pc' := 53) K dX6_pig_52 0 rfl rfl ?_
      refine xw6_0g_now (pc' := 56) K hinX6_pig_X6 uX6_pig_f10 dX6_pig_53 rfl ?_
      refine x_iload_n (pc' := 57) K dX6_pig_56 2 rfl rfl ?_
      refine xw6_1p_hunger (pc' := 60) K hinX6_pig_X5 uX6_pig_f132 dX6_pig_57 rfl (fun F57 eF57 => ?_)
      replace h := h F57 eF57
      refine x_iload_n (pc' := 61) K dX6_pig_60 3 rfl rfl ?_
      exact x_iret (wf := w6 cI cO a) K h dX6_pig_61
set_option maxHeartbeats 4000000 in
set_option maxRecDepth 100000 in
theorem mX6_pig (l : Launch) (D : va_G) (cI cO : ClassId) (a : Nat → Nat)  (x1 : Int32) (x2 : Int32) : MI l yX6_pig wsX6_pig rmX6_pig D (xtys cI cO) [.ref (a 0), .int x1, .int x2] (w6 cI cO a) (qX6_pig x1 x2) := by
  refine MI_of (cc := cX6_pig) (maxL := 4) (own := RX6) (by decide) rfl rfl (Nat.le_of_ble_eq_true rfl) ?_
  intro p e s m args below meth c A F G Q h K
  refine x_locals [0, 1, 2] (L' := [(0, .ref (a 0)), (1, .int _), (2, .int _)]) rfl ?_
  refine x_iload_n (pc' := 1) K dX6_pig_0 1 rfl rfl ?_
  refine x_if_ne (tgt := 29) (pc' := 4) K dX6_pig_1 rfl rfl (fun c1 => ?_) (fun c1 => ?_)
  · replace h := h.1 c1
    exact tX6_pig_29 K _ _ _ _ h
  · replace h := h.2 c1
    refine x_iload_n (pc' := 5) K dX6_pig_4 2 rfl rfl ?_
    refine x_callS (pc' := 8) K (mX6_isOak l D cI cO a _) rfl gX6_pig_X6_isOak dsX6_isOak ⟨rfl, rfl, ⟨Nat.le_of_ble_eq_true rfl, Nat.le_of_ble_eq_true rfl⟩, Nat.le_of_ble_eq_true rfl, Nat.le_of_ble_eq_true rfl⟩ h (st := []) rfl rfl (Nat.le_of_ble_eq_true rfl) dX6_pig_5 rfl (fun r5 h => ?_)
    refine x_if_eq (tgt := 29) (pc' := 11) K dX6_pig_8 rfl rfl (fun c8 => ?_) (fun c8 => ?_)
    · replace h := h.1 c8
      exact tX6_pig_29 K _ _ _ _ h
    · replace h := h.2 c8
      refine x_aload_n (pc' := 12) K dX6_pig_11 0 rfl rfl ?_
      refine xw6_0g_now (pc' := 15) K hinX6_pig_X6 uX6_pig_f10 dX6_pig_12 rfl ?_
      refine xw6_1g_place (pc' := 18) K hinX6_pig_X5 uX6_pig_f129 dX6_pig_15 rfl ?_
      refine x_istore_n (pc' := 19) (i := 3) K dX6_pig_18 rfl (by decide) [1, 2, 3, 0] (L' := [(0, .ref (a 0)), (1, .int _), (2, .int _), (3, .int _)]) rfl rfl ?_
      refine x_aload_n (pc' := 20) K dX6_pig_19 0 rfl rfl ?_
      refine xw6_0g_now (pc' := 23) K hinX6_pig_X6 uX6_pig_f10 dX6_pig_20 rfl ?_
      refine x_iload_n (pc' := 24) K dX6_pig_23 2 rfl rfl ?_
      refine xw6_1p_place (pc' := 27) K hinX6_pig_X5 uX6_pig_f129 dX6_pig_24 rfl (fun F24 eF24 => ?_)
      replace h := h F24 eF24
      refine x_iload_n (pc' := 28) K dX6_pig_27 3 rfl rfl ?_
      exact x_iret (wf := w6 cI cO a) K h dX6_pig_28
/-! X6_feed -/
set_option maxHeartbeats 4000000 in
set_option maxRecDepth 100000 in
theorem xpl25 (cI : ClassId) (cO : ClassId) (a : Nat → Nat) (F : xF) (G : xA) : (w6 cI cO a F G).Perm (List.flatMap (bw6 cI cO a F G) [0, 1, 2, 3, 4, 5, 6, 7, 8, 9, 10, 11, 12, 13, 14, 15, 16, 17, 18, 19, 20, 21, 22, 23, 24, 25, 26, 27, 28, 29, 30, 31, 32, 34, 35, 36, 37, 38, 39, 40, 41, 42, 43, 44, 45, 46, 47, 48, 49, 50, 51, 52, 53] ++ w1 60 cI (xsub a 77) (xsub F 29) (xsub G 56)) := xpermF (bf := bw6 cI cO a F G) (ns := [0, 1, 2, 3, 4, 5, 6, 7, 8, 9, 10, 11, 12, 13, 14, 15, 16, 17, 18, 19, 20, 21, 22, 23, 24, 25, 26, 27, 28, 29, 30, 31, 32, 33, 34, 35, 36, 37, 38, 39, 40, 41, 42, 43, 44, 45, 46, 47, 48, 49, 50, 51, 52, 53]) rfl [0, 1, 2, 3, 4, 5, 6, 7, 8, 9, 10, 11, 12, 13, 14, 15, 16, 17, 18, 19, 20, 21, 22, 23, 24, 25, 26, 27, 28, 29, 30, 31, 32, 34, 35, 36, 37, 38, 39, 40, 41, 42, 43, 44, 45, 46, 47, 48, 49, 50, 51, 52, 53] [33] (by decide +kernel) rfl rfl
set_option maxHeartbeats 4000000 in
set_option maxRecDepth 100000 in
theorem xpr25 (cI : ClassId) (cO : ClassId) (a : Nat → Nat) (F : xF) (G : xA) (F' : xF) (G' : xA) : (w6 cI cO a (xspl F 29 1 F') (xspl G 56 1 G')).Perm (List.flatMap (bw6 cI cO a F G) [0, 1, 2, 3, 4, 5, 6, 7, 8, 9, 10, 11, 12, 13, 14, 15, 16, 17, 18, 19, 20, 21, 22, 23, 24, 25, 26, 27, 28, 29, 30, 31, 32, 34, 35, 36, 37, 38, 39, 40, 41, 42, 43, 44, 45, 46, 47, 48, 49, 50, 51, 52, 53] ++ w1 60 cI (xsub a 77) F' G') := xpermF (bf := bw6 cI cO a (xspl F 29 1 F') (xspl G 56 1 G')) (ns := [0, 1, 2, 3, 4, 5, 6, 7, 8, 9, 10, 11, 12, 13, 14, 15, 16, 17, 18, 19, 20, 21, 22, 23, 24, 25, 26, 27, 28, 29, 30, 31, 32, 33, 34, 35, 36, 37, 38, 39, 40, 41, 42, 43, 44, 45, 46, 47, 48, 49, 50, 51, 52, 53]) rfl [0, 1, 2, 3, 4, 5, 6, 7, 8, 9, 10, 11, 12, 13, 14, 15, 16, 17, 18, 19, 20, 21, 22, 23, 24, 25, 26, 27, 28, 29, 30, 31, 32, 34, 35, 36, 37, 38, 39, 40, 41, 42, 43, 44, 45, 46, 47, 48, 49, 50, 51, 52, 53] [33] (by decide +kernel) rfl rfl
abbrev rmX6_feed : Room := { frames := 3, cells := 0, slots := 0, locals := 82 }
theorem dsX6_feed : xDesc yX6_feed 2 := by decide +kernel
theorem uX6_feed_f21 : Cond.fieldLink RX6 21 "PigNinths" "tape" "LPigNinths$Row;" ∈ wsX6_feed := nw_in nwl_X6_feed nwe_331 (by decide +kernel)
theorem hinX6_feed_X6 : ∀ w ∈ wsX60, w ∈ wsX6_feed := nw_all nwl_X6_feed nwl_X60 (by decide +kernel)
theorem uX6_feed_f135 : Cond.fieldLink RX6 135 "PigNinths$Row" "size" "I" ∈ wsX6_feed := nw_in nwl_X6_feed nwe_404 (by decide +kernel)
theorem hinX6_feed_X1 : ∀ w ∈ wsX10, w ∈ wsX6_feed := nw_all nwl_X6_feed nwl_X10 (by decide +kernel)
set_option maxHeartbeats 4000000 in
set_option maxRecDepth 100000 in
theorem tX6_feed_39 (K : XK p m c cX6_feed 5 s args wsX6_feed RX6 D (xtys cI cO) A meth (some .int)) {Q : Int32 → xF → xA → Prop} : ∀ (n : Nat), ∀ (x1 : Int64) (x3 : Int32) (x4 : Int32) (F : xF) (G : xA), qX6_feed_39 Q n x1 x3 x4 F G → XJ p l e rmX6_feed s m args below meth c 0 0 (MQ below (xQi D (w6 cI cO a) A Q) args s 0 0 A) D (xtys cI cO) A 5 (w6 cI cO a F G) 39 [(0, .ref (a 0)), (1, .long x1), (3, .int x3), (4, .int x4)] [] := by
  intro n
  induction n with
  | zero =>
    intro x1 x3 x4 F G h
    exact False.elim h
  | succ n ih =>
    intro x1 x3 x4 F G h
    refine x_iload (pc' := 41) K dX6_feed_39 3 rfl rfl ?_
    refine x_iload_n (pc' := 42) K dX6_feed_41 2 rfl rfl ?_
    refine x_icmp_ge (tgt := 70) (pc' := 45) K dX6_feed_42 rfl rfl (fun c42 => ?_) (fun c42 => ?_)
    · replace h := h.1 c42
      refine x_aload_n (pc' := 71) K dX6_feed_70 0 rfl rfl ?_
      refine xw6_0g_tape (pc' := 74) K hinX6_feed_X6 uX6_feed_f21 dX6_feed_71 rfl ?_
      refine xw6_77g_size (pc' := 77) K hinX6_feed_X1 uX6_feed_f135 dX6_feed_74 rfl ?_
      exact x_iret (wf := w6 cI cO a) K h dX6_feed_77
    · replace h := h.2 c42
      refine x_aload_n (pc' := 46) K dX6_feed_45 0 rfl rfl ?_
      refine xw6_0g_tape (pc' := 49) K hinX6_feed_X6 uX6_feed_f21 dX6_feed_46 rfl ?_
      refine x_lload_n (pc' := 50) K dX6_feed_49 1 rfl rfl ?_
      refine x_bipush (pc' := 52) (v := 8) K dX6_feed_50 (by decide) rfl ?_
      refine x_iload (pc' := 54) K dX6_feed_52 3 rfl rfl ?_
      refine x_imul (pc' := 55) K dX6_feed_54 rfl ?_
      refine x_lushr (pc' := 56) K dX6_feed_55 rfl ?_
      refine x_l2i (pc' := 57) K dX6_feed_56 rfl ?_
      refine x_sipush (pc' := 60) (v := 255) K dX6_feed_57 (by decide) rfl ?_
      refine x_iand (pc' := 61) K dX6_feed_60 rfl ?_
      refine x_subV (pc' := 64) (wn := fun F' G' => w6 cI cO a (xspl F 29 1 F') (xspl G 56 1 G')) K (mX1_append l D cI cO (xsub a 77) 60 _) rfl gX6_feed_X1_append rfl dsX1_append ⟨rfl, rfl, ⟨Nat.le_of_ble_eq_true rfl, Nat.le_of_ble_eq_true rfl⟩, Nat.le_of_ble_eq_true rfl, Nat.le_of_ble_eq_true rfl⟩ h 1 0 rfl rfl (xpl25 cI cO a _ _) (fun F' G' => xpr25 cI cO a _ _ F' G') (st := []) rfl rfl (Nat.le_of_ble_eq_true rfl) dX6_feed_61 rfl (fun F61 G61 h => ?_)
      obtain ⟨E61, eE61⟩ : ∃ x : xF, x = (xspl F 29 1 F61) := ⟨_, rfl⟩
      obtain ⟨H61, eH61⟩ : ∃ x : xA, x = (xspl G 56 1 G61) := ⟨_, rfl⟩
      refine x_weq (w' := w6 cI cO a E61 H61) (by subst eE61; subst eH61; rfl) ?_
      replace h := h E61 eE61
      replace h := h H61 eH61
      refine x_iinc (pc' := 67) (v := _ + (1 : Int32)) K dX6_feed_64 3 rfl rfl (by decide) [1, 2, 3, 0] (L' := [(0, .ref (a 0)), (1, .long _), (3, .int _), (4, .int _)]) rfl rfl ?_
      refine x_goto (tgt := 39) K dX6_feed_67 rfl ?_
      exact ih _ _ _ _ _ h
set_option maxHeartbeats 4000000 in
set_option maxRecDepth 100000 in
theorem mX6_feed (l : Launch) (D : va_G) (cI cO : ClassId) (a : Nat → Nat)  (x1 : Int64) (x3 : Int32) : MI l yX6_feed wsX6_feed rmX6_feed D (xtys cI cO) [.ref (a 0), .long x1, .int x3] (w6 cI cO a) (qX6_feed x1 x3) := by
  refine MI_of (cc := cX6_feed) (maxL := 5) (own := RX6) (by decide) rfl rfl (Nat.le_of_ble_eq_true rfl) ?_
  intro p e s m args below meth c A F G Q h K
  refine x_locals [0, 1, 2] (L' := [(0, .ref (a 0)), (1, .long _), (3, .int _)]) rfl ?_
  refine x_iload_n (pc' := 1) K dX6_feed_0 2 rfl rfl ?_
  refine x_iconst (pc' := 2) (v := 1) K dX6_feed_1 (by decide) rfl ?_
  refine x_bipush (pc' := 4) (v := 8) K dX6_feed_2 (by decide) rfl ?_
  refine x_callS (pc' := 7) K (mX6_within l D cI cO a _ _ _) rfl gX6_feed_X6_within dsX6_within ⟨rfl, rfl, ⟨Nat.le_of_ble_eq_true rfl, Nat.le_of_ble_eq_true rfl⟩, Nat.le_of_ble_eq_true rfl, Nat.le_of_ble_eq_true rfl⟩ h (st := []) rfl rfl (Nat.le_of_ble_eq_true rfl) dX6_feed_4 rfl (fun r4 h => ?_)
  refine x_if_ne (tgt := 16) (pc' := 10) K dX6_feed_7 rfl rfl (fun c7 => ?_) (fun c7 => ?_)
  · replace h := h.1 c7
    refine x_aload_n (pc' := 17) K dX6_feed_16 0 rfl rfl ?_
    refine xw6_0g_tape (pc' := 20) K hinX6_feed_X6 uX6_feed_f21 dX6_feed_17 rfl ?_
    refine xw6_77g_size (pc' := 23) K hinX6_feed_X1 uX6_feed_f135 dX6_feed_20 rfl ?_
    refine x_iload_n (pc' := 24) K dX6_feed_23 2 rfl rfl ?_
    refine x_iadd (pc' := 25) K dX6_feed_24 rfl ?_
    refine x_bipush (pc' := 27) (v := 60) K dX6_feed_25 (by decide) rfl ?_
    refine x_icmp_le (tgt := 36) (pc' := 30) K dX6_feed_27 rfl rfl (fun c27 => ?_) (fun c27 => ?_)
    · replace h := h.1 c27
      refine x_iconst (pc' := 37) (v := 0) K dX6_feed_36 (by decide) rfl ?_
      refine x_istore (pc' := 39) (i := 4) K dX6_feed_37 (by decide) [1, 2, 3, 0] (L' := [(0, .ref (a 0)), (1, .long _), (3, .int _), (4, .int _)]) rfl rfl ?_
      obtain ⟨n39, h⟩ := h
      exact tX6_feed_39 K n39 _ _ _ _ _ h
    · replace h := h.2 c27
      refine x_aload_n (pc' := 31) K dX6_feed_30 0 rfl rfl ?_
      refine x_iconst (pc' := 32) (v := 4) K dX6_feed_31 (by decide) rfl ?_
      refine x_callI (pc' := 35) K (mX6_error l D cI cO a _) rfl gX6_feed_X6_error rfl dsX6_error ⟨rfl, rfl, ⟨Nat.le_of_ble_eq_true rfl, Nat.le_of_ble_eq_true rfl⟩, Nat.le_of_ble_eq_true rfl, Nat.le_of_ble_eq_true rfl⟩ h 6 0 rfl rfl (st := []) rfl rfl (Nat.le_of_ble_eq_true rfl) dX6_feed_32 rfl (fun r32 F32 G32 h => ?_)
      exact x_iret (wf := w6 cI cO a) K h dX6_feed_35
  · replace h := h.2 c7
    refine x_aload_n (pc' := 11) K dX6_feed_10 0 rfl rfl ?_
    refine x_iconst (pc' := 12) (v := 1) K dX6_feed_11 (by decide) rfl ?_
    refine x_callI (pc' := 15) K (mX6_error l D cI cO a _) rfl gX6_feed_X6_error rfl dsX6_error ⟨rfl, rfl, ⟨Nat.le_of_ble_eq_true rfl, Nat.le_of_ble_eq_true rfl⟩, Nat.le_of_ble_eq_true rfl, Nat.le_of_ble_eq_true rfl⟩ h 6 0 rfl rfl (st := []) rfl rfl (Nat.le_of_ble_eq_true rfl) dX6_feed_12 rfl (fun r12 F12 G12 h => ?_)
    exact x_iret (wf := w6 cI cO a) K h dX6_feed_15
end
