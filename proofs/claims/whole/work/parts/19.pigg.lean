section
variable {p : Program} {l : Launch} {e : Env} {s : State} {m : MethodId} {args : Array Value} {below : List Frame} {meth : Method} {c : Code} {D : va_G} {cI cO : ClassId} {A : Nat → Prop} {a : Nat → Nat} {d : Nat}
/-! X6_count -/
abbrev rmX6_count : Room := { frames := 3, cells := 0, slots := 0, locals := 85 }
theorem dsX6_count : xDesc yX6_count 1 := by decide +kernel
theorem uX6_count_f10 : Cond.fieldLink RX6 10 "PigNinths" "now" "LPigNinths$World;" ∈ wsX6_count := by decide +kernel
theorem hinX6_count_X6 : ∀ w ∈ wsX60, w ∈ wsX6_count := by decide +kernel
theorem uX6_count_f163 : Cond.fieldLink RX6 163 "PigNinths$World" "day" "I" ∈ wsX6_count := by decide +kernel
theorem hinX6_count_X5 : ∀ w ∈ wsX50, w ∈ wsX6_count := by decide +kernel
theorem uX6_count_f129 : Cond.fieldLink RX6 129 "PigNinths$World" "place" "I" ∈ wsX6_count := by decide +kernel
theorem uX6_count_f132 : Cond.fieldLink RX6 132 "PigNinths$World" "hunger" "I" ∈ wsX6_count := by decide +kernel
theorem uX6_count_f102 : Cond.fieldLink RX6 102 "PigNinths$World" "rain" "I" ∈ wsX6_count := by decide +kernel
theorem uX6_count_f96 : Cond.fieldLink RX6 96 "PigNinths$World" "under" "[I" ∈ wsX6_count := by decide +kernel
theorem uX6_count_f195 : Cond.fieldLink RX6 195 "PigNinths$World" "purse" "[I" ∈ wsX6_count := by decide +kernel
theorem uX6_count_f257 : Cond.fieldLink RX6 257 "PigNinths$World" "hid" "[I" ∈ wsX6_count := by decide +kernel
theorem uX6_count_f21 : Cond.fieldLink RX6 21 "PigNinths" "tape" "LPigNinths$Row;" ∈ wsX6_count := by decide +kernel
theorem uX6_count_f135 : Cond.fieldLink RX6 135 "PigNinths$Row" "size" "I" ∈ wsX6_count := by decide +kernel
theorem hinX6_count_X1 : ∀ w ∈ wsX10, w ∈ wsX6_count := by decide +kernel
theorem uX6_count_f25 : Cond.fieldLink RX6 25 "PigNinths" "waiting" "LPigNinths$Row;" ∈ wsX6_count := by decide +kernel
theorem uX6_count_f64 : Cond.fieldLink RX6 64 "PigNinths" "voices" "LPigNinths$Voices;" ∈ wsX6_count := by decide +kernel
theorem uX6_count_f225 : Cond.fieldLink RX6 225 "PigNinths$Voices" "trace" "LPigNinths$Row;" ∈ wsX6_count := by decide +kernel
theorem hinX6_count_X4 : ∀ w ∈ wsX40, w ∈ wsX6_count := by decide +kernel
theorem uX6_count_f175 : Cond.fieldLink RX6 175 "PigNinths$World" "drawn" "I" ∈ wsX6_count := by decide +kernel
def qX6_count (x1 : Int32) (F : xF) (G : xA) (Q : Int32 → xF → xA → Prop) : Prop := ((x1 = (0 : Int32) → Q (F 3) F G) ∧ (¬ x1 = (0 : Int32) → ((x1 = (1 : Int32) → qX5_whoHasIt  (xsub F 0) (xsub G 0) (fun r76 F76 G76 => (∀ E76 : xF, E76 = (xspl F 0 7 F76) → (∀ H76 : xA, H76 = (xspl G 0 14 G76) → Q r76 E76 H76)))) ∧ (¬ x1 = (1 : Int32) → ((x1 = (2 : Int32) → Q (F 1) F G) ∧ (¬ x1 = (2 : Int32) → ((x1 = (3 : Int32) → Q (F 2) F G) ∧ (¬ x1 = (3 : Int32) → ((x1 = (4 : Int32) → Q (F 0) F G) ∧ (¬ x1 = (4 : Int32) → ((x1 = (5 : Int32) → qX6_sum_2  (xsub F 0) (xsub G 0) (fun r111 F111 G111 => (∀ E111 : xF, E111 = (xspl F 0 7 F111) → (∀ H111 : xA, H111 = (xspl G 0 14 G111) → Q r111 E111 H111)))) ∧ (¬ x1 = (5 : Int32) → ((x1 = (6 : Int32) → qX6_sum_5  (xsub F 0) (xsub G 0) (fun r122 F122 G122 => (∀ E122 : xF, E122 = (xspl F 0 7 F122) → (∀ H122 : xA, H122 = (xspl G 0 14 G122) → Q r122 E122 H122)))) ∧ (¬ x1 = (6 : Int32) → ((x1 = (7 : Int32) → qX6_sum_6  (xsub F 0) (xsub G 0) (fun r133 F133 G133 => (∀ E133 : xF, E133 = (xspl F 0 7 F133) → (∀ H133 : xA, H133 = (xspl G 0 14 G133) → Q r133 E133 H133)))) ∧ (¬ x1 = (7 : Int32) → ((x1 = (8 : Int32) → Q (F 29) F G) ∧ (¬ x1 = (8 : Int32) → ((x1 = (9 : Int32) → Q (F 30) F G) ∧ (¬ x1 = (9 : Int32) → ((x1 = (10 : Int32) → Q (F 41) F G) ∧ (¬ x1 = (10 : Int32) → ((x1 = (11 : Int32) → Q (F 4) F G) ∧ (¬ x1 = (11 : Int32) → qX6_error (1 : Int32) F G (fun r174 F174 G174 => Q r174 F174 G174)))))))))))))))))))))))))
set_option maxHeartbeats 4000000 in
set_option maxRecDepth 100000 in
theorem mX6_count (l : Launch) (D : va_G) (cI cO : ClassId) (a : Nat → Nat)  (x1 : Int32) : MI l yX6_count wsX6_count rmX6_count D (xtys cI cO) [.ref (a 0), .int x1] (w6 cI cO a) (qX6_count x1) := by
  refine MI_of (cc := cX6_count) (maxL := 2) (own := RX6) (by decide) rfl rfl (Nat.le_of_ble_eq_true rfl) ?_
  intro p e s m args below meth c A F G Q h K
  refine x_locals [0, 1] (L' := [(0, .ref (a 0)), (1, .int _)]) rfl ?_
  refine x_iload_n (pc' := 1) K dX6_count_0 1 rfl rfl ?_
  refine (Classical.em (x1 = (0 : Int32))).elim (fun e1 => ?_) (fun e1_1 => ?_)
  · replace h := h.1 e1
    refine x_tableIn (tgt := 64) (off := 63) K dX6_count_1 (by rw [e1]; decide) (by rw [e1]; decide) (by rw [e1]; rfl) rfl ?_
    refine x_aload_n (pc' := 65) K dX6_count_64 0 rfl rfl ?_
    refine xw6_0g_now (pc' := 68) K hinX6_count_X6 uX6_count_f10 dX6_count_65 rfl ?_
    refine xw6_1g_day (pc' := 71) K hinX6_count_X5 uX6_count_f163 dX6_count_68 rfl ?_
    exact x_iret (wf := w6 cI cO a) K h dX6_count_71
  · replace h := h.2 e1_1
    refine (Classical.em (x1 = (1 : Int32))).elim (fun e1 => ?_) (fun e1_2 => ?_)
    · replace h := h.1 e1
      refine x_tableIn (tgt := 72) (off := 71) K dX6_count_1 (by rw [e1]; decide) (by rw [e1]; decide) (by rw [e1]; rfl) rfl ?_
      refine x_aload_n (pc' := 73) K dX6_count_72 0 rfl rfl ?_
      refine xw6_0g_now (pc' := 76) K hinX6_count_X6 uX6_count_f10 dX6_count_73 rfl ?_
      refine x_subI (pc' := 79) (wn := fun F' G' => w6 cI cO a (xspl F 0 7 F') (xspl G 0 14 G')) K (mX5_whoHasIt l D cI cO (xsub a 1)) rfl gX6_count_X5_whoHasIt rfl dsX5_whoHasIt ⟨rfl, rfl, ⟨Nat.le_of_ble_eq_true rfl, Nat.le_of_ble_eq_true rfl⟩, Nat.le_of_ble_eq_true rfl, Nat.le_of_ble_eq_true rfl⟩ h 5 0 rfl rfl (xpl24 cI cO a _ _) (fun F' G' => xpr24 cI cO a _ _ F' G') (st := []) rfl rfl (Nat.le_of_ble_eq_true rfl) dX6_count_76 rfl (fun r76 F76 G76 h => ?_)
      obtain ⟨E76, eE76⟩ : ∃ x : xF, x = (xspl F 0 7 F76) := ⟨_, rfl⟩
      obtain ⟨H76, eH76⟩ : ∃ x : xA, x = (xspl G 0 14 G76) := ⟨_, rfl⟩
      refine x_weq (w' := w6 cI cO a E76 H76) (by subst eE76; subst eH76; rfl) ?_
      replace h := h E76 eE76
      replace h := h H76 eH76
      exact x_iret (wf := w6 cI cO a) K h dX6_count_79
    · replace h := h.2 e1_2
      refine (Classical.em (x1 = (2 : Int32))).elim (fun e1 => ?_) (fun e1_3 => ?_)
      · replace h := h.1 e1
        refine x_tableIn (tgt := 80) (off := 79) K dX6_count_1 (by rw [e1]; decide) (by rw [e1]; decide) (by rw [e1]; rfl) rfl ?_
        refine x_aload_n (pc' := 81) K dX6_count_80 0 rfl rfl ?_
        refine xw6_0g_now (pc' := 84) K hinX6_count_X6 uX6_count_f10 dX6_count_81 rfl ?_
        refine xw6_1g_place (pc' := 87) K hinX6_count_X5 uX6_count_f129 dX6_count_84 rfl ?_
        exact x_iret (wf := w6 cI cO a) K h dX6_count_87
      · replace h := h.2 e1_3
        refine (Classical.em (x1 = (3 : Int32))).elim (fun e1 => ?_) (fun e1_4 => ?_)
        · replace h := h.1 e1
          refine x_tableIn (tgt := 88) (off := 87) K dX6_count_1 (by rw [e1]; decide) (by rw [e1]; decide) (by rw [e1]; rfl) rfl ?_
          refine x_aload_n (pc' := 89) K dX6_count_88 0 rfl rfl ?_
          refine xw6_0g_now (pc' := 92) K hinX6_count_X6 uX6_count_f10 dX6_count_89 rfl ?_
          refine xw6_1g_hunger (pc' := 95) K hinX6_count_X5 uX6_count_f132 dX6_count_92 rfl ?_
          exact x_iret (wf := w6 cI cO a) K h dX6_count_95
        · replace h := h.2 e1_4
          refine (Classical.em (x1 = (4 : Int32))).elim (fun e1 => ?_) (fun e1_5 => ?_)
          · replace h := h.1 e1
            refine x_tableIn (tgt := 96) (off := 95) K dX6_count_1 (by rw [e1]; decide) (by rw [e1]; decide) (by rw [e1]; rfl) rfl ?_
            refine x_aload_n (pc' := 97) K dX6_count_96 0 rfl rfl ?_
            refine xw6_0g_now (pc' := 100) K hinX6_count_X6 uX6_count_f10 dX6_count_97 rfl ?_
            refine xw6_1g_rain (pc' := 103) K hinX6_count_X5 uX6_count_f102 dX6_count_100 rfl ?_
            exact x_iret (wf := w6 cI cO a) K h dX6_count_103
          · replace h := h.2 e1_5
            refine (Classical.em (x1 = (5 : Int32))).elim (fun e1 => ?_) (fun e1_6 => ?_)
            · replace h := h.1 e1
              refine x_tableIn (tgt := 104) (off := 103) K dX6_count_1 (by rw [e1]; decide) (by rw [e1]; decide) (by rw [e1]; rfl) rfl ?_
              refine x_aload_n (pc' := 105) K dX6_count_104 0 rfl rfl ?_
              refine xw6_0g_now (pc' := 108) K hinX6_count_X6 uX6_count_f10 dX6_count_105 rfl ?_
              refine xw6_1g_under (pc' := 111) K hinX6_count_X5 uX6_count_f96 dX6_count_108 rfl ?_
              refine x_subIS (pc' := 114) (wn := fun F' G' => w6 cI cO a (xspl F 0 7 F') (xspl G 0 14 G')) K (mX6_sum_2 l D cI cO (xsub a 1)) rfl gX6_count_X6_sum dsX6_sum ⟨rfl, rfl, ⟨Nat.le_of_ble_eq_true rfl, Nat.le_of_ble_eq_true rfl⟩, Nat.le_of_ble_eq_true rfl, Nat.le_of_ble_eq_true rfl⟩ h (xpl24 cI cO a _ _) (fun F' G' => xpr24 cI cO a _ _ F' G') (st := []) rfl rfl (Nat.le_of_ble_eq_true rfl) dX6_count_111 rfl (fun r111 F111 G111 h => ?_)
              obtain ⟨E111, eE111⟩ : ∃ x : xF, x = (xspl F 0 7 F111) := ⟨_, rfl⟩
              obtain ⟨H111, eH111⟩ : ∃ x : xA, x = (xspl G 0 14 G111) := ⟨_, rfl⟩
              refine x_weq (w' := w6 cI cO a E111 H111) (by subst eE111; subst eH111; rfl) ?_
              replace h := h E111 eE111
              replace h := h H111 eH111
              exact x_iret (wf := w6 cI cO a) K h dX6_count_114
            · replace h := h.2 e1_6
              refine (Classical.em (x1 = (6 : Int32))).elim (fun e1 => ?_) (fun e1_7 => ?_)
              · replace h := h.1 e1
                refine x_tableIn (tgt := 115) (off := 114) K dX6_count_1 (by rw [e1]; decide) (by rw [e1]; decide) (by rw [e1]; rfl) rfl ?_
                refine x_aload_n (pc' := 116) K dX6_count_115 0 rfl rfl ?_
                refine xw6_0g_now (pc' := 119) K hinX6_count_X6 uX6_count_f10 dX6_count_116 rfl ?_
                refine xw6_1g_purse (pc' := 122) K hinX6_count_X5 uX6_count_f195 dX6_count_119 rfl ?_
                refine x_subIS (pc' := 125) (wn := fun F' G' => w6 cI cO a (xspl F 0 7 F') (xspl G 0 14 G')) K (mX6_sum_5 l D cI cO (xsub a 1)) rfl gX6_count_X6_sum dsX6_sum ⟨rfl, rfl, ⟨Nat.le_of_ble_eq_true rfl, Nat.le_of_ble_eq_true rfl⟩, Nat.le_of_ble_eq_true rfl, Nat.le_of_ble_eq_true rfl⟩ h (xpl24 cI cO a _ _) (fun F' G' => xpr24 cI cO a _ _ F' G') (st := []) rfl rfl (Nat.le_of_ble_eq_true rfl) dX6_count_122 rfl (fun r122 F122 G122 h => ?_)
                obtain ⟨E122, eE122⟩ : ∃ x : xF, x = (xspl F 0 7 F122) := ⟨_, rfl⟩
                obtain ⟨H122, eH122⟩ : ∃ x : xA, x = (xspl G 0 14 G122) := ⟨_, rfl⟩
                refine x_weq (w' := w6 cI cO a E122 H122) (by subst eE122; subst eH122; rfl) ?_
                replace h := h E122 eE122
                replace h := h H122 eH122
                exact x_iret (wf := w6 cI cO a) K h dX6_count_125
              · replace h := h.2 e1_7
                refine (Classical.em (x1 = (7 : Int32))).elim (fun e1 => ?_) (fun e1_8 => ?_)
                · replace h := h.1 e1
                  refine x_tableIn (tgt := 126) (off := 125) K dX6_count_1 (by rw [e1]; decide) (by rw [e1]; decide) (by rw [e1]; rfl) rfl ?_
                  refine x_aload_n (pc' := 127) K dX6_count_126 0 rfl rfl ?_
                  refine xw6_0g_now (pc' := 130) K hinX6_count_X6 uX6_count_f10 dX6_count_127 rfl ?_
                  refine xw6_1g_hid (pc' := 133) K hinX6_count_X5 uX6_count_f257 dX6_count_130 rfl ?_
                  refine x_subIS (pc' := 136) (wn := fun F' G' => w6 cI cO a (xspl F 0 7 F') (xspl G 0 14 G')) K (mX6_sum_6 l D cI cO (xsub a 1)) rfl gX6_count_X6_sum dsX6_sum ⟨rfl, rfl, ⟨Nat.le_of_ble_eq_true rfl, Nat.le_of_ble_eq_true rfl⟩, Nat.le_of_ble_eq_true rfl, Nat.le_of_ble_eq_true rfl⟩ h (xpl24 cI cO a _ _) (fun F' G' => xpr24 cI cO a _ _ F' G') (st := []) rfl rfl (Nat.le_of_ble_eq_true rfl) dX6_count_133 rfl (fun r133 F133 G133 h => ?_)
                  obtain ⟨E133, eE133⟩ : ∃ x : xF, x = (xspl F 0 7 F133) := ⟨_, rfl⟩
                  obtain ⟨H133, eH133⟩ : ∃ x : xA, x = (xspl G 0 14 G133) := ⟨_, rfl⟩
                  refine x_weq (w' := w6 cI cO a E133 H133) (by subst eE133; subst eH133; rfl) ?_
                  replace h := h E133 eE133
                  replace h := h H133 eH133
                  exact x_iret (wf := w6 cI cO a) K h dX6_count_136
                · replace h := h.2 e1_8
                  refine (Classical.em (x1 = (8 : Int32))).elim (fun e1 => ?_) (fun e1_9 => ?_)
                  · replace h := h.1 e1
                    refine x_tableIn (tgt := 137) (off := 136) K dX6_count_1 (by rw [e1]; decide) (by rw [e1]; decide) (by rw [e1]; rfl) rfl ?_
                    refine x_aload_n (pc' := 138) K dX6_count_137 0 rfl rfl ?_
                    refine xw6_0g_tape (pc' := 141) K hinX6_count_X6 uX6_count_f21 dX6_count_138 rfl ?_
                    refine xw6_77g_size (pc' := 144) K hinX6_count_X1 uX6_count_f135 dX6_count_141 rfl ?_
                    exact x_iret (wf := w6 cI cO a) K h dX6_count_144
                  · replace h := h.2 e1_9
                    refine (Classical.em (x1 = (9 : Int32))).elim (fun e1 => ?_) (fun e1_10 => ?_)
                    · replace h := h.1 e1
                      refine x_tableIn (tgt := 145) (off := 144) K dX6_count_1 (by rw [e1]; decide) (by rw [e1]; decide) (by rw [e1]; rfl) rfl ?_
                      refine x_aload_n (pc' := 146) K dX6_count_145 0 rfl rfl ?_
                      refine xw6_0g_waiting (pc' := 149) K hinX6_count_X6 uX6_count_f25 dX6_count_146 rfl ?_
                      refine xw6_79g_size (pc' := 152) K hinX6_count_X1 uX6_count_f135 dX6_count_149 rfl ?_
                      exact x_iret (wf := w6 cI cO a) K h dX6_count_152
                    · replace h := h.2 e1_10
                      refine (Classical.em (x1 = (10 : Int32))).elim (fun e1 => ?_) (fun e1_11 => ?_)
                      · replace h := h.1 e1
                        refine x_tableIn (tgt := 153) (off := 152) K dX6_count_1 (by rw [e1]; decide) (by rw [e1]; decide) (by rw [e1]; rfl) rfl ?_
                        refine x_aload_n (pc' := 154) K dX6_count_153 0 rfl rfl ?_
                        refine xw6_0g_voices (pc' := 157) K hinX6_count_X6 uX6_count_f64 dX6_count_154 rfl ?_
                        refine xw6_93g_trace (pc' := 160) K hinX6_count_X4 uX6_count_f225 dX6_count_157 rfl ?_
                        refine xw6_94g_size (pc' := 163) K hinX6_count_X1 uX6_count_f135 dX6_count_160 rfl ?_
                        exact x_iret (wf := w6 cI cO a) K h dX6_count_163
                      · replace h := h.2 e1_11
                        refine (Classical.em (x1 = (11 : Int32))).elim (fun e1 => ?_) (fun e1_12 => ?_)
                        · replace h := h.1 e1
                          refine x_tableIn (tgt := 164) (off := 163) K dX6_count_1 (by rw [e1]; decide) (by rw [e1]; decide) (by rw [e1]; rfl) rfl ?_
                          refine x_aload_n (pc' := 165) K dX6_count_164 0 rfl rfl ?_
                          refine xw6_0g_now (pc' := 168) K hinX6_count_X6 uX6_count_f10 dX6_count_165 rfl ?_
                          refine xw6_1g_drawn (pc' := 171) K hinX6_count_X5 uX6_count_f175 dX6_count_168 rfl ?_
                          exact x_iret (wf := w6 cI cO a) K h dX6_count_171
                        · replace h := h.2 e1_12
                          have f1_1 := xtin (i := 0) e1_1 (by decide)
                          have f1_2 := xtin (i := 1) e1_2 (by decide)
                          have f1_3 := xtin (i := 2) e1_3 (by decide)
                          have f1_4 := xtin (i := 3) e1_4 (by decide)
                          have f1_5 := xtin (i := 4) e1_5 (by decide)
                          have f1_6 := xtin (i := 5) e1_6 (by decide)
                          have f1_7 := xtin (i := 6) e1_7 (by decide)
                          have f1_8 := xtin (i := 7) e1_8 (by decide)
                          have f1_9 := xtin (i := 8) e1_9 (by decide)
                          have f1_10 := xtin (i := 9) e1_10 (by decide)
                          have f1_11 := xtin (i := 10) e1_11 (by decide)
                          have f1_12 := xtin (i := 11) e1_12 (by decide)
                          refine (Classical.em (x1.toInt < 0 ∨ 11 < x1.toInt)).elim (fun g1 => ?_) (fun g1 => ?_)
                          · refine x_tableOut (tgt := 172) K dX6_count_1 g1 rfl ?_
                            refine x_aload_n (pc' := 173) K dX6_count_172 0 rfl rfl ?_
                            refine x_iconst (pc' := 174) (v := 1) K dX6_count_173 (by decide) rfl ?_
                            refine x_callI (pc' := 177) K (mX6_error l D cI cO a _) rfl gX6_count_X6_error rfl dsX6_error ⟨rfl, rfl, ⟨Nat.le_of_ble_eq_true rfl, Nat.le_of_ble_eq_true rfl⟩, Nat.le_of_ble_eq_true rfl, Nat.le_of_ble_eq_true rfl⟩ h 6 0 rfl rfl (st := []) rfl rfl (Nat.le_of_ble_eq_true rfl) dX6_count_174 rfl (fun r174 F174 G174 h => ?_)
                            exact x_iret (wf := w6 cI cO a) K h dX6_count_177
                          · exact absurd g1 (by omega)
/-! X6_told -/
abbrev rmX6_told : Room := { frames := 3, cells := 0, slots := 0, locals := 82 }
theorem dsX6_told : xDesc yX6_told 1 := by decide +kernel
theorem uX6_told_f74 : Cond.fieldLink RX6 74 "PigNinths" "errors" "[I" ∈ wsX6_told := by decide +kernel
theorem hinX6_told_X6 : ∀ w ∈ wsX60, w ∈ wsX6_told := by decide +kernel
def qX6_told (x1 : Int32) (F : xF) (G : xA) (Q : Int32 → xF → xA → Prop) : Prop := qX6_within x1 (1 : Int32) (6 : Int32) (fun r4 => ((¬ r4 = 0 → (vp_in x1 7) ∧ Q (G 62 x1.toNatClampNeg) F G) ∧ (r4 = 0 → qX6_error (1 : Int32) F G (fun r12 F12 G12 => Q r12 F12 G12))))
set_option maxHeartbeats 4000000 in
set_option maxRecDepth 100000 in
theorem mX6_told (l : Launch) (D : va_G) (cI cO : ClassId) (a : Nat → Nat)  (x1 : Int32) : MI l yX6_told wsX6_told rmX6_told D (xtys cI cO) [.ref (a 0), .int x1] (w6 cI cO a) (qX6_told x1) := by
  refine MI_of (cc := cX6_told) (maxL := 2) (own := RX6) (by decide) rfl rfl (Nat.le_of_ble_eq_true rfl) ?_
  intro p e s m args below meth c A F G Q h K
  refine x_locals [0, 1] (L' := [(0, .ref (a 0)), (1, .int _)]) rfl ?_
  refine x_iload_n (pc' := 1) K dX6_told_0 1 rfl rfl ?_
  refine x_iconst (pc' := 2) (v := 1) K dX6_told_1 (by decide) rfl ?_
  refine x_bipush (pc' := 4) (v := 6) K dX6_told_2 (by decide) rfl ?_
  refine x_callS (pc' := 7) K (mX6_within l D cI cO a _ _ _) rfl gX6_told_X6_within dsX6_within ⟨rfl, rfl, ⟨Nat.le_of_ble_eq_true rfl, Nat.le_of_ble_eq_true rfl⟩, Nat.le_of_ble_eq_true rfl, Nat.le_of_ble_eq_true rfl⟩ h (st := []) rfl rfl (Nat.le_of_ble_eq_true rfl) dX6_told_4 rfl (fun r4 h => ?_)
  refine x_if_ne (tgt := 16) (pc' := 10) K dX6_told_7 rfl rfl (fun c7 => ?_) (fun c7 => ?_)
  · replace h := h.1 c7
    refine x_aload_n (pc' := 17) K dX6_told_16 0 rfl rfl ?_
    refine xw6_0g_errors (pc' := 20) K hinX6_told_X6 uX6_told_f74 dX6_told_17 rfl ?_
    refine x_iload_n (pc' := 21) K dX6_told_20 1 rfl rfl ?_
    obtain ⟨i21, h⟩ := h
    refine xw6_87l (pc' := 22) K i21 rfl dX6_told_21 rfl ?_
    exact x_iret (wf := w6 cI cO a) K h dX6_told_22
  · replace h := h.2 c7
    refine x_aload_n (pc' := 11) K dX6_told_10 0 rfl rfl ?_
    refine x_iconst (pc' := 12) (v := 1) K dX6_told_11 (by decide) rfl ?_
    refine x_callI (pc' := 15) K (mX6_error l D cI cO a _) rfl gX6_told_X6_error rfl dsX6_error ⟨rfl, rfl, ⟨Nat.le_of_ble_eq_true rfl, Nat.le_of_ble_eq_true rfl⟩, Nat.le_of_ble_eq_true rfl, Nat.le_of_ble_eq_true rfl⟩ h 6 0 rfl rfl (st := []) rfl rfl (Nat.le_of_ble_eq_true rfl) dX6_told_12 rfl (fun r12 F12 G12 h => ?_)
    exact x_iret (wf := w6 cI cO a) K h dX6_told_15
end
