section
variable {p : Program} {l : Launch} {e : Env} {s : State} {m : MethodId} {args : Array Value} {below : List Frame} {meth : Method} {c : Code} {D : va_G} {cI cO : ClassId} {A : Nat → Prop} {a : Nat → Nat} {d : Nat}
/-! X4_partedBy -/
abbrev rmX4_partedBy : Room := { frames := 2, cells := 0, slots := 0, locals := 60 }
theorem dsX4_partedBy : xDesc yX4_partedBy 2 := by decide +kernel
theorem uX4_partedBy_f20 : Cond.fieldLink RX4 20 "PigNinths$Voices" "parted" "Z" ∈ wsX4_partedBy := nw_in nwl_X4_partedBy nwe_199 (by decide +kernel)
theorem hinX4_partedBy_X4 : ∀ w ∈ wsX40, w ∈ wsX4_partedBy := nw_all nwl_X4_partedBy nwl_X40 (by decide +kernel)
set_option maxHeartbeats 4000000 in
set_option maxRecDepth 100000 in
theorem mX4_partedBy (l : Launch) (D : va_G) (cI cO : ClassId) (a : Nat → Nat)  (x1 : Int32) (x2 : Int32) : MI l yX4_partedBy wsX4_partedBy rmX4_partedBy D (xtys cI cO) [.ref (a 0), .int x1, .int x2] (w4 cI a) (qX4_partedBy x1 x2) := by
  refine MI_of (cc := cX4_partedBy) (maxL := 3) (own := RX4) (by decide) rfl rfl (Nat.le_of_ble_eq_true rfl) ?_
  intro p e s m args below meth c A F G Q h K
  refine x_locals [0, 1, 2] (L' := [(0, .ref (a 0)), (1, .int _), (2, .int _)]) rfl ?_
  refine x_iload_n (pc' := 1) K dX4_partedBy_0 2 rfl rfl ?_
  refine x_if_ne (tgt := 11) (pc' := 4) K dX4_partedBy_1 rfl rfl (fun c1 => ?_) (fun c1 => ?_)
  · replace h := h.1 c1
    refine x_iload_n (pc' := 12) K dX4_partedBy_11 1 rfl rfl ?_
    refine x_iload_n (pc' := 13) K dX4_partedBy_12 2 rfl rfl ?_
    obtain ⟨z13, h⟩ := h
    refine x_idiv (pc' := 14) K dX4_partedBy_13 z13 rfl ?_
    exact x_iret (wf := w4 cI a) K h dX4_partedBy_14
  · replace h := h.2 c1
    refine x_aload_n (pc' := 5) K dX4_partedBy_4 0 rfl rfl ?_
    refine x_iconst (pc' := 6) (v := 1) K dX4_partedBy_5 (by decide) rfl ?_
    refine xw4_0p_parted (pc' := 9) K hinX4_partedBy_X4 uX4_partedBy_f20 (Or.inr rfl) dX4_partedBy_6 rfl (fun F6 eF6 => ?_)
    replace h := h F6 eF6
    refine x_iconst (pc' := 10) (v := 0) K dX4_partedBy_9 (by decide) rfl ?_
    exact x_iret (wf := w4 cI a) K h dX4_partedBy_10
/-! X4_own -/
theorem dsX4_from : xDesc yX4_from 4 := by decide +kernel
theorem dsX4_own : xDesc yX4_own 3 := by decide +kernel
theorem uX4_own_f31 : Cond.fieldLink RX4 31 "PigNinths$Voices" "ownKind" "I" ∈ wsX4_own := nw_in nwl_X4_own nwe_202 (by decide +kernel)
theorem hinX4_own_X4 : ∀ w ∈ wsX40, w ∈ wsX4_own := nw_all nwl_X4_own nwl_X40 (by decide +kernel)
set_option maxHeartbeats 4000000 in
set_option maxRecDepth 100000 in
theorem mX4_own (l : Launch) (D : va_G) (cI cO : ClassId) (a : Nat → Nat) (d : Nat)  {wfrom : Int32 → Int32 → Int32 → Int32 → xF → xA → (Int32 → xF → xA → Prop) → Prop} (hmfrom : ∀ (x1 : Int32) (x2 : Int32) (x3 : Int32) (x4 : Int32), MI l yX4_from wsX4_from (xrd d 0) D (xtys cI cO) [.ref (a 0), .int x1, .int x2, .int x3, .int x4] (w4 cI a) (wfrom x1 x2 x3 x4)) (x1 : Int32) (x2 : Int32) (x3 : Int32) : MI l yX4_own wsX4_own (xrd d 1) D (xtys cI cO) [.ref (a 0), .int x1, .int x2, .int x3] (w4 cI a) (qX4_own wfrom x1 x2 x3) := by
  refine MI_of (cc := cX4_own) (maxL := 4) (own := RX4) (by decide) rfl rfl (Nat.le_of_ble_eq_true rfl) ?_
  intro p e s m args below meth c A F G Q h K
  refine x_locals [0, 1, 2, 3] (L' := [(0, .ref (a 0)), (1, .int _), (2, .int _), (3, .int _)]) rfl ?_
  refine x_aload_n (pc' := 1) K dX4_own_0 0 rfl rfl ?_
  refine x_aload_n (pc' := 2) K dX4_own_1 0 rfl rfl ?_
  refine xw4_0g_ownKind (pc' := 5) K hinX4_own_X4 uX4_own_f31 dX4_own_2 rfl ?_
  refine x_iload_n (pc' := 6) K dX4_own_5 1 rfl rfl ?_
  refine x_iload_n (pc' := 7) K dX4_own_6 2 rfl rfl ?_
  refine x_iload_n (pc' := 8) K dX4_own_7 3 rfl rfl ?_
  refine x_iconst (pc' := 9) (v := 1) K dX4_own_8 (by decide) rfl ?_
  refine x_iadd (pc' := 10) K dX4_own_9 rfl ?_
  refine x_callI (pc' := 13) K (hmfrom _ _ _ _) rfl gX4_own_X4_from rfl dsX4_from (by refine ⟨rfl, rfl, ⟨?_, ?_⟩, ?_, ?_⟩ <;> simp only [xrd] <;> omega) h 4 0 rfl rfl (st := []) rfl rfl (Nat.le_of_ble_eq_true rfl) dX4_own_10 rfl (fun r10 F10 G10 h => ?_)
  exact x_iret (wf := w4 cI a) K h dX4_own_13
/-! X4_above -/
theorem dsX4_above : xDesc yX4_above 4 := by decide +kernel
set_option maxHeartbeats 4000000 in
set_option maxRecDepth 100000 in
theorem mX4_above (l : Launch) (D : va_G) (cI cO : ClassId) (a : Nat → Nat) (d : Nat)  {wfrom : Int32 → Int32 → Int32 → Int32 → xF → xA → (Int32 → xF → xA → Prop) → Prop} (hmfrom : ∀ (x1 : Int32) (x2 : Int32) (x3 : Int32) (x4 : Int32), MI l yX4_from wsX4_from (xrd d 0) D (xtys cI cO) [.ref (a 0), .int x1, .int x2, .int x3, .int x4] (w4 cI a) (wfrom x1 x2 x3 x4)) (x1 : Int32) (x2 : Int32) (x3 : Int32) (x4 : Int32) : MI l yX4_above wsX4_above (xrd d 1) D (xtys cI cO) [.ref (a 0), .int x1, .int x2, .int x3, .int x4] (w4 cI a) (qX4_above wfrom x1 x2 x3 x4) := by
  refine MI_of (cc := cX4_above) (maxL := 5) (own := RX4) (by decide) rfl rfl (Nat.le_of_ble_eq_true rfl) ?_
  intro p e s m args below meth c A F G Q h K
  refine x_locals [0, 1, 2, 3, 4] (L' := [(0, .ref (a 0)), (1, .int _), (2, .int _), (3, .int _), (4, .int _)]) rfl ?_
  refine x_aload_n (pc' := 1) K dX4_above_0 0 rfl rfl ?_
  refine x_tabN (pc' := 4) K K.2.2.2.1.1 K.2.2.2.2.2.2.1 dX4_above_1 rfl (fun t1 ht1 => ?_)
  refine x_iload_n (pc' := 5) K dX4_above_4 1 rfl rfl ?_
  obtain ⟨i5, h⟩ := h
  refine x_tabi (pc' := 6) K ht1 i5 dX4_above_5 rfl ?_
  refine x_iload_n (pc' := 7) K dX4_above_6 2 rfl rfl ?_
  refine x_iload_n (pc' := 8) K dX4_above_7 3 rfl rfl ?_
  refine x_iload (pc' := 10) K dX4_above_8 4 rfl rfl ?_
  refine x_iconst (pc' := 11) (v := 1) K dX4_above_10 (by decide) rfl ?_
  refine x_iadd (pc' := 12) K dX4_above_11 rfl ?_
  refine x_callI (pc' := 15) K (hmfrom _ _ _ _) rfl gX4_above_X4_from rfl dsX4_from (by refine ⟨rfl, rfl, ⟨?_, ?_⟩, ?_, ?_⟩ <;> simp only [xrd] <;> omega) h 4 0 rfl rfl (st := []) rfl rfl (Nat.le_of_ble_eq_true rfl) dX4_above_12 rfl (fun r12 F12 G12 h => ?_)
  exact x_iret (wf := w4 cI a) K h dX4_above_15
/-! X4_workedOut -/
set_option maxHeartbeats 4000000 in
set_option maxRecDepth 100000 in
theorem xpl11 (cI : ClassId) (a : Nat → Nat) (F : xF) (G : xA) : (w4 cI a F G).Perm (xpick (bw4 cI a F G) [0] ++ w1 30 cI (xsub a 1) (xsub F 4) (xsub G 0)) := xperm0 (bl := bw4 cI a F G) (n := 2) rfl rfl [0] [1] (by decide +kernel) rfl rfl
set_option maxHeartbeats 4000000 in
set_option maxRecDepth 100000 in
theorem xpr11 (cI : ClassId) (a : Nat → Nat) (F : xF) (G : xA) (F' : xF) (G' : xA) : (w4 cI a (xspl F 4 1 F') (xspl G 0 1 G')).Perm (xpick (bw4 cI a F G) [0] ++ w1 30 cI (xsub a 1) F' G') := xperm0 (bl := bw4 cI a (xspl F 4 1 F') (xspl G 0 1 G')) (n := 2) rfl rfl [0] [1] (by decide +kernel) rfl rfl
theorem dsX4_workedOut : xDesc yX4_workedOut 4 := by decide +kernel
theorem uX4_workedOut_f20 : Cond.fieldLink RX4 20 "PigNinths$Voices" "parted" "Z" ∈ wsX4_workedOut := nw_in nwl_X4_workedOut nwe_199 (by decide +kernel)
theorem hinX4_workedOut_X4 : ∀ w ∈ wsX40, w ∈ wsX4_workedOut := nw_all nwl_X4_workedOut nwl_X40 (by decide +kernel)
theorem uX4_workedOut_f14 : Cond.fieldLink RX4 14 "PigNinths$Voices" "trace" "LPigNinths$Row;" ∈ wsX4_workedOut := nw_in nwl_X4_workedOut nwe_198 (by decide +kernel)
theorem uX4_workedOut_f24 : Cond.fieldLink RX4 24 "PigNinths$Voices" "k" "I" ∈ wsX4_workedOut := nw_in nwl_X4_workedOut nwe_200 (by decide +kernel)
theorem uX4_workedOut_f28 : Cond.fieldLink RX4 28 "PigNinths$Voices" "m" "I" ∈ wsX4_workedOut := nw_in nwl_X4_workedOut nwe_201 (by decide +kernel)
set_option maxHeartbeats 4000000 in
set_option maxRecDepth 100000 in
theorem mX4_workedOut (l : Launch) (D : va_G) (cI cO : ClassId) (a : Nat → Nat) (d : Nat)  {wown : Int32 → Int32 → Int32 → xF → xA → (Int32 → xF → xA → Prop) → Prop} (hmown : ∀ (x1 : Int32) (x2 : Int32) (x3 : Int32), MI l yX4_own wsX4_own (xrd d 1) D (xtys cI cO) [.ref (a 0), .int x1, .int x2, .int x3] (w4 cI a) (wown x1 x2 x3)) {wabove : Int32 → Int32 → Int32 → Int32 → xF → xA → (Int32 → xF → xA → Prop) → Prop} (hmabove : ∀ (x1 : Int32) (x2 : Int32) (x3 : Int32) (x4 : Int32), MI l yX4_above wsX4_above (xrd d 1) D (xtys cI cO) [.ref (a 0), .int x1, .int x2, .int x3, .int x4] (w4 cI a) (wabove x1 x2 x3 x4)) (x1 : Int32) (x2 : Int32) (x3 : Int32) (x4 : Int32) : MI l yX4_workedOut wsX4_workedOut (xrd d 2) D (xtys cI cO) [.ref (a 0), .int x1, .int x2, .int x3, .int x4] (w4 cI a) (qX4_workedOut wown wabove x1 x2 x3 x4) := by
  refine MI_of (cc := cX4_workedOut) (maxL := 5) (own := RX4) (by decide) rfl rfl (Nat.le_of_ble_eq_true rfl) ?_
  intro p e s m args below meth c A F G Q h K
  refine x_locals [0, 1, 2, 3, 4] (L' := [(0, .ref (a 0)), (1, .int _), (2, .int _), (3, .int _), (4, .int _)]) rfl ?_
  refine x_aload_n (pc' := 1) K dX4_workedOut_0 0 rfl rfl ?_
  refine xw4_0g_parted (pc' := 4) K hinX4_workedOut_X4 uX4_workedOut_f20 dX4_workedOut_1 rfl ?_
  refine x_if_ne (tgt := 14) (pc' := 7) K dX4_workedOut_4 rfl rfl (fun c4 => ?_) (fun c4 => ?_)
  · replace h := h.1 c4
    refine x_iconst (pc' := 15) (v := 0) K dX4_workedOut_14 (by decide) rfl ?_
    exact x_iret (wf := w4 cI a) K h dX4_workedOut_15
  · replace h := h.2 c4
    refine x_iload (pc' := 9) K dX4_workedOut_7 4 rfl rfl ?_
    refine x_bipush (pc' := 11) (v := 40) K dX4_workedOut_9 (by decide) rfl ?_
    refine x_icmp_le (tgt := 16) (pc' := 14) K dX4_workedOut_11 rfl rfl (fun c11 => ?_) (fun c11 => ?_)
    · replace h := h.1 c11
      refine x_aload_n (pc' := 17) K dX4_workedOut_16 0 rfl rfl ?_
      refine xw4_0g_trace (pc' := 20) K hinX4_workedOut_X4 uX4_workedOut_f14 dX4_workedOut_17 rfl ?_
      refine x_iload_n (pc' := 21) K dX4_workedOut_20 1 rfl rfl ?_
      refine x_subV (pc' := 24) (wn := fun F' G' => w4 cI a (xspl F 4 1 F') (xspl G 0 1 G')) K (mX1_append l D cI cO (xsub a 1) 30 _) rfl gX4_workedOut_X1_append rfl dsX1_append (by refine ⟨rfl, rfl, ⟨?_, ?_⟩, ?_, ?_⟩ <;> simp only [xrd, rmX1_append] <;> omega) h 1 0 rfl rfl (xpl11 cI a _ _) (fun F' G' => xpr11 cI a _ _ F' G') (st := []) rfl rfl (Nat.le_of_ble_eq_true rfl) dX4_workedOut_21 rfl (fun F21 G21 h => ?_)
      obtain ⟨E21, eE21⟩ : ∃ x : xF, x = (xspl F 4 1 F21) := ⟨_, rfl⟩
      obtain ⟨H21, eH21⟩ : ∃ x : xA, x = (xspl G 0 1 G21) := ⟨_, rfl⟩
      refine x_weq (w' := w4 cI a E21 H21) (by subst eE21; subst eH21; rfl) ?_
      replace h := h E21 eE21
      replace h := h H21 eH21
      refine x_iload_n (pc' := 25) K dX4_workedOut_24 1 rfl rfl ?_
      refine (Classical.em (x1 = (10 : Int32))).elim (fun e25 => ?_) (fun e25_1 => ?_)
      · replace h := h.1 e25
        refine x_lookup (tgt := 132) (off := 107) K dX4_workedOut_25 (by decide) (by rw [e25]; rfl) rfl ?_
        refine x_iload_n (pc' := 133) K dX4_workedOut_132 3 rfl rfl ?_
        refine x_aload_n (pc' := 134) K dX4_workedOut_133 0 rfl rfl ?_
        refine xw4_0g_k (pc' := 137) K hinX4_workedOut_X4 uX4_workedOut_f24 dX4_workedOut_134 rfl ?_
        refine x_iadd (pc' := 138) K dX4_workedOut_137 rfl ?_
        exact x_iret (wf := w4 cI a) K h dX4_workedOut_138
      · replace h := h.2 e25_1
        refine (Classical.em (x1 = (11 : Int32))).elim (fun e25 => ?_) (fun e25_2 => ?_)
        · replace h := h.1 e25
          refine x_lookup (tgt := 139) (off := 114) K dX4_workedOut_25 (by decide) (by rw [e25]; rfl) rfl ?_
          refine x_aload_n (pc' := 140) K dX4_workedOut_139 0 rfl rfl ?_
          refine x_iconst (pc' := 141) (v := 0) K dX4_workedOut_140 (by decide) rfl ?_
          refine x_iload_n (pc' := 142) K dX4_workedOut_141 3 rfl rfl ?_
          refine x_iload (pc' := 144) K dX4_workedOut_142 4 rfl rfl ?_
          refine x_callI (pc' := 147) K (hmown _ _ _) rfl gX4_workedOut_X4_own rfl dsX4_own (by refine ⟨rfl, rfl, ⟨?_, ?_⟩, ?_, ?_⟩ <;> simp only [xrd] <;> omega) h 4 0 rfl rfl (st := []) rfl rfl (Nat.le_of_ble_eq_true rfl) dX4_workedOut_144 rfl (fun r144 F144 G144 h => ?_)
          refine x_iconst (pc' := 148) (v := 2) K dX4_workedOut_147 (by decide) rfl ?_
          refine x_imul (pc' := 149) K dX4_workedOut_148 rfl ?_
          exact x_iret (wf := w4 cI a) K h dX4_workedOut_149
        · replace h := h.2 e25_2
          refine (Classical.em (x1 = (12 : Int32))).elim (fun e25 => ?_) (fun e25_3 => ?_)
          · replace h := h.1 e25
            refine x_lookup (tgt := 150) (off := 125) K dX4_workedOut_25 (by decide) (by rw [e25]; rfl) rfl ?_
            refine x_aload_n (pc' := 151) K dX4_workedOut_150 0 rfl rfl ?_
            refine x_iconst (pc' := 152) (v := 1) K dX4_workedOut_151 (by decide) rfl ?_
            refine x_iload_n (pc' := 153) K dX4_workedOut_152 3 rfl rfl ?_
            refine x_iload (pc' := 155) K dX4_workedOut_153 4 rfl rfl ?_
            refine x_callI (pc' := 158) K (hmown _ _ _) rfl gX4_workedOut_X4_own rfl dsX4_own (by refine ⟨rfl, rfl, ⟨?_, ?_⟩, ?_, ?_⟩ <;> simp only [xrd] <;> omega) h 4 0 rfl rfl (st := []) rfl rfl (Nat.le_of_ble_eq_true rfl) dX4_workedOut_155 rfl (fun r155 F155 G155 h => ?_)
            refine x_aload_n (pc' := 159) K dX4_workedOut_158 0 rfl rfl ?_
            refine xw4_0g_m (pc' := 162) K hinX4_workedOut_X4 uX4_workedOut_f28 dX4_workedOut_159 rfl ?_
            refine x_isub (pc' := 163) K dX4_workedOut_162 rfl ?_
            exact x_iret (wf := w4 cI a) K h dX4_workedOut_163
          · replace h := h.2 e25_3
            refine (Classical.em (x1 = (13 : Int32))).elim (fun e25 => ?_) (fun e25_4 => ?_)
            · replace h := h.1 e25
              refine x_lookup (tgt := 164) (off := 139) K dX4_workedOut_25 (by decide) (by rw [e25]; rfl) rfl ?_
              refine x_aload_n (pc' := 165) K dX4_workedOut_164 0 rfl rfl ?_
              refine x_iload_n (pc' := 166) K dX4_workedOut_165 3 rfl rfl ?_
              refine x_aload_n (pc' := 167) K dX4_workedOut_166 0 rfl rfl ?_
              refine xw4_0g_m (pc' := 170) K hinX4_workedOut_X4 uX4_workedOut_f28 dX4_workedOut_167 rfl ?_
              refine x_aload_n (pc' := 171) K dX4_workedOut_170 0 rfl rfl ?_
              refine xw4_0g_k (pc' := 174) K hinX4_workedOut_X4 uX4_workedOut_f24 dX4_workedOut_171 rfl ?_
              refine x_isub (pc' := 175) K dX4_workedOut_174 rfl ?_
              refine x_callI (pc' := 178) K (mX4_partedBy l D cI cO a _ _) rfl gX4_workedOut_X4_partedBy rfl dsX4_partedBy (by refine ⟨rfl, rfl, ⟨?_, ?_⟩, ?_, ?_⟩ <;> simp only [xrd, rmX4_partedBy] <;> omega) h 4 0 rfl rfl (st := []) rfl rfl (Nat.le_of_ble_eq_true rfl) dX4_workedOut_175 rfl (fun r175 F175 G175 h => ?_)
              exact x_iret (wf := w4 cI a) K h dX4_workedOut_178
            · replace h := h.2 e25_4
              refine (Classical.em (x1 = (20 : Int32))).elim (fun e25 => ?_) (fun e25_5 => ?_)
              · replace h := h.1 e25
                refine x_lookup (tgt := 179) (off := 154) K dX4_workedOut_25 (by decide) (by rw [e25]; rfl) rfl ?_
                refine x_aload_n (pc' := 180) K dX4_workedOut_179 0 rfl rfl ?_
                refine x_iload_n (pc' := 181) K dX4_workedOut_180 2 rfl rfl ?_
                refine x_iconst (pc' := 182) (v := 0) K dX4_workedOut_181 (by decide) rfl ?_
                refine x_iload_n (pc' := 183) K dX4_workedOut_182 3 rfl rfl ?_
                refine x_iload (pc' := 185) K dX4_workedOut_183 4 rfl rfl ?_
                refine x_callI (pc' := 188) K (hmabove _ _ _ _) rfl gX4_workedOut_X4_above rfl dsX4_above (by refine ⟨rfl, rfl, ⟨?_, ?_⟩, ?_, ?_⟩ <;> simp only [xrd] <;> omega) h 4 0 rfl rfl (st := []) rfl rfl (Nat.le_of_ble_eq_true rfl) dX4_workedOut_185 rfl (fun r185 F185 G185 h => ?_)
                refine x_iconst (pc' := 189) (v := 4) K dX4_workedOut_188 (by decide) rfl ?_
                refine x_isub (pc' := 190) K dX4_workedOut_189 rfl ?_
                exact x_iret (wf := w4 cI a) K h dX4_workedOut_190
              · replace h := h.2 e25_5
                refine (Classical.em (x1 = (21 : Int32))).elim (fun e25 => ?_) (fun e25_6 => ?_)
                · replace h := h.1 e25
                  refine x_lookup (tgt := 191) (off := 166) K dX4_workedOut_25 (by decide) (by rw [e25]; rfl) rfl ?_
                  refine x_aload_n (pc' := 192) K dX4_workedOut_191 0 rfl rfl ?_
                  refine x_iload_n (pc' := 193) K dX4_workedOut_192 2 rfl rfl ?_
                  refine x_iconst (pc' := 194) (v := 3) K dX4_workedOut_193 (by decide) rfl ?_
                  refine x_iload_n (pc' := 195) K dX4_workedOut_194 3 rfl rfl ?_
                  refine x_iload (pc' := 197) K dX4_workedOut_195 4 rfl rfl ?_
                  refine x_callI (pc' := 200) K (hmabove _ _ _ _) rfl gX4_workedOut_X4_above rfl dsX4_above (by refine ⟨rfl, rfl, ⟨?_, ?_⟩, ?_, ?_⟩ <;> simp only [xrd] <;> omega) h 4 0 rfl rfl (st := []) rfl rfl (Nat.le_of_ble_eq_true rfl) dX4_workedOut_197 rfl (fun r197 F197 G197 h => ?_)
                  refine x_aload_n (pc' := 201) K dX4_workedOut_200 0 rfl rfl ?_
                  refine x_iconst (pc' := 202) (v := 1) K dX4_workedOut_201 (by decide) rfl ?_
                  refine x_iconst (pc' := 203) (v := 1) K dX4_workedOut_202 (by decide) rfl ?_
                  refine x_iload (pc' := 205) K dX4_workedOut_203 4 rfl rfl ?_
                  refine x_callI (pc' := 208) K (hmown _ _ _) rfl gX4_workedOut_X4_own rfl dsX4_own (by refine ⟨rfl, rfl, ⟨?_, ?_⟩, ?_, ?_⟩ <;> simp only [xrd] <;> omega) h 4 0 rfl rfl (st := [.int _]) rfl rfl (Nat.le_of_ble_eq_true rfl) dX4_workedOut_205 rfl (fun r205 F205 G205 h => ?_)
                  refine x_iadd (pc' := 209) K dX4_workedOut_208 rfl ?_
                  exact x_iret (wf := w4 cI a) K h dX4_workedOut_209
                · replace h := h.2 e25_6
                  refine (Classical.em (x1 = (30 : Int32))).elim (fun e25 => ?_) (fun e25_7 => ?_)
                  · replace h := h.1 e25
                    refine x_lookup (tgt := 210) (off := 185) K dX4_workedOut_25 (by decide) (by rw [e25]; rfl) rfl ?_
                    refine x_iconst (pc' := 211) (v := 0) K dX4_workedOut_210 (by decide) rfl ?_
                    refine x_aload_n (pc' := 212) K dX4_workedOut_211 0 rfl rfl ?_
                    refine x_iload_n (pc' := 213) K dX4_workedOut_212 2 rfl rfl ?_
                    refine x_iconst (pc' := 214) (v := 1) K dX4_workedOut_213 (by decide) rfl ?_
                    refine x_iload_n (pc' := 215) K dX4_workedOut_214 3 rfl rfl ?_
                    refine x_iload (pc' := 217) K dX4_workedOut_215 4 rfl rfl ?_
                    refine x_callI (pc' := 220) K (hmabove _ _ _ _) rfl gX4_workedOut_X4_above rfl dsX4_above (by refine ⟨rfl, rfl, ⟨?_, ?_⟩, ?_, ?_⟩ <;> simp only [xrd] <;> omega) h 4 0 rfl rfl (st := [.int _]) rfl rfl (Nat.le_of_ble_eq_true rfl) dX4_workedOut_217 rfl (fun r217 F217 G217 h => ?_)
                    refine x_isub (pc' := 221) K dX4_workedOut_220 rfl ?_
                    exact x_iret (wf := w4 cI a) K h dX4_workedOut_221
                  · replace h := h.2 e25_7
                    refine (Classical.em (x1 = (40 : Int32))).elim (fun e25 => ?_) (fun e25_8 => ?_)
                    · replace h := h.1 e25
                      refine x_lookup (tgt := 222) (off := 197) K dX4_workedOut_25 (by decide) (by rw [e25]; rfl) rfl ?_
                      refine x_aload_n (pc' := 223) K dX4_workedOut_222 0 rfl rfl ?_
                      refine x_iload_n (pc' := 224) K dX4_workedOut_223 2 rfl rfl ?_
                      refine x_iconst (pc' := 225) (v := 2) K dX4_workedOut_224 (by decide) rfl ?_
                      refine x_iload_n (pc' := 226) K dX4_workedOut_225 3 rfl rfl ?_
                      refine x_iconst (pc' := 227) (v := 2) K dX4_workedOut_226 (by decide) rfl ?_
                      refine x_idiv (pc' := 228) K dX4_workedOut_227 (by decide) rfl ?_
                      refine x_iload (pc' := 230) K dX4_workedOut_228 4 rfl rfl ?_
                      refine x_callI (pc' := 233) K (hmabove _ _ _ _) rfl gX4_workedOut_X4_above rfl dsX4_above (by refine ⟨rfl, rfl, ⟨?_, ?_⟩, ?_, ?_⟩ <;> simp only [xrd] <;> omega) h 4 0 rfl rfl (st := []) rfl rfl (Nat.le_of_ble_eq_true rfl) dX4_workedOut_230 rfl (fun r230 F230 G230 h => ?_)
                      exact x_iret (wf := w4 cI a) K h dX4_workedOut_233
                    · replace h := h.2 e25_8
                      refine (Classical.em (x1 = (50 : Int32))).elim (fun e25 => ?_) (fun e25_9 => ?_)
                      · replace h := h.1 e25
                        refine x_lookup (tgt := 234) (off := 209) K dX4_workedOut_25 (by decide) (by rw [e25]; rfl) rfl ?_
                        refine x_aload_n (pc' := 235) K dX4_workedOut_234 0 rfl rfl ?_
                        refine x_iload_n (pc' := 236) K dX4_workedOut_235 2 rfl rfl ?_
                        refine x_iconst (pc' := 237) (v := 0) K dX4_workedOut_236 (by decide) rfl ?_
                        refine x_iload_n (pc' := 238) K dX4_workedOut_237 3 rfl rfl ?_
                        refine x_iload (pc' := 240) K dX4_workedOut_238 4 rfl rfl ?_
                        refine x_callI (pc' := 243) K (hmabove _ _ _ _) rfl gX4_workedOut_X4_above rfl dsX4_above (by refine ⟨rfl, rfl, ⟨?_, ?_⟩, ?_, ?_⟩ <;> simp only [xrd] <;> omega) h 4 0 rfl rfl (st := []) rfl rfl (Nat.le_of_ble_eq_true rfl) dX4_workedOut_240 rfl (fun r240 F240 G240 h => ?_)
                        refine x_iconst (pc' := 244) (v := 3) K dX4_workedOut_243 (by decide) rfl ?_
                        refine x_imul (pc' := 245) K dX4_workedOut_244 rfl ?_
                        exact x_iret (wf := w4 cI a) K h dX4_workedOut_245
                      · replace h := h.2 e25_9
                        refine (Classical.em (x1 = (51 : Int32))).elim (fun e25 => ?_) (fun e25_10 => ?_)
                        · replace h := h.1 e25
                          refine x_lookup (tgt := 246) (off := 221) K dX4_workedOut_25 (by decide) (by rw [e25]; rfl) rfl ?_
                          refine x_aload_n (pc' := 247) K dX4_workedOut_246 0 rfl rfl ?_
                          refine x_iload_n (pc' := 248) K dX4_workedOut_247 2 rfl rfl ?_
                          refine x_iconst (pc' := 249) (v := 2) K dX4_workedOut_248 (by decide) rfl ?_
                          refine x_iload_n (pc' := 250) K dX4_workedOut_249 3 rfl rfl ?_
                          refine x_iload (pc' := 252) K dX4_workedOut_250 4 rfl rfl ?_
                          refine x_callI (pc' := 255) K (hmabove _ _ _ _) rfl gX4_workedOut_X4_above rfl dsX4_above (by refine ⟨rfl, rfl, ⟨?_, ?_⟩, ?_, ?_⟩ <;> simp only [xrd] <;> omega) h 4 0 rfl rfl (st := []) rfl rfl (Nat.le_of_ble_eq_true rfl) dX4_workedOut_252 rfl (fun r252 F252 G252 h => ?_)
                          refine x_aload_n (pc' := 256) K dX4_workedOut_255 0 rfl rfl ?_
                          refine xw4_0g_k (pc' := 259) K hinX4_workedOut_X4 uX4_workedOut_f24 dX4_workedOut_256 rfl ?_
                          refine x_ixor (pc' := 260) K dX4_workedOut_259 rfl ?_
                          exact x_iret (wf := w4 cI a) K h dX4_workedOut_260
                        · replace h := h.2 e25_10
                          refine (Classical.em (x1 = (60 : Int32))).elim (fun e25 => ?_) (fun e25_11 => ?_)
                          · replace h := h.1 e25
                            refine x_lookup (tgt := 261) (off := 236) K dX4_workedOut_25 (by decide) (by rw [e25]; rfl) rfl ?_
                            refine x_aload_n (pc' := 262) K dX4_workedOut_261 0 rfl rfl ?_
                            refine x_iload_n (pc' := 263) K dX4_workedOut_262 2 rfl rfl ?_
                            refine x_iconst (pc' := 264) (v := 1) K dX4_workedOut_263 (by decide) rfl ?_
                            refine x_iload_n (pc' := 265) K dX4_workedOut_264 3 rfl rfl ?_
                            refine x_iconst (pc' := 266) (v := 1) K dX4_workedOut_265 (by decide) rfl ?_
                            refine x_iadd (pc' := 267) K dX4_workedOut_266 rfl ?_
                            refine x_iload (pc' := 269) K dX4_workedOut_267 4 rfl rfl ?_
                            refine x_callI (pc' := 272) K (hmabove _ _ _ _) rfl gX4_workedOut_X4_above rfl dsX4_above (by refine ⟨rfl, rfl, ⟨?_, ?_⟩, ?_, ?_⟩ <;> simp only [xrd] <;> omega) h 4 0 rfl rfl (st := []) rfl rfl (Nat.le_of_ble_eq_true rfl) dX4_workedOut_269 rfl (fun r269 F269 G269 h => ?_)
                            exact x_iret (wf := w4 cI a) K h dX4_workedOut_272
                          · replace h := h.2 e25_11
                            refine (Classical.em (x1 = (70 : Int32))).elim (fun e25 => ?_) (fun e25_12 => ?_)
                            · replace h := h.1 e25
                              refine x_lookup (tgt := 273) (off := 248) K dX4_workedOut_25 (by decide) (by rw [e25]; rfl) rfl ?_
                              refine x_bipush (pc' := 275) (v := 9) K dX4_workedOut_273 (by decide) rfl ?_
                              exact x_iret (wf := w4 cI a) K h dX4_workedOut_275
                            · replace h := h.2 e25_12
                              have f25_1 := xtin (i := 10) e25_1 (by decide)
                              have f25_2 := xtin (i := 11) e25_2 (by decide)
                              have f25_3 := xtin (i := 12) e25_3 (by decide)
                              have f25_4 := xtin (i := 13) e25_4 (by decide)
                              have f25_5 := xtin (i := 20) e25_5 (by decide)
                              have f25_6 := xtin (i := 21) e25_6 (by decide)
                              have f25_7 := xtin (i := 30) e25_7 (by decide)
                              have f25_8 := xtin (i := 40) e25_8 (by decide)
                              have f25_9 := xtin (i := 50) e25_9 (by decide)
                              have f25_10 := xtin (i := 51) e25_10 (by decide)
                              have f25_11 := xtin (i := 60) e25_11 (by decide)
                              have f25_12 := xtin (i := 70) e25_12 (by decide)
                              refine x_lookup (tgt := 276) (off := 251) K dX4_workedOut_25 (by decide) (by simp only [Op.lookupswitch.offset, if_neg (Ne.symm f25_1), if_neg (Ne.symm f25_2), if_neg (Ne.symm f25_3), if_neg (Ne.symm f25_4), if_neg (Ne.symm f25_5), if_neg (Ne.symm f25_6), if_neg (Ne.symm f25_7), if_neg (Ne.symm f25_8), if_neg (Ne.symm f25_9), if_neg (Ne.symm f25_10), if_neg (Ne.symm f25_11), if_neg (Ne.symm f25_12)]) rfl ?_
                              refine x_aload_n (pc' := 277) K dX4_workedOut_276 0 rfl rfl ?_
                              refine x_iload_n (pc' := 278) K dX4_workedOut_277 2 rfl rfl ?_
                              refine x_iconst (pc' := 279) (v := 1) K dX4_workedOut_278 (by decide) rfl ?_
                              refine x_iload_n (pc' := 280) K dX4_workedOut_279 3 rfl rfl ?_
                              refine x_iload (pc' := 282) K dX4_workedOut_280 4 rfl rfl ?_
                              refine x_callI (pc' := 285) K (hmabove _ _ _ _) rfl gX4_workedOut_X4_above rfl dsX4_above (by refine ⟨rfl, rfl, ⟨?_, ?_⟩, ?_, ?_⟩ <;> simp only [xrd] <;> omega) h 4 0 rfl rfl (st := []) rfl rfl (Nat.le_of_ble_eq_true rfl) dX4_workedOut_282 rfl (fun r282 F282 G282 h => ?_)
                              refine x_aload_n (pc' := 286) K dX4_workedOut_285 0 rfl rfl ?_
                              refine xw4_0g_m (pc' := 289) K hinX4_workedOut_X4 uX4_workedOut_f28 dX4_workedOut_286 rfl ?_
                              refine x_iadd (pc' := 290) K dX4_workedOut_289 rfl ?_
                              exact x_iret (wf := w4 cI a) K h dX4_workedOut_290
    · replace h := h.2 c11
      refine x_iconst (pc' := 15) (v := 0) K dX4_workedOut_14 (by decide) rfl ?_
      exact x_iret (wf := w4 cI a) K h dX4_workedOut_15
/-! X4_from -/
theorem uX4_from_f49 : Cond.fieldLink RX4 49 "PigNinths$Voices" "BODIES" "[I" ∈ wsX4_from := nw_in nwl_X4_from nwe_210 (by decide +kernel)
set_option maxHeartbeats 4000000 in
set_option maxRecDepth 100000 in
theorem tX4_from_6 (K : XK p m c cX4_from 8 s args wsX4_from RX4 D (xtys cI cO) A meth (some .int)) {wworkedOut : Int32 → Int32 → Int32 → Int32 → xF → xA → (Int32 → xF → xA → Prop) → Prop} (hmworkedOut : ∀ (x1 : Int32) (x2 : Int32) (x3 : Int32) (x4 : Int32), MI l yX4_workedOut wsX4_workedOut (xrd d 2) D (xtys cI cO) [.ref (a 0), .int x1, .int x2, .int x3, .int x4] (w4 cI a) (wworkedOut x1 x2 x3 x4)) {Q : Int32 → xF → xA → Prop} : ∀ (n : Nat), ∀ (x2 : Int32) (x3 : Int32) (x4 : Int32) (x5 : Int32) (x6 : Int32) (F : xF) (G : xA), qX4_from_6 wworkedOut Q n x2 x3 x4 x5 x6 F G → XJ p l e (xrd (d + 1) 0) s m args below meth c 0 0 (MQ below (xQi D (w4 cI a) A Q) args s 0 0 A) D (xtys cI cO) A 8 (w4 cI a F G) 6 [(0, .ref (a 0)), (2, .int x2), (3, .int x3), (4, .int x4), (5, .int x5), (6, .int x6)] [] := by
  intro n
  induction n with
  | zero =>
    intro x2 x3 x4 x5 x6 F G h
    exact False.elim h
  | succ n ih =>
    intro x2 x3 x4 x5 x6 F G h
    refine x_iload (pc' := 8) K dX4_from_6 5 rfl rfl ?_
    refine x_bipush (pc' := 10) (v := 7) K dX4_from_8 (by decide) rfl ?_
    refine x_icmp_ge (tgt := 61) (pc' := 13) K dX4_from_10 rfl rfl (fun c10 => ?_) (fun c10 => ?_)
    · replace h := h.1 c10
      refine x_iconst (pc' := 62) (v := 0) K dX4_from_61 (by decide) rfl ?_
      exact x_iret (wf := w4 cI a) K h dX4_from_62
    · replace h := h.2 c10
      refine x_iload (pc' := 15) K dX4_from_13 4 rfl rfl ?_
      refine x_if_lt (tgt := 61) (pc' := 18) K dX4_from_15 rfl rfl (fun c15 => ?_) (fun c15 => ?_)
      · replace h := h.1 c15
        refine x_iconst (pc' := 62) (v := 0) K dX4_from_61 (by decide) rfl ?_
        exact x_iret (wf := w4 cI a) K h dX4_from_62
      · replace h := h.2 c15
        refine x_tab (pc' := 21) K K.2.2.2.1.2.2.1 uX4_from_f49 dX4_from_18 rfl (fun t18 ht18 => ?_)
        refine x_iconst (pc' := 22) (v := 4) K dX4_from_21 (by decide) rfl ?_
        refine x_iload (pc' := 24) K dX4_from_22 4 rfl rfl ?_
        refine x_imul (pc' := 25) K dX4_from_24 rfl ?_
        refine x_iload_n (pc' := 26) K dX4_from_25 1 rfl rfl ?_
        refine x_iadd (pc' := 27) K dX4_from_26 rfl ?_
        obtain ⟨i27, h⟩ := h
        refine x_tabi (pc' := 28) K ht18 i27 dX4_from_27 rfl ?_
        refine x_istore (pc' := 30) (i := 7) K dX4_from_28 (by decide) [1, 2, 3, 4, 5, 6, 0] (L' := [(0, .ref (a 0)), (2, .int _), (3, .int _), (4, .int _), (5, .int _), (6, .int _), (7, .int _)]) rfl rfl ?_
        refine x_iload (pc' := 32) K dX4_from_30 6 rfl rfl ?_
        refine x_if_eq (tgt := 47) (pc' := 35) K dX4_from_32 rfl rfl (fun c32 => ?_) (fun c32 => ?_)
        · replace h := h.1 c32
          refine x_tabN (pc' := 50) K K.2.2.2.1.1 K.2.2.2.2.2.2.1 dX4_from_47 rfl (fun t47 ht47 => ?_)
          refine x_iload (pc' := 52) K dX4_from_50 4 rfl rfl ?_
          obtain ⟨i52, h⟩ := h
          refine x_tabi (pc' := 53) K ht47 i52 dX4_from_52 rfl ?_
          refine x_istore (pc' := 55) (i := 5) K dX4_from_53 (by decide) [1, 2, 3, 4, 0, 5, 6] (L' := [(0, .ref (a 0)), (2, .int _), (3, .int _), (4, .int _), (5, .int _), (6, .int _), (7, .int _)]) rfl rfl ?_
          refine x_iinc (pc' := 58) (v := _ + (1 : Int32)) K dX4_from_55 5 rfl rfl (by decide) [1, 2, 3, 4, 5, 0, 6] (L' := [(0, .ref (a 0)), (2, .int _), (3, .int _), (4, .int _), (5, .int _), (6, .int _), (7, .int _)]) rfl rfl ?_
          refine x_goto (tgt := 6) K dX4_from_58 rfl ?_
          refine x_locals [0, 1, 2, 3, 4, 5] (L' := [(0, .ref (a 0)), (2, .int _), (3, .int _), (4, .int _), (5, .int _), (6, .int _)]) rfl ?_
          exact ih _ _ _ _ _ _ _ h
        · replace h := h.2 c32
          refine x_aload_n (pc' := 36) K dX4_from_35 0 rfl rfl ?_
          refine x_iload (pc' := 38) K dX4_from_36 6 rfl rfl ?_
          refine x_iload (pc' := 40) K dX4_from_38 4 rfl rfl ?_
          refine x_iload_n (pc' := 41) K dX4_from_40 2 rfl rfl ?_
          refine x_iload (pc' := 43) K dX4_from_41 3 rfl rfl ?_
          refine x_callI (pc' := 46) K (hmworkedOut _ _ _ _) rfl gX4_from_X4_workedOut rfl dsX4_workedOut (by refine ⟨rfl, rfl, ⟨?_, ?_⟩, ?_, ?_⟩ <;> simp only [xrd] <;> omega) h 4 0 rfl rfl (st := []) rfl rfl (Nat.le_of_ble_eq_true rfl) dX4_from_43 rfl (fun r43 F43 G43 h => ?_)
          exact x_iret (wf := w4 cI a) K h dX4_from_46
set_option maxHeartbeats 4000000 in
set_option maxRecDepth 100000 in
theorem mX4_from (l : Launch) (D : va_G) (cI cO : ClassId) (a : Nat → Nat) (d : Nat)  {wworkedOut : Int32 → Int32 → Int32 → Int32 → xF → xA → (Int32 → xF → xA → Prop) → Prop} (hmworkedOut : ∀ (x1 : Int32) (x2 : Int32) (x3 : Int32) (x4 : Int32), MI l yX4_workedOut wsX4_workedOut (xrd d 2) D (xtys cI cO) [.ref (a 0), .int x1, .int x2, .int x3, .int x4] (w4 cI a) (wworkedOut x1 x2 x3 x4)) (x1 : Int32) (x2 : Int32) (x3 : Int32) (x4 : Int32) : MI l yX4_from wsX4_from (xrd (d + 1) 0) D (xtys cI cO) [.ref (a 0), .int x1, .int x2, .int x3, .int x4] (w4 cI a) (qX4_from wworkedOut x1 x2 x3 x4) := by
  refine MI_of (cc := cX4_from) (maxL := 8) (own := RX4) (by decide) rfl rfl (Nat.le_of_ble_eq_true rfl) ?_
  intro p e s m args below meth c A F G Q h K
  refine x_locals [0, 1, 2, 3, 4] (L' := [(0, .ref (a 0)), (1, .int _), (2, .int _), (3, .int _), (4, .int _)]) rfl ?_
  refine x_iload_n (pc' := 1) K dX4_from_0 1 rfl rfl ?_
  refine x_istore (pc' := 3) (i := 5) K dX4_from_1 (by decide) [1, 2, 3, 4, 5, 0] (L' := [(0, .ref (a 0)), (1, .int _), (2, .int _), (3, .int _), (4, .int _), (5, .int _)]) rfl rfl ?_
  refine x_iconst (pc' := 4) (v := 0) K dX4_from_3 (by decide) rfl ?_
  refine x_istore (pc' := 6) (i := 6) K dX4_from_4 (by decide) [1, 2, 3, 4, 5, 6, 0] (L' := [(0, .ref (a 0)), (1, .int _), (2, .int _), (3, .int _), (4, .int _), (5, .int _), (6, .int _)]) rfl rfl ?_
  refine x_locals [0, 2, 3, 4, 5, 6] (L' := [(0, .ref (a 0)), (2, .int _), (3, .int _), (4, .int _), (5, .int _), (6, .int _)]) rfl ?_
  obtain ⟨n6, h⟩ := h
  exact tX4_from_6 K hmworkedOut n6 _ _ _ _ _ _ _ h
theorem mX4_from_d (l : Launch) (D : va_G) (cI cO : ClassId) (a : Nat → Nat) : ∀ (d : Nat) (x1 x2 x3 x4 : Int32), MI l yX4_from wsX4_from (xrd d 0) D (xtys cI cO) [.ref (a 0), .int x1, .int x2, .int x3, .int x4] (w4 cI a) (qX4_from_d d x1 x2 x3 x4) := by
  intro d
  induction d with
  | zero => exact fun x1 x2 x3 x4 F G sz Q h => False.elim h
  | succ d ih => exact fun x1 x2 x3 x4 => mX4_from l D cI cO a d (fun x1 x2 x3 x4 => mX4_workedOut l D cI cO a d (fun x1 x2 x3 => mX4_own l D cI cO a d ih x1 x2 x3) (fun x1 x2 x3 x4 => mX4_above l D cI cO a d ih x1 x2 x3 x4) x1 x2 x3 x4) x1 x2 x3 x4
abbrev rmX4_ownT : Room := { frames := 171, cells := 0, slots := 0, locals := 10380 }
theorem mX4_ownT (l : Launch) (D : va_G) (cI cO : ClassId) (a : Nat → Nat) (x1 x2 x3 : Int32) : MI l yX4_own wsX4_own rmX4_ownT D (xtys cI cO) [.ref (a 0), .int x1, .int x2, .int x3] (w4 cI a) (qX4_ownT x1 x2 x3) := mX4_own l D cI cO a 20 (mX4_from_d l D cI cO a 20) x1 x2 x3
/-! X4_answer -/
abbrev rmX4_answer : Room := { frames := 172, cells := 0, slots := 0, locals := 10403 }
theorem dsX4_answer : xDesc yX4_answer 5 := by decide +kernel
theorem uX4_answer_f14 : Cond.fieldLink RX4 14 "PigNinths$Voices" "trace" "LPigNinths$Row;" ∈ wsX4_answer := nw_in nwl_X4_answer nwe_198 (by decide +kernel)
theorem hinX4_answer_X4 : ∀ w ∈ wsX40, w ∈ wsX4_answer := nw_all nwl_X4_answer nwl_X40 (by decide +kernel)
theorem uX4_answer_f34 : Cond.fieldLink RX4 34 "PigNinths$Row" "size" "I" ∈ wsX4_answer := nw_in nwl_X4_answer nwe_227 (by decide +kernel)
theorem hinX4_answer_X1 : ∀ w ∈ wsX10, w ∈ wsX4_answer := nw_all nwl_X4_answer nwl_X10 (by decide +kernel)
theorem uX4_answer_f20 : Cond.fieldLink RX4 20 "PigNinths$Voices" "parted" "Z" ∈ wsX4_answer := nw_in nwl_X4_answer nwe_199 (by decide +kernel)
theorem uX4_answer_f24 : Cond.fieldLink RX4 24 "PigNinths$Voices" "k" "I" ∈ wsX4_answer := nw_in nwl_X4_answer nwe_200 (by decide +kernel)
theorem uX4_answer_f28 : Cond.fieldLink RX4 28 "PigNinths$Voices" "m" "I" ∈ wsX4_answer := nw_in nwl_X4_answer nwe_201 (by decide +kernel)
theorem uX4_answer_f31 : Cond.fieldLink RX4 31 "PigNinths$Voices" "ownKind" "I" ∈ wsX4_answer := nw_in nwl_X4_answer nwe_202 (by decide +kernel)
set_option maxHeartbeats 4000000 in
set_option maxRecDepth 100000 in
theorem mX4_answer (l : Launch) (D : va_G) (cI cO : ClassId) (a : Nat → Nat)  (x1 : Int32) (x2 : Int32) (x3 : Int32) (x4 : Int32) (x5 : Int32) : MI l yX4_answer wsX4_answer rmX4_answer D (xtys cI cO) [.ref (a 0), .int x1, .int x2, .int x3, .int x4, .int x5] (w4 cI a) (qX4_answer x1 x2 x3 x4 x5) := by
  refine MI_of (cc := cX4_answer) (maxL := 6) (own := RX4) (by decide) rfl rfl (Nat.le_of_ble_eq_true rfl) ?_
  intro p e s m args below meth c A F G Q h K
  refine x_locals [0, 1, 2, 3, 4, 5] (L' := [(0, .ref (a 0)), (1, .int _), (2, .int _), (3, .int _), (4, .int _), (5, .int _)]) rfl ?_
  refine x_aload_n (pc' := 1) K dX4_answer_0 0 rfl rfl ?_
  refine xw4_0g_trace (pc' := 4) K hinX4_answer_X4 uX4_answer_f14 dX4_answer_1 rfl ?_
  refine x_iconst (pc' := 5) (v := 0) K dX4_answer_4 (by decide) rfl ?_
  refine xw4_1p_size (pc' := 8) K hinX4_answer_X1 uX4_answer_f34 dX4_answer_5 rfl (fun F5 eF5 => ?_)
  replace h := h F5 eF5
  refine x_aload_n (pc' := 9) K dX4_answer_8 0 rfl rfl ?_
  refine x_iconst (pc' := 10) (v := 0) K dX4_answer_9 (by decide) rfl ?_
  refine xw4_0p_parted (pc' := 13) K hinX4_answer_X4 uX4_answer_f20 (Or.inl rfl) dX4_answer_10 rfl (fun F10 eF10 => ?_)
  replace h := h F10 eF10
  refine x_aload_n (pc' := 14) K dX4_answer_13 0 rfl rfl ?_
  refine x_iload_n (pc' := 15) K dX4_answer_14 1 rfl rfl ?_
  refine xw4_0p_k (pc' := 18) K hinX4_answer_X4 uX4_answer_f24 dX4_answer_15 rfl (fun F15 eF15 => ?_)
  replace h := h F15 eF15
  refine x_aload_n (pc' := 19) K dX4_answer_18 0 rfl rfl ?_
  refine x_iload_n (pc' := 20) K dX4_answer_19 3 rfl rfl ?_
  refine xw4_0p_m (pc' := 23) K hinX4_answer_X4 uX4_answer_f28 dX4_answer_20 rfl (fun F20 eF20 => ?_)
  replace h := h F20 eF20
  refine x_aload_n (pc' := 24) K dX4_answer_23 0 rfl rfl ?_
  refine x_iload_n (pc' := 25) K dX4_answer_24 2 rfl rfl ?_
  refine xw4_0p_ownKind (pc' := 28) K hinX4_answer_X4 uX4_answer_f31 dX4_answer_25 rfl (fun F25 eF25 => ?_)
  replace h := h F25 eF25
  refine x_aload_n (pc' := 29) K dX4_answer_28 0 rfl rfl ?_
  refine x_iload (pc' := 31) K dX4_answer_29 4 rfl rfl ?_
  refine x_iload (pc' := 33) K dX4_answer_31 5 rfl rfl ?_
  refine x_iconst (pc' := 34) (v := 0) K dX4_answer_33 (by decide) rfl ?_
  refine x_callI (pc' := 37) K (mX4_ownT l D cI cO a _ _ _) rfl gX4_answer_X4_own rfl dsX4_own ⟨rfl, rfl, ⟨Nat.le_of_ble_eq_true rfl, Nat.le_of_ble_eq_true rfl⟩, Nat.le_of_ble_eq_true rfl, Nat.le_of_ble_eq_true rfl⟩ h 4 0 rfl rfl (st := []) rfl rfl (Nat.le_of_ble_eq_true rfl) dX4_answer_34 rfl (fun r34 F34 G34 h => ?_)
  exact x_iret (wf := w4 cI a) K h dX4_answer_37
end
