section
variable {p : Program} {l : Launch} {e : Env} {s : State} {m : MethodId} {args : Array Value} {below : List Frame} {meth : Method} {c : Code} {D : va_G} {cI cO : ClassId} {A : Nat → Prop} {a : Nat → Nat} {d : Nat}
/-! X5_textOf -/
abbrev rmX5_textOf : Room := { frames := 2, cells := 0, slots := 0, locals := 60 }
theorem dsX5_textOf : xDesc yX5_textOf 1 := by decide +kernel
theorem uX5_textOf_f43 : Cond.fieldLink RX5 43 "PigNinths$World" "nose" "LPigNinths$Text;" ∈ wsX5_textOf := nw_in nwl_X5_textOf nwe_241 (by decide +kernel)
theorem hinX5_textOf_X5 : ∀ w ∈ wsX50, w ∈ wsX5_textOf := nw_all nwl_X5_textOf nwl_X50 (by decide +kernel)
theorem uX5_textOf_f39 : Cond.fieldLink RX5 39 "PigNinths$World" "feeding" "LPigNinths$Text;" ∈ wsX5_textOf := nw_in nwl_X5_textOf nwe_240 (by decide +kernel)
set_option maxHeartbeats 4000000 in
set_option maxRecDepth 100000 in
theorem mX5_textOf (l : Launch) (D : va_G) (cI cO : ClassId) (a : Nat → Nat)  (x1 : Int32) : MR l yX5_textOf wsX5_textOf rmX5_textOf D (xtys cI cO) [.ref (a 0), .int x1] a (w5 cI a) (qX5_textOf x1) := by
  refine MR_of (cc := cX5_textOf) (maxL := 2) (own := RX5) (by decide) rfl rfl (Nat.le_of_ble_eq_true rfl) ?_
  intro p e s m args below meth c A F G Q h K
  refine x_locals [0, 1] (L' := [(0, .ref (a 0)), (1, .int _)]) rfl ?_
  refine x_iload_n (pc' := 1) K dX5_textOf_0 1 rfl rfl ?_
  refine x_if_ne (tgt := 11) (pc' := 4) K dX5_textOf_1 rfl rfl (fun c1 => ?_) (fun c1 => ?_)
  · replace h := h.1 c1
    refine x_aload_n (pc' := 12) K dX5_textOf_11 0 rfl rfl ?_
    refine xw5_0g_nose (pc' := 15) K hinX5_textOf_X5 uX5_textOf_f43 dX5_textOf_12 rfl ?_
    exact x_aret (wf := w5 cI a) K (Or.inl ⟨_, rfl⟩) 15 rfl h dX5_textOf_15
  · replace h := h.2 c1
    refine x_aload_n (pc' := 5) K dX5_textOf_4 0 rfl rfl ?_
    refine xw5_0g_feeding (pc' := 8) K hinX5_textOf_X5 uX5_textOf_f39 dX5_textOf_5 rfl ?_
    refine x_goto (tgt := 15) K dX5_textOf_8 rfl ?_
    exact x_aret (wf := w5 cI a) K (Or.inl ⟨_, rfl⟩) 11 rfl h dX5_textOf_15
/-! X5_changeTurns -/
abbrev rmX5_changeTurns : Room := { frames := 2, cells := 0, slots := 0, locals := 60 }
theorem dsX5_changeTurns : xDesc yX5_changeTurns 2 := by decide +kernel
theorem uX5_changeTurns_f30 : Cond.fieldLink RX5 30 "PigNinths$World" "turn" "[I" ∈ wsX5_changeTurns := nw_in nwl_X5_changeTurns nwe_236 (by decide +kernel)
theorem hinX5_changeTurns_X5 : ∀ w ∈ wsX50, w ∈ wsX5_changeTurns := nw_all nwl_X5_changeTurns nwl_X50 (by decide +kernel)
set_option maxHeartbeats 4000000 in
set_option maxRecDepth 100000 in
theorem mX5_changeTurns (l : Launch) (D : va_G) (cI cO : ClassId) (a : Nat → Nat)  (x1 : Int32) (x2 : Int32) : MV l yX5_changeTurns wsX5_changeTurns rmX5_changeTurns D (xtys cI cO) [.ref (a 0), .int x1, .int x2] (w5 cI a) (qX5_changeTurns x1 x2) := by
  refine MV_of (cc := cX5_changeTurns) (maxL := 4) (own := RX5) (by decide) rfl rfl (Nat.le_of_ble_eq_true rfl) ?_
  intro p e s m args below meth c A F G Q h K
  refine x_locals [0, 1, 2] (L' := [(0, .ref (a 0)), (1, .int _), (2, .int _)]) rfl ?_
  refine x_aload_n (pc' := 1) K dX5_changeTurns_0 0 rfl rfl ?_
  refine xw5_0g_turn (pc' := 4) K hinX5_changeTurns_X5 uX5_changeTurns_f30 dX5_changeTurns_1 rfl ?_
  refine x_iload_n (pc' := 5) K dX5_changeTurns_4 1 rfl rfl ?_
  obtain ⟨i5, h⟩ := h
  refine xw5_7l (pc' := 6) K i5 rfl dX5_changeTurns_5 rfl ?_
  refine x_istore_n (pc' := 7) (i := 3) K dX5_changeTurns_6 rfl (by decide) [1, 2, 3, 0] (L' := [(0, .ref (a 0)), (1, .int _), (2, .int _), (3, .int _)]) rfl rfl ?_
  refine x_aload_n (pc' := 8) K dX5_changeTurns_7 0 rfl rfl ?_
  refine xw5_0g_turn (pc' := 11) K hinX5_changeTurns_X5 uX5_changeTurns_f30 dX5_changeTurns_8 rfl ?_
  refine x_iload_n (pc' := 12) K dX5_changeTurns_11 1 rfl rfl ?_
  refine x_aload_n (pc' := 13) K dX5_changeTurns_12 0 rfl rfl ?_
  refine xw5_0g_turn (pc' := 16) K hinX5_changeTurns_X5 uX5_changeTurns_f30 dX5_changeTurns_13 rfl ?_
  refine x_iload_n (pc' := 17) K dX5_changeTurns_16 2 rfl rfl ?_
  obtain ⟨i17, h⟩ := h
  refine xw5_7l (pc' := 18) K i17 rfl dX5_changeTurns_17 rfl ?_
  obtain ⟨i18, h⟩ := h
  refine xw5_7s (pc' := 19) K i18 rfl dX5_changeTurns_18 rfl (fun G18 eG18 => ?_)
  replace h := h G18 eG18
  refine x_aload_n (pc' := 20) K dX5_changeTurns_19 0 rfl rfl ?_
  refine xw5_0g_turn (pc' := 23) K hinX5_changeTurns_X5 uX5_changeTurns_f30 dX5_changeTurns_20 rfl ?_
  refine x_iload_n (pc' := 24) K dX5_changeTurns_23 2 rfl rfl ?_
  refine x_iload_n (pc' := 25) K dX5_changeTurns_24 3 rfl rfl ?_
  obtain ⟨i25, h⟩ := h
  refine xw5_7s (pc' := 26) K i25 rfl dX5_changeTurns_25 rfl (fun G25 eG25 => ?_)
  replace h := h G25 eG25
  exact x_vret (wf := w5 cI a) K h dX5_changeTurns_26
/-! X5_whoHasIt -/
abbrev rmX5_whoHasIt : Room := { frames := 2, cells := 0, slots := 0, locals := 60 }
theorem dsX5_whoHasIt : xDesc yX5_whoHasIt 0 := by decide +kernel
theorem uX5_whoHasIt_f56 : Cond.fieldLink RX5 56 "PigNinths$World" "day" "I" ∈ wsX5_whoHasIt := nw_in nwl_X5_whoHasIt nwe_245 (by decide +kernel)
theorem hinX5_whoHasIt_X5 : ∀ w ∈ wsX50, w ∈ wsX5_whoHasIt := nw_all nwl_X5_whoHasIt nwl_X50 (by decide +kernel)
theorem uX5_whoHasIt_f30 : Cond.fieldLink RX5 30 "PigNinths$World" "turn" "[I" ∈ wsX5_whoHasIt := nw_in nwl_X5_whoHasIt nwe_236 (by decide +kernel)
set_option maxHeartbeats 4000000 in
set_option maxRecDepth 100000 in
theorem tX5_whoHasIt_10 (K : XK p m c cX5_whoHasIt 3 s args wsX5_whoHasIt RX5 D (xtys cI cO) A meth (some .int)) {Q : Int32 → xF → xA → Prop} : ∀ (n : Nat), ∀ (x1 : Int32) (x2 : Int32) (F : xF) (G : xA), qX5_whoHasIt_10 Q n x1 x2 F G → XJ p l e rmX5_whoHasIt s m args below meth c 0 0 (MQ below (xQi D (w5 cI a) A Q) args s 0 0 A) D (xtys cI cO) A 3 (w5 cI a F G) 10 [(0, .ref (a 0)), (1, .int x1), (2, .int x2)] [] := by
  intro n
  induction n with
  | zero =>
    intro x1 x2 F G h
    exact False.elim h
  | succ n ih =>
    intro x1 x2 F G h
    refine x_iload_n (pc' := 11) K dX5_whoHasIt_10 2 rfl rfl ?_
    refine x_bipush (pc' := 13) (v := 8) K dX5_whoHasIt_11 (by decide) rfl ?_
    refine x_icmp_ge (tgt := 32) (pc' := 16) K dX5_whoHasIt_13 rfl rfl (fun c13 => ?_) (fun c13 => ?_)
    · replace h := h.1 c13
      refine x_iload_n (pc' := 33) K dX5_whoHasIt_32 2 rfl rfl ?_
      exact x_iret (wf := w5 cI a) K h dX5_whoHasIt_33
    · replace h := h.2 c13
      refine x_aload_n (pc' := 17) K dX5_whoHasIt_16 0 rfl rfl ?_
      refine xw5_0g_turn (pc' := 20) K hinX5_whoHasIt_X5 uX5_whoHasIt_f30 dX5_whoHasIt_17 rfl ?_
      refine x_iload_n (pc' := 21) K dX5_whoHasIt_20 2 rfl rfl ?_
      obtain ⟨i21, h⟩ := h
      refine xw5_7l (pc' := 22) K i21 rfl dX5_whoHasIt_21 rfl ?_
      refine x_iload_n (pc' := 23) K dX5_whoHasIt_22 1 rfl rfl ?_
      refine x_icmp_eq (tgt := 32) (pc' := 26) K dX5_whoHasIt_23 rfl rfl (fun c23 => ?_) (fun c23 => ?_)
      · replace h := h.1 c23
        refine x_iload_n (pc' := 33) K dX5_whoHasIt_32 2 rfl rfl ?_
        exact x_iret (wf := w5 cI a) K h dX5_whoHasIt_33
      · replace h := h.2 c23
        refine x_iinc (pc' := 29) (v := _ + (1 : Int32)) K dX5_whoHasIt_26 2 rfl rfl (by decide) [1, 2, 0] (L' := [(0, .ref (a 0)), (1, .int _), (2, .int _)]) rfl rfl ?_
        refine x_goto (tgt := 10) K dX5_whoHasIt_29 rfl ?_
        exact ih _ _ _ _ h
set_option maxHeartbeats 4000000 in
set_option maxRecDepth 100000 in
theorem mX5_whoHasIt (l : Launch) (D : va_G) (cI cO : ClassId) (a : Nat → Nat)   : MI l yX5_whoHasIt wsX5_whoHasIt rmX5_whoHasIt D (xtys cI cO) [.ref (a 0)] (w5 cI a) qX5_whoHasIt := by
  refine MI_of (cc := cX5_whoHasIt) (maxL := 3) (own := RX5) (by decide) rfl rfl (Nat.le_of_ble_eq_true rfl) ?_
  intro p e s m args below meth c A F G Q h K
  refine x_locals [0] (L' := [(0, .ref (a 0))]) rfl ?_
  refine x_aload_n (pc' := 1) K dX5_whoHasIt_0 0 rfl rfl ?_
  refine xw5_0g_day (pc' := 4) K hinX5_whoHasIt_X5 uX5_whoHasIt_f56 dX5_whoHasIt_1 rfl ?_
  refine x_bipush (pc' := 6) (v := 9) K dX5_whoHasIt_4 (by decide) rfl ?_
  refine x_irem (pc' := 7) K dX5_whoHasIt_6 (by decide) rfl ?_
  refine x_istore_n (pc' := 8) (i := 1) K dX5_whoHasIt_7 rfl (by decide) [1, 0] (L' := [(0, .ref (a 0)), (1, .int _)]) rfl rfl ?_
  refine x_iconst (pc' := 9) (v := 0) K dX5_whoHasIt_8 (by decide) rfl ?_
  refine x_istore_n (pc' := 10) (i := 2) K dX5_whoHasIt_9 rfl (by decide) [1, 2, 0] (L' := [(0, .ref (a 0)), (1, .int _), (2, .int _)]) rfl rfl ?_
  obtain ⟨n10, h⟩ := h
  exact tX5_whoHasIt_10 K n10 _ _ _ _ h
/-! X5_richestOak -/
abbrev rmX5_richestOak : Room := { frames := 2, cells := 0, slots := 0, locals := 60 }
theorem dsX5_richestOak : xDesc yX5_richestOak 0 := by decide +kernel
theorem uX5_richestOak_f15 : Cond.fieldLink RX5 15 "PigNinths$World" "under" "[I" ∈ wsX5_richestOak := nw_in nwl_X5_richestOak nwe_231 (by decide +kernel)
theorem hinX5_richestOak_X5 : ∀ w ∈ wsX50, w ∈ wsX5_richestOak := nw_all nwl_X5_richestOak nwl_X50 (by decide +kernel)
set_option maxHeartbeats 4000000 in
set_option maxRecDepth 100000 in
theorem tX5_richestOak_4 (K : XK p m c cX5_richestOak 3 s args wsX5_richestOak RX5 D (xtys cI cO) A meth (some .int)) {Q : Int32 → xF → xA → Prop} : ∀ (n : Nat), ∀ (x1 : Int32) (x2 : Int32) (F : xF) (G : xA), qX5_richestOak_4 Q n x1 x2 F G → XJ p l e rmX5_richestOak s m args below meth c 0 0 (MQ below (xQi D (w5 cI a) A Q) args s 0 0 A) D (xtys cI cO) A 3 (w5 cI a F G) 4 [(0, .ref (a 0)), (1, .int x1), (2, .int x2)] [] := by
  intro n
  induction n with
  | zero =>
    intro x1 x2 F G h
    exact False.elim h
  | succ n ih =>
    intro x1 x2 F G h
    refine x_iload_n (pc' := 5) K dX5_richestOak_4 2 rfl rfl ?_
    refine x_bipush (pc' := 7) (v := 16) K dX5_richestOak_5 (by decide) rfl ?_
    refine x_icmp_ge (tgt := 33) (pc' := 10) K dX5_richestOak_7 rfl rfl (fun c7 => ?_) (fun c7 => ?_)
    · replace h := h.1 c7
      refine x_iload_n (pc' := 34) K dX5_richestOak_33 1 rfl rfl ?_
      exact x_iret (wf := w5 cI a) K h dX5_richestOak_34
    · replace h := h.2 c7
      refine x_aload_n (pc' := 11) K dX5_richestOak_10 0 rfl rfl ?_
      refine xw5_0g_under (pc' := 14) K hinX5_richestOak_X5 uX5_richestOak_f15 dX5_richestOak_11 rfl ?_
      refine x_iload_n (pc' := 15) K dX5_richestOak_14 2 rfl rfl ?_
      obtain ⟨i15, h⟩ := h
      refine xw5_2l (pc' := 16) K i15 rfl dX5_richestOak_15 rfl ?_
      refine x_aload_n (pc' := 17) K dX5_richestOak_16 0 rfl rfl ?_
      refine xw5_0g_under (pc' := 20) K hinX5_richestOak_X5 uX5_richestOak_f15 dX5_richestOak_17 rfl ?_
      refine x_iload_n (pc' := 21) K dX5_richestOak_20 1 rfl rfl ?_
      obtain ⟨i21, h⟩ := h
      refine xw5_2l (pc' := 22) K i21 rfl dX5_richestOak_21 rfl ?_
      refine x_icmp_le (tgt := 27) (pc' := 25) K dX5_richestOak_22 rfl rfl (fun c22 => ?_) (fun c22 => ?_)
      · replace h := h.1 c22
        refine x_iinc (pc' := 30) (v := _ + (1 : Int32)) K dX5_richestOak_27 2 rfl rfl (by decide) [1, 2, 0] (L' := [(0, .ref (a 0)), (1, .int _), (2, .int _)]) rfl rfl ?_
        refine x_goto (tgt := 4) K dX5_richestOak_30 rfl ?_
        exact ih _ _ _ _ h
      · replace h := h.2 c22
        refine x_iload_n (pc' := 26) K dX5_richestOak_25 2 rfl rfl ?_
        refine x_istore_n (pc' := 27) (i := 1) K dX5_richestOak_26 rfl (by decide) [1, 0, 2] (L' := [(0, .ref (a 0)), (1, .int _), (2, .int _)]) rfl rfl ?_
        refine x_iinc (pc' := 30) (v := _ + (1 : Int32)) K dX5_richestOak_27 2 rfl rfl (by decide) [1, 2, 0] (L' := [(0, .ref (a 0)), (1, .int _), (2, .int _)]) rfl rfl ?_
        refine x_goto (tgt := 4) K dX5_richestOak_30 rfl ?_
        exact ih _ _ _ _ h
set_option maxHeartbeats 4000000 in
set_option maxRecDepth 100000 in
theorem mX5_richestOak (l : Launch) (D : va_G) (cI cO : ClassId) (a : Nat → Nat)   : MI l yX5_richestOak wsX5_richestOak rmX5_richestOak D (xtys cI cO) [.ref (a 0)] (w5 cI a) qX5_richestOak := by
  refine MI_of (cc := cX5_richestOak) (maxL := 3) (own := RX5) (by decide) rfl rfl (Nat.le_of_ble_eq_true rfl) ?_
  intro p e s m args below meth c A F G Q h K
  refine x_locals [0] (L' := [(0, .ref (a 0))]) rfl ?_
  refine x_iconst (pc' := 1) (v := 0) K dX5_richestOak_0 (by decide) rfl ?_
  refine x_istore_n (pc' := 2) (i := 1) K dX5_richestOak_1 rfl (by decide) [1, 0] (L' := [(0, .ref (a 0)), (1, .int _)]) rfl rfl ?_
  refine x_iconst (pc' := 3) (v := 1) K dX5_richestOak_2 (by decide) rfl ?_
  refine x_istore_n (pc' := 4) (i := 2) K dX5_richestOak_3 rfl (by decide) [1, 2, 0] (L' := [(0, .ref (a 0)), (1, .int _), (2, .int _)]) rfl rfl ?_
  obtain ⟨n4, h⟩ := h
  exact tX5_richestOak_4 K n4 _ _ _ _ h
/-! X5_dugFor -/
abbrev rmX5_dugFor : Room := { frames := 2, cells := 0, slots := 0, locals := 60 }
theorem dsX5_dugFor : xDesc yX5_dugFor 1 := by decide +kernel
theorem uX5_dugFor_f9 : Cond.fieldLink RX5 9 "PigNinths$World" "owner" "[I" ∈ wsX5_dugFor := nw_in nwl_X5_dugFor nwe_230 (by decide +kernel)
theorem hinX5_dugFor_X5 : ∀ w ∈ wsX50, w ∈ wsX5_dugFor := nw_all nwl_X5_dugFor nwl_X50 (by decide +kernel)
theorem uX5_dugFor_f65 : Cond.fieldLink RX5 65 "PigNinths$World" "dug" "[I" ∈ wsX5_dugFor := nw_in nwl_X5_dugFor nwe_248 (by decide +kernel)
set_option maxHeartbeats 4000000 in
set_option maxRecDepth 100000 in
theorem tX5_dugFor_4 (K : XK p m c cX5_dugFor 4 s args wsX5_dugFor RX5 D (xtys cI cO) A meth (some .int)) {Q : Int32 → xF → xA → Prop} : ∀ (n : Nat), ∀ (x1 : Int32) (x2 : Int32) (x3 : Int32) (F : xF) (G : xA), qX5_dugFor_4 Q n x1 x2 x3 F G → XJ p l e rmX5_dugFor s m args below meth c 0 0 (MQ below (xQi D (w5 cI a) A Q) args s 0 0 A) D (xtys cI cO) A 4 (w5 cI a F G) 4 [(0, .ref (a 0)), (1, .int x1), (2, .int x2), (3, .int x3)] [] := by
  intro n
  induction n with
  | zero =>
    intro x1 x2 x3 F G h
    exact False.elim h
  | succ n ih =>
    intro x1 x2 x3 F G h
    refine x_iload_n (pc' := 5) K dX5_dugFor_4 3 rfl rfl ?_
    refine x_bipush (pc' := 7) (v := 16) K dX5_dugFor_5 (by decide) rfl ?_
    refine x_icmp_ge (tgt := 39) (pc' := 10) K dX5_dugFor_7 rfl rfl (fun c7 => ?_) (fun c7 => ?_)
    · replace h := h.1 c7
      refine x_iload_n (pc' := 40) K dX5_dugFor_39 2 rfl rfl ?_
      exact x_iret (wf := w5 cI a) K h dX5_dugFor_40
    · replace h := h.2 c7
      refine x_iload_n (pc' := 11) K dX5_dugFor_10 2 rfl rfl ?_
      refine x_aload_n (pc' := 12) K dX5_dugFor_11 0 rfl rfl ?_
      refine xw5_0g_owner (pc' := 15) K hinX5_dugFor_X5 uX5_dugFor_f9 dX5_dugFor_12 rfl ?_
      refine x_iload_n (pc' := 16) K dX5_dugFor_15 3 rfl rfl ?_
      obtain ⟨i16, h⟩ := h
      refine xw5_1l (pc' := 17) K i16 rfl dX5_dugFor_16 rfl ?_
      refine x_iload_n (pc' := 18) K dX5_dugFor_17 1 rfl rfl ?_
      refine x_icmp_ne (tgt := 30) (pc' := 21) K dX5_dugFor_18 rfl rfl (fun c18 => ?_) (fun c18 => ?_)
      · replace h := h.1 c18
        refine x_iconst (pc' := 31) (v := 0) K dX5_dugFor_30 (by decide) rfl ?_
        refine x_iadd (pc' := 32) K dX5_dugFor_31 rfl ?_
        refine x_istore_n (pc' := 33) (i := 2) K dX5_dugFor_32 rfl (by decide) [1, 2, 0, 3] (L' := [(0, .ref (a 0)), (1, .int _), (2, .int _), (3, .int _)]) rfl rfl ?_
        refine x_iinc (pc' := 36) (v := _ + (1 : Int32)) K dX5_dugFor_33 3 rfl rfl (by decide) [1, 2, 3, 0] (L' := [(0, .ref (a 0)), (1, .int _), (2, .int _), (3, .int _)]) rfl rfl ?_
        refine x_goto (tgt := 4) K dX5_dugFor_36 rfl ?_
        exact ih _ _ _ _ _ h
      · replace h := h.2 c18
        refine x_aload_n (pc' := 22) K dX5_dugFor_21 0 rfl rfl ?_
        refine xw5_0g_dug (pc' := 25) K hinX5_dugFor_X5 uX5_dugFor_f65 dX5_dugFor_22 rfl ?_
        refine x_iload_n (pc' := 26) K dX5_dugFor_25 3 rfl rfl ?_
        obtain ⟨i26, h⟩ := h
        refine xw5_10l (pc' := 27) K i26 rfl dX5_dugFor_26 rfl ?_
        refine x_goto (tgt := 31) K dX5_dugFor_27 rfl ?_
        refine x_iadd (pc' := 32) K dX5_dugFor_31 rfl ?_
        refine x_istore_n (pc' := 33) (i := 2) K dX5_dugFor_32 rfl (by decide) [1, 2, 0, 3] (L' := [(0, .ref (a 0)), (1, .int _), (2, .int _), (3, .int _)]) rfl rfl ?_
        refine x_iinc (pc' := 36) (v := _ + (1 : Int32)) K dX5_dugFor_33 3 rfl rfl (by decide) [1, 2, 3, 0] (L' := [(0, .ref (a 0)), (1, .int _), (2, .int _), (3, .int _)]) rfl rfl ?_
        refine x_goto (tgt := 4) K dX5_dugFor_36 rfl ?_
        exact ih _ _ _ _ _ h
set_option maxHeartbeats 4000000 in
set_option maxRecDepth 100000 in
theorem mX5_dugFor (l : Launch) (D : va_G) (cI cO : ClassId) (a : Nat → Nat)  (x1 : Int32) : MI l yX5_dugFor wsX5_dugFor rmX5_dugFor D (xtys cI cO) [.ref (a 0), .int x1] (w5 cI a) (qX5_dugFor x1) := by
  refine MI_of (cc := cX5_dugFor) (maxL := 4) (own := RX5) (by decide) rfl rfl (Nat.le_of_ble_eq_true rfl) ?_
  intro p e s m args below meth c A F G Q h K
  refine x_locals [0, 1] (L' := [(0, .ref (a 0)), (1, .int _)]) rfl ?_
  refine x_iconst (pc' := 1) (v := 0) K dX5_dugFor_0 (by decide) rfl ?_
  refine x_istore_n (pc' := 2) (i := 2) K dX5_dugFor_1 rfl (by decide) [1, 2, 0] (L' := [(0, .ref (a 0)), (1, .int _), (2, .int _)]) rfl rfl ?_
  refine x_iconst (pc' := 3) (v := 0) K dX5_dugFor_2 (by decide) rfl ?_
  refine x_istore_n (pc' := 4) (i := 3) K dX5_dugFor_3 rfl (by decide) [1, 2, 3, 0] (L' := [(0, .ref (a 0)), (1, .int _), (2, .int _), (3, .int _)]) rfl rfl ?_
  obtain ⟨n4, h⟩ := h
  exact tX5_dugFor_4 K n4 _ _ _ _ _ h
/-! X5_drawRain -/
abbrev rmX5_drawRain : Room := { frames := 2, cells := 0, slots := 0, locals := 60 }
theorem dsX5_drawRain : xDesc yX5_drawRain 0 := by decide +kernel
theorem uX5_drawRain_f59 : Cond.fieldLink RX5 59 "PigNinths$World" "drawn" "I" ∈ wsX5_drawRain := nw_in nwl_X5_drawRain nwe_246 (by decide +kernel)
theorem hinX5_drawRain_X5 : ∀ w ∈ wsX50, w ∈ wsX5_drawRain := nw_all nwl_X5_drawRain nwl_X50 (by decide +kernel)
theorem uX5_drawRain_k98 : Jvm.Cond.constant RX5 98 (1103515245) ∈ wsX5_drawRain := nw_in nwl_X5_drawRain nwe_273 (by decide +kernel)
theorem uX5_drawRain_f46 : Cond.fieldLink RX5 46 "PigNinths$World" "rain" "I" ∈ wsX5_drawRain := nw_in nwl_X5_drawRain nwe_242 (by decide +kernel)
set_option maxHeartbeats 4000000 in
set_option maxRecDepth 100000 in
theorem mX5_drawRain (l : Launch) (D : va_G) (cI cO : ClassId) (a : Nat → Nat)   : MV l yX5_drawRain wsX5_drawRain rmX5_drawRain D (xtys cI cO) [.ref (a 0)] (w5 cI a) qX5_drawRain := by
  refine MV_of (cc := cX5_drawRain) (maxL := 1) (own := RX5) (by decide) rfl rfl (Nat.le_of_ble_eq_true rfl) ?_
  intro p e s m args below meth c A F G Q h K
  refine x_locals [0] (L' := [(0, .ref (a 0))]) rfl ?_
  refine x_aload_n (pc' := 1) K dX5_drawRain_0 0 rfl rfl ?_
  refine x_aload_n (pc' := 2) K dX5_drawRain_1 0 rfl rfl ?_
  refine xw5_0g_drawn (pc' := 5) K hinX5_drawRain_X5 uX5_drawRain_f59 dX5_drawRain_2 rfl ?_
  refine x_ldc (pc' := 7) K dX5_drawRain_5 uX5_drawRain_k98 rfl ?_
  refine x_imul (pc' := 8) K dX5_drawRain_7 rfl ?_
  refine x_sipush (pc' := 11) (v := 12345) K dX5_drawRain_8 (by decide) rfl ?_
  refine x_iadd (pc' := 12) K dX5_drawRain_11 rfl ?_
  refine xw5_0p_drawn (pc' := 15) K hinX5_drawRain_X5 uX5_drawRain_f59 dX5_drawRain_12 rfl (fun F12 eF12 => ?_)
  replace h := h F12 eF12
  refine x_aload_n (pc' := 16) K dX5_drawRain_15 0 rfl rfl ?_
  refine x_aload_n (pc' := 17) K dX5_drawRain_16 0 rfl rfl ?_
  refine xw5_0g_drawn (pc' := 20) K hinX5_drawRain_X5 uX5_drawRain_f59 dX5_drawRain_17 rfl ?_
  refine x_bipush (pc' := 22) (v := 8) K dX5_drawRain_20 (by decide) rfl ?_
  refine x_iushr (pc' := 23) K dX5_drawRain_22 rfl ?_
  refine x_bipush (pc' := 25) (v := 10) K dX5_drawRain_23 (by decide) rfl ?_
  refine x_irem (pc' := 26) K dX5_drawRain_25 (by decide) rfl ?_
  refine xw5_0p_rain (pc' := 29) K hinX5_drawRain_X5 uX5_drawRain_f46 dX5_drawRain_26 rfl (fun F26 eF26 => ?_)
  replace h := h F26 eF26
  exact x_vret (wf := w5 cI a) K h dX5_drawRain_29
/-! X5_smellOf -/
set_option maxHeartbeats 4000000 in
set_option maxRecDepth 100000 in
theorem xpl2 (cI : ClassId) (a : Nat → Nat) (F : xF) (G : xA) : (w5 cI a F G).Perm (xpick (bw5 cI a F G) [0, 1, 2, 3, 4, 5] ++ w3 cI (xsub a 15) (xsub F 6) (xsub G 12)) := xperm0 (bl := bw5 cI a F G) (n := 8) rfl rfl [0, 1, 2, 3, 4, 5] [6, 7] (by decide +kernel) rfl rfl
set_option maxHeartbeats 4000000 in
set_option maxRecDepth 100000 in
theorem xpr2 (cI : ClassId) (a : Nat → Nat) (F : xF) (G : xA) (F' : xF) (G' : xA) : (w5 cI a (xspl F 6 1 F') (xspl G 12 2 G')).Perm (xpick (bw5 cI a F G) [0, 1, 2, 3, 4, 5] ++ w3 cI (xsub a 15) F' G') := xperm0 (bl := bw5 cI a (xspl F 6 1 F') (xspl G 12 2 G')) (n := 8) rfl rfl [0, 1, 2, 3, 4, 5] [6, 7] (by decide +kernel) rfl rfl
abbrev rmX5_smellOf : Room := { frames := 4, cells := 0, slots := 0, locals := 109 }
theorem dsX5_smellOf : xDesc yX5_smellOf 1 := by decide +kernel
theorem uX5_smellOf_f43 : Cond.fieldLink RX5 43 "PigNinths$World" "nose" "LPigNinths$Text;" ∈ wsX5_smellOf := nw_in nwl_X5_smellOf nwe_241 (by decide +kernel)
theorem hinX5_smellOf_X5 : ∀ w ∈ wsX50, w ∈ wsX5_smellOf := nw_all nwl_X5_smellOf nwl_X50 (by decide +kernel)
theorem uX5_smellOf_f15 : Cond.fieldLink RX5 15 "PigNinths$World" "under" "[I" ∈ wsX5_smellOf := nw_in nwl_X5_smellOf nwe_231 (by decide +kernel)
theorem uX5_smellOf_f53 : Cond.fieldLink RX5 53 "PigNinths$World" "hunger" "I" ∈ wsX5_smellOf := nw_in nwl_X5_smellOf nwe_244 (by decide +kernel)
set_option maxHeartbeats 4000000 in
set_option maxRecDepth 100000 in
theorem mX5_smellOf (l : Launch) (D : va_G) (cI cO : ClassId) (a : Nat → Nat)  (x1 : Int32) : MI l yX5_smellOf wsX5_smellOf rmX5_smellOf D (xtys cI cO) [.ref (a 0), .int x1] (w5 cI a) (qX5_smellOf x1) := by
  refine MI_of (cc := cX5_smellOf) (maxL := 2) (own := RX5) (by decide) rfl rfl (Nat.le_of_ble_eq_true rfl) ?_
  intro p e s m args below meth c A F G Q h K
  refine x_locals [0, 1] (L' := [(0, .ref (a 0)), (1, .int _)]) rfl ?_
  refine x_aload_n (pc' := 1) K dX5_smellOf_0 0 rfl rfl ?_
  refine xw5_0g_nose (pc' := 4) K hinX5_smellOf_X5 uX5_smellOf_f43 dX5_smellOf_1 rfl ?_
  refine x_subI (pc' := 7) (wn := fun F' G' => w5 cI a (xspl F 6 1 F') (xspl G 12 2 G')) K (mX3_isThere l D cI cO (xsub a 15)) rfl gX5_smellOf_X3_isThere rfl dsX3_isThere ⟨rfl, rfl, ⟨Nat.le_of_ble_eq_true rfl, Nat.le_of_ble_eq_true rfl⟩, Nat.le_of_ble_eq_true rfl, Nat.le_of_ble_eq_true rfl⟩ h 3 0 rfl rfl (xpl2 cI a _ _) (fun F' G' => xpr2 cI a _ _ F' G') (st := []) rfl rfl (Nat.le_of_ble_eq_true rfl) dX5_smellOf_4 rfl (fun r4 F4 G4 h => ?_)
  obtain ⟨E4, eE4⟩ : ∃ x : xF, x = (xspl F 6 1 F4) := ⟨_, rfl⟩
  obtain ⟨H4, eH4⟩ : ∃ x : xA, x = (xspl G 12 2 G4) := ⟨_, rfl⟩
  refine x_weq (w' := w5 cI a E4 H4) (by subst eE4; subst eH4; rfl) ?_
  replace h := h E4 eE4
  replace h := h H4 eH4
  refine x_if_eq (tgt := 31) (pc' := 10) K dX5_smellOf_7 rfl rfl (fun c7 => ?_) (fun c7 => ?_)
  · replace h := h.1 c7
    refine x_aload_n (pc' := 32) K dX5_smellOf_31 0 rfl rfl ?_
    refine xw5_0g_under (pc' := 35) K hinX5_smellOf_X5 uX5_smellOf_f15 dX5_smellOf_32 rfl ?_
    refine x_iload_n (pc' := 36) K dX5_smellOf_35 1 rfl rfl ?_
    obtain ⟨i36, h⟩ := h
    refine xw5_2l (pc' := 37) K i36 rfl dX5_smellOf_36 rfl ?_
    exact x_iret (wf := w5 cI a) K h dX5_smellOf_37
  · replace h := h.2 c7
    refine x_aload_n (pc' := 11) K dX5_smellOf_10 0 rfl rfl ?_
    refine xw5_0g_nose (pc' := 14) K hinX5_smellOf_X5 uX5_smellOf_f43 dX5_smellOf_11 rfl ?_
    refine x_aload_n (pc' := 15) K dX5_smellOf_14 0 rfl rfl ?_
    refine xw5_0g_under (pc' := 18) K hinX5_smellOf_X5 uX5_smellOf_f15 dX5_smellOf_15 rfl ?_
    refine x_iload_n (pc' := 19) K dX5_smellOf_18 1 rfl rfl ?_
    obtain ⟨i19, h⟩ := h
    refine xw5_2l (pc' := 20) K i19 rfl dX5_smellOf_19 rfl ?_
    refine x_iload_n (pc' := 21) K dX5_smellOf_20 1 rfl rfl ?_
    refine x_aload_n (pc' := 22) K dX5_smellOf_21 0 rfl rfl ?_
    refine xw5_0g_hunger (pc' := 25) K hinX5_smellOf_X5 uX5_smellOf_f53 dX5_smellOf_22 rfl ?_
    refine x_subI (pc' := 28) (wn := fun F' G' => w5 cI a (xspl E4 6 1 F') (xspl H4 12 2 G')) K (mX3_value l D cI cO (xsub a 15) _ _ _) rfl gX5_smellOf_X3_value rfl dsX3_value ⟨rfl, rfl, ⟨Nat.le_of_ble_eq_true rfl, Nat.le_of_ble_eq_true rfl⟩, Nat.le_of_ble_eq_true rfl, Nat.le_of_ble_eq_true rfl⟩ h 3 0 rfl rfl (xpl2 cI a _ _) (fun F' G' => xpr2 cI a _ _ F' G') (st := []) rfl rfl (Nat.le_of_ble_eq_true rfl) dX5_smellOf_25 rfl (fun r25 F25 G25 h => ?_)
    obtain ⟨E25, eE25⟩ : ∃ x : xF, x = (xspl E4 6 1 F25) := ⟨_, rfl⟩
    obtain ⟨H25, eH25⟩ : ∃ x : xA, x = (xspl H4 12 2 G25) := ⟨_, rfl⟩
    refine x_weq (w' := w5 cI a E25 H25) (by subst eE25; subst eH25; rfl) ?_
    replace h := h E25 eE25
    replace h := h H25 eH25
    refine x_goto (tgt := 37) K dX5_smellOf_28 rfl ?_
    exact x_iret (wf := w5 cI a) K h dX5_smellOf_37
/-! X5_bestSmell -/
abbrev rmX5_bestSmell : Room := { frames := 2, cells := 0, slots := 0, locals := 60 }
theorem dsX5_bestSmell : xDesc yX5_bestSmell 0 := by decide +kernel
theorem uX5_bestSmell_f50 : Cond.fieldLink RX5 50 "PigNinths$World" "place" "I" ∈ wsX5_bestSmell := nw_in nwl_X5_bestSmell nwe_243 (by decide +kernel)
theorem hinX5_bestSmell_X5 : ∀ w ∈ wsX50, w ∈ wsX5_bestSmell := nw_all nwl_X5_bestSmell nwl_X50 (by decide +kernel)
theorem uX5_bestSmell_m142 : Cond.methodLink RX5 142 Lib.Math.abs.name ∈ wsX5_bestSmell := nw_in nwl_X5_bestSmell nwe_287 (by decide +kernel)
theorem uX5_bestSmell_msabs : Cond.static Lib.Math.abs.name ∈ wsX5_bestSmell := nw_in nwl_X5_bestSmell nwe_288 (by decide +kernel)
theorem uX5_bestSmell_mi : Cond.initialized "java/lang/Math" ∈ wsX5_bestSmell := nw_in nwl_X5_bestSmell nwe_79 (by decide +kernel)
theorem uX5_bestSmell_mcabs : Cond.code Lib.Math.abs.name Lib.Math.abs.code 1 (some .int) ∈ wsX5_bestSmell := nw_in nwl_X5_bestSmell nwe_289 (by decide +kernel)
theorem uX5_bestSmell_f62 : Cond.fieldLink RX5 62 "PigNinths$World" "smell" "[I" ∈ wsX5_bestSmell := nw_in nwl_X5_bestSmell nwe_247 (by decide +kernel)
set_option maxHeartbeats 4000000 in
set_option maxRecDepth 100000 in
theorem tX5_bestSmell_4 (K : XK p m c cX5_bestSmell 5 s args wsX5_bestSmell RX5 D (xtys cI cO) A meth (some .int)) {Q : Int32 → xF → xA → Prop} : ∀ (n : Nat), ∀ (x1 : Int32) (x2 : Int32) (F : xF) (G : xA), qX5_bestSmell_4 Q n x1 x2 F G → XJ p l e rmX5_bestSmell s m args below meth c 0 0 (MQ below (xQi D (w5 cI a) A Q) args s 0 0 A) D (xtys cI cO) A 5 (w5 cI a F G) 4 [(0, .ref (a 0)), (1, .int x1), (2, .int x2)] [] := by
  intro n
  induction n with
  | zero =>
    intro x1 x2 F G h
    exact False.elim h
  | succ n ih =>
    intro x1 x2 F G h
    refine x_iload_n (pc' := 5) K dX5_bestSmell_4 2 rfl rfl ?_
    refine x_bipush (pc' := 7) (v := 16) K dX5_bestSmell_5 (by decide) rfl ?_
    refine x_icmp_ge (tgt := 74) (pc' := 10) K dX5_bestSmell_7 rfl rfl (fun c7 => ?_) (fun c7 => ?_)
    · replace h := h.1 c7
      refine x_iload_n (pc' := 75) K dX5_bestSmell_74 1 rfl rfl ?_
      refine x_if_ge (tgt := 85) (pc' := 78) K dX5_bestSmell_75 rfl rfl (fun c75 => ?_) (fun c75 => ?_)
      · replace h := h.1 c75
        refine x_iload_n (pc' := 86) K dX5_bestSmell_85 1 rfl rfl ?_
        exact x_iret (wf := w5 cI a) K h dX5_bestSmell_86
      · replace h := h.2 c75
        refine x_aload_n (pc' := 79) K dX5_bestSmell_78 0 rfl rfl ?_
        refine xw5_0g_place (pc' := 82) K hinX5_bestSmell_X5 uX5_bestSmell_f50 dX5_bestSmell_79 rfl ?_
        refine x_goto (tgt := 86) K dX5_bestSmell_82 rfl ?_
        exact x_iret (wf := w5 cI a) K h dX5_bestSmell_86
    · replace h := h.2 c7
      refine x_iload_n (pc' := 11) K dX5_bestSmell_10 2 rfl rfl ?_
      refine x_iconst (pc' := 12) (v := 4) K dX5_bestSmell_11 (by decide) rfl ?_
      refine x_idiv (pc' := 13) K dX5_bestSmell_12 (by decide) rfl ?_
      refine x_aload_n (pc' := 14) K dX5_bestSmell_13 0 rfl rfl ?_
      refine xw5_0g_place (pc' := 17) K hinX5_bestSmell_X5 uX5_bestSmell_f50 dX5_bestSmell_14 rfl ?_
      refine x_iconst (pc' := 18) (v := 4) K dX5_bestSmell_17 (by decide) rfl ?_
      refine x_idiv (pc' := 19) K dX5_bestSmell_18 (by decide) rfl ?_
      refine x_isub (pc' := 20) K dX5_bestSmell_19 rfl ?_
      refine x_mabs (pc' := 23) K uX5_bestSmell_m142 uX5_bestSmell_msabs uX5_bestSmell_mi uX5_bestSmell_mcabs (Nat.le_of_ble_eq_true rfl) (Nat.le_of_ble_eq_true rfl) (Nat.le_of_ble_eq_true rfl) (Nat.le_of_ble_eq_true rfl) dX5_bestSmell_20 rfl ?_
      refine x_istore_n (pc' := 24) (i := 3) K dX5_bestSmell_23 rfl (by decide) [1, 2, 3, 0] (L' := [(0, .ref (a 0)), (1, .int _), (2, .int _), (3, .int _)]) rfl rfl ?_
      refine x_iload_n (pc' := 25) K dX5_bestSmell_24 2 rfl rfl ?_
      refine x_iconst (pc' := 26) (v := 4) K dX5_bestSmell_25 (by decide) rfl ?_
      refine x_irem (pc' := 27) K dX5_bestSmell_26 (by decide) rfl ?_
      refine x_aload_n (pc' := 28) K dX5_bestSmell_27 0 rfl rfl ?_
      refine xw5_0g_place (pc' := 31) K hinX5_bestSmell_X5 uX5_bestSmell_f50 dX5_bestSmell_28 rfl ?_
      refine x_iconst (pc' := 32) (v := 4) K dX5_bestSmell_31 (by decide) rfl ?_
      refine x_irem (pc' := 33) K dX5_bestSmell_32 (by decide) rfl ?_
      refine x_isub (pc' := 34) K dX5_bestSmell_33 rfl ?_
      refine x_mabs (pc' := 37) K uX5_bestSmell_m142 uX5_bestSmell_msabs uX5_bestSmell_mi uX5_bestSmell_mcabs (Nat.le_of_ble_eq_true rfl) (Nat.le_of_ble_eq_true rfl) (Nat.le_of_ble_eq_true rfl) (Nat.le_of_ble_eq_true rfl) dX5_bestSmell_34 rfl ?_
      refine x_istore (pc' := 39) (i := 4) K dX5_bestSmell_37 (by decide) [1, 2, 3, 4, 0] (L' := [(0, .ref (a 0)), (1, .int _), (2, .int _), (3, .int _), (4, .int _)]) rfl rfl ?_
      refine x_iload_n (pc' := 40) K dX5_bestSmell_39 3 rfl rfl ?_
      refine x_iload (pc' := 42) K dX5_bestSmell_40 4 rfl rfl ?_
      refine x_iadd (pc' := 43) K dX5_bestSmell_42 rfl ?_
      refine x_iconst (pc' := 44) (v := 1) K dX5_bestSmell_43 (by decide) rfl ?_
      refine x_icmp_gt (tgt := 68) (pc' := 47) K dX5_bestSmell_44 rfl rfl (fun c44 => ?_) (fun c44 => ?_)
      · replace h := h.1 c44
        refine x_iinc (pc' := 71) (v := _ + (1 : Int32)) K dX5_bestSmell_68 2 rfl rfl (by decide) [1, 2, 0, 3, 4] (L' := [(0, .ref (a 0)), (1, .int _), (2, .int _), (3, .int _), (4, .int _)]) rfl rfl ?_
        refine x_goto (tgt := 4) K dX5_bestSmell_71 rfl ?_
        refine x_locals [0, 1, 2] (L' := [(0, .ref (a 0)), (1, .int _), (2, .int _)]) rfl ?_
        exact ih _ _ _ _ h
      · replace h := h.2 c44
        refine x_iload_n (pc' := 48) K dX5_bestSmell_47 1 rfl rfl ?_
        refine x_if_lt (tgt := 66) (pc' := 51) K dX5_bestSmell_48 rfl rfl (fun c48 => ?_) (fun c48 => ?_)
        · replace h := h.1 c48
          refine x_iload_n (pc' := 67) K dX5_bestSmell_66 2 rfl rfl ?_
          refine x_istore_n (pc' := 68) (i := 1) K dX5_bestSmell_67 rfl (by decide) [1, 0, 2, 3, 4] (L' := [(0, .ref (a 0)), (1, .int _), (2, .int _), (3, .int _), (4, .int _)]) rfl rfl ?_
          refine x_iinc (pc' := 71) (v := _ + (1 : Int32)) K dX5_bestSmell_68 2 rfl rfl (by decide) [1, 2, 0, 3, 4] (L' := [(0, .ref (a 0)), (1, .int _), (2, .int _), (3, .int _), (4, .int _)]) rfl rfl ?_
          refine x_goto (tgt := 4) K dX5_bestSmell_71 rfl ?_
          refine x_locals [0, 1, 2] (L' := [(0, .ref (a 0)), (1, .int _), (2, .int _)]) rfl ?_
          exact ih _ _ _ _ h
        · replace h := h.2 c48
          refine x_aload_n (pc' := 52) K dX5_bestSmell_51 0 rfl rfl ?_
          refine xw5_0g_smell (pc' := 55) K hinX5_bestSmell_X5 uX5_bestSmell_f62 dX5_bestSmell_52 rfl ?_
          refine x_iload_n (pc' := 56) K dX5_bestSmell_55 2 rfl rfl ?_
          obtain ⟨i56, h⟩ := h
          refine xw5_9l (pc' := 57) K i56 rfl dX5_bestSmell_56 rfl ?_
          refine x_aload_n (pc' := 58) K dX5_bestSmell_57 0 rfl rfl ?_
          refine xw5_0g_smell (pc' := 61) K hinX5_bestSmell_X5 uX5_bestSmell_f62 dX5_bestSmell_58 rfl ?_
          refine x_iload_n (pc' := 62) K dX5_bestSmell_61 1 rfl rfl ?_
          obtain ⟨i62, h⟩ := h
          refine xw5_9l (pc' := 63) K i62 rfl dX5_bestSmell_62 rfl ?_
          refine x_icmp_le (tgt := 68) (pc' := 66) K dX5_bestSmell_63 rfl rfl (fun c63 => ?_) (fun c63 => ?_)
          · replace h := h.1 c63
            refine x_iinc (pc' := 71) (v := _ + (1 : Int32)) K dX5_bestSmell_68 2 rfl rfl (by decide) [1, 2, 0, 3, 4] (L' := [(0, .ref (a 0)), (1, .int _), (2, .int _), (3, .int _), (4, .int _)]) rfl rfl ?_
            refine x_goto (tgt := 4) K dX5_bestSmell_71 rfl ?_
            refine x_locals [0, 1, 2] (L' := [(0, .ref (a 0)), (1, .int _), (2, .int _)]) rfl ?_
            exact ih _ _ _ _ h
          · replace h := h.2 c63
            refine x_iload_n (pc' := 67) K dX5_bestSmell_66 2 rfl rfl ?_
            refine x_istore_n (pc' := 68) (i := 1) K dX5_bestSmell_67 rfl (by decide) [1, 0, 2, 3, 4] (L' := [(0, .ref (a 0)), (1, .int _), (2, .int _), (3, .int _), (4, .int _)]) rfl rfl ?_
            refine x_iinc (pc' := 71) (v := _ + (1 : Int32)) K dX5_bestSmell_68 2 rfl rfl (by decide) [1, 2, 0, 3, 4] (L' := [(0, .ref (a 0)), (1, .int _), (2, .int _), (3, .int _), (4, .int _)]) rfl rfl ?_
            refine x_goto (tgt := 4) K dX5_bestSmell_71 rfl ?_
            refine x_locals [0, 1, 2] (L' := [(0, .ref (a 0)), (1, .int _), (2, .int _)]) rfl ?_
            exact ih _ _ _ _ h
set_option maxHeartbeats 4000000 in
set_option maxRecDepth 100000 in
theorem mX5_bestSmell (l : Launch) (D : va_G) (cI cO : ClassId) (a : Nat → Nat)   : MI l yX5_bestSmell wsX5_bestSmell rmX5_bestSmell D (xtys cI cO) [.ref (a 0)] (w5 cI a) qX5_bestSmell := by
  refine MI_of (cc := cX5_bestSmell) (maxL := 5) (own := RX5) (by decide) rfl rfl (Nat.le_of_ble_eq_true rfl) ?_
  intro p e s m args below meth c A F G Q h K
  refine x_locals [0] (L' := [(0, .ref (a 0))]) rfl ?_
  refine x_iconst (pc' := 1) (v := -1) K dX5_bestSmell_0 (by decide) rfl ?_
  refine x_istore_n (pc' := 2) (i := 1) K dX5_bestSmell_1 rfl (by decide) [1, 0] (L' := [(0, .ref (a 0)), (1, .int _)]) rfl rfl ?_
  refine x_iconst (pc' := 3) (v := 0) K dX5_bestSmell_2 (by decide) rfl ?_
  refine x_istore_n (pc' := 4) (i := 2) K dX5_bestSmell_3 rfl (by decide) [1, 2, 0] (L' := [(0, .ref (a 0)), (1, .int _), (2, .int _)]) rfl rfl ?_
  obtain ⟨n4, h⟩ := h
  exact tX5_bestSmell_4 K n4 _ _ _ _ h
/-! X5_toPurse -/
abbrev rmX5_toPurse : Room := { frames := 2, cells := 0, slots := 0, locals := 60 }
theorem dsX5_toPurse : xDesc yX5_toPurse 2 := by decide +kernel
theorem uX5_toPurse_f24 : Cond.fieldLink RX5 24 "PigNinths$World" "purse" "[I" ∈ wsX5_toPurse := nw_in nwl_X5_toPurse nwe_234 (by decide +kernel)
theorem hinX5_toPurse_X5 : ∀ w ∈ wsX50, w ∈ wsX5_toPurse := nw_all nwl_X5_toPurse nwl_X50 (by decide +kernel)
theorem uX5_toPurse_k148 : Jvm.Cond.constant RX5 148 (99999999) ∈ wsX5_toPurse := nw_in nwl_X5_toPurse nwe_297 (by decide +kernel)
theorem uX5_toPurse_m120 : Cond.methodLink RX5 120 Lib.Math.min.name ∈ wsX5_toPurse := nw_in nwl_X5_toPurse nwe_263 (by decide +kernel)
theorem uX5_toPurse_msmin : Cond.static Lib.Math.min.name ∈ wsX5_toPurse := nw_in nwl_X5_toPurse nwe_96 (by decide +kernel)
theorem uX5_toPurse_mi : Cond.initialized "java/lang/Math" ∈ wsX5_toPurse := nw_in nwl_X5_toPurse nwe_79 (by decide +kernel)
theorem uX5_toPurse_mcmin : Cond.code Lib.Math.min.name Lib.Math.min.code 2 (some .int) ∈ wsX5_toPurse := nw_in nwl_X5_toPurse nwe_97 (by decide +kernel)
set_option maxHeartbeats 4000000 in
set_option maxRecDepth 100000 in
theorem mX5_toPurse (l : Launch) (D : va_G) (cI cO : ClassId) (a : Nat → Nat)  (x1 : Int32) (x2 : Int32) : MV l yX5_toPurse wsX5_toPurse rmX5_toPurse D (xtys cI cO) [.ref (a 0), .int x1, .int x2] (w5 cI a) (qX5_toPurse x1 x2) := by
  refine MV_of (cc := cX5_toPurse) (maxL := 3) (own := RX5) (by decide) rfl rfl (Nat.le_of_ble_eq_true rfl) ?_
  intro p e s m args below meth c A F G Q h K
  refine x_locals [0, 1, 2] (L' := [(0, .ref (a 0)), (1, .int _), (2, .int _)]) rfl ?_
  refine x_aload_n (pc' := 1) K dX5_toPurse_0 0 rfl rfl ?_
  refine xw5_0g_purse (pc' := 4) K hinX5_toPurse_X5 uX5_toPurse_f24 dX5_toPurse_1 rfl ?_
  refine x_iload_n (pc' := 5) K dX5_toPurse_4 1 rfl rfl ?_
  refine x_ldc (pc' := 7) K dX5_toPurse_5 uX5_toPurse_k148 rfl ?_
  refine x_aload_n (pc' := 8) K dX5_toPurse_7 0 rfl rfl ?_
  refine xw5_0g_purse (pc' := 11) K hinX5_toPurse_X5 uX5_toPurse_f24 dX5_toPurse_8 rfl ?_
  refine x_iload_n (pc' := 12) K dX5_toPurse_11 1 rfl rfl ?_
  obtain ⟨i12, h⟩ := h
  refine xw5_5l (pc' := 13) K i12 rfl dX5_toPurse_12 rfl ?_
  refine x_iload_n (pc' := 14) K dX5_toPurse_13 2 rfl rfl ?_
  refine x_iadd (pc' := 15) K dX5_toPurse_14 rfl ?_
  refine x_mmin (pc' := 18) K uX5_toPurse_m120 uX5_toPurse_msmin uX5_toPurse_mi uX5_toPurse_mcmin (Nat.le_of_ble_eq_true rfl) (Nat.le_of_ble_eq_true rfl) (Nat.le_of_ble_eq_true rfl) (Nat.le_of_ble_eq_true rfl) dX5_toPurse_15 rfl ?_
  obtain ⟨i18, h⟩ := h
  refine xw5_5s (pc' := 19) K i18 rfl dX5_toPurse_18 rfl (fun G18 eG18 => ?_)
  replace h := h G18 eG18
  exact x_vret (wf := w5 cI a) K h dX5_toPurse_19
/-! X5_held -/
abbrev rmX5_held : Room := { frames := 2, cells := 0, slots := 0, locals := 60 }
theorem dsX5_held : xDesc yX5_held 1 := by decide +kernel
theorem uX5_held_m120 : Cond.methodLink RX5 120 Lib.Math.min.name ∈ wsX5_held := nw_in nwl_X5_held nwe_263 (by decide +kernel)
theorem uX5_held_msmin : Cond.static Lib.Math.min.name ∈ wsX5_held := nw_in nwl_X5_held nwe_96 (by decide +kernel)
theorem uX5_held_mi : Cond.initialized "java/lang/Math" ∈ wsX5_held := nw_in nwl_X5_held nwe_79 (by decide +kernel)
theorem uX5_held_mcmin : Cond.code Lib.Math.min.name Lib.Math.min.code 2 (some .int) ∈ wsX5_held := nw_in nwl_X5_held nwe_97 (by decide +kernel)
theorem uX5_held_m152 : Cond.methodLink RX5 152 Lib.Math.max.name ∈ wsX5_held := nw_in nwl_X5_held nwe_264 (by decide +kernel)
theorem uX5_held_msmax : Cond.static Lib.Math.max.name ∈ wsX5_held := nw_in nwl_X5_held nwe_78 (by decide +kernel)
theorem uX5_held_mcmax : Cond.code Lib.Math.max.name Lib.Math.max.code 2 (some .int) ∈ wsX5_held := nw_in nwl_X5_held nwe_80 (by decide +kernel)
set_option maxHeartbeats 4000000 in
set_option maxRecDepth 100000 in
theorem mX5_held (l : Launch) (D : va_G) (cI cO : ClassId) (a : Nat → Nat)  (x0 : Int32) : MS l yX5_held wsX5_held rmX5_held D (xtys cI cO) [.int x0] (qX5_held x0) := by
  refine MS_of (cc := cX5_held) (maxL := 1) (own := RX5) (by decide) rfl rfl (Nat.le_of_ble_eq_true rfl) ?_
  intro p e s m args below meth c A Q h K
  refine x_locals [0] (L' := [(0, .int _)]) rfl ?_
  refine x_iconst (pc' := 1) (v := 0) K dX5_held_0 (by decide) rfl ?_
  refine x_bipush (pc' := 3) (v := 9) K dX5_held_1 (by decide) rfl ?_
  refine x_iload_n (pc' := 4) K dX5_held_3 0 rfl rfl ?_
  refine x_mmin (pc' := 7) K uX5_held_m120 uX5_held_msmin uX5_held_mi uX5_held_mcmin (Nat.le_of_ble_eq_true rfl) (Nat.le_of_ble_eq_true rfl) (Nat.le_of_ble_eq_true rfl) (Nat.le_of_ble_eq_true rfl) dX5_held_4 rfl ?_
  refine x_mmax (pc' := 10) K uX5_held_m152 uX5_held_msmax uX5_held_mi uX5_held_mcmax (Nat.le_of_ble_eq_true rfl) (Nat.le_of_ble_eq_true rfl) (Nat.le_of_ble_eq_true rfl) (Nat.le_of_ble_eq_true rfl) dX5_held_7 rfl ?_
  exact x_siret K h dX5_held_10
/-! X5_within4 -/
abbrev rmX5_within4 : Room := { frames := 2, cells := 0, slots := 0, locals := 60 }
theorem dsX5_within4 : xDesc yX5_within4 1 := by decide +kernel
theorem uX5_within4_m120 : Cond.methodLink RX5 120 Lib.Math.min.name ∈ wsX5_within4 := nw_in nwl_X5_within4 nwe_263 (by decide +kernel)
theorem uX5_within4_msmin : Cond.static Lib.Math.min.name ∈ wsX5_within4 := nw_in nwl_X5_within4 nwe_96 (by decide +kernel)
theorem uX5_within4_mi : Cond.initialized "java/lang/Math" ∈ wsX5_within4 := nw_in nwl_X5_within4 nwe_79 (by decide +kernel)
theorem uX5_within4_mcmin : Cond.code Lib.Math.min.name Lib.Math.min.code 2 (some .int) ∈ wsX5_within4 := nw_in nwl_X5_within4 nwe_97 (by decide +kernel)
theorem uX5_within4_m152 : Cond.methodLink RX5 152 Lib.Math.max.name ∈ wsX5_within4 := nw_in nwl_X5_within4 nwe_264 (by decide +kernel)
theorem uX5_within4_msmax : Cond.static Lib.Math.max.name ∈ wsX5_within4 := nw_in nwl_X5_within4 nwe_78 (by decide +kernel)
theorem uX5_within4_mcmax : Cond.code Lib.Math.max.name Lib.Math.max.code 2 (some .int) ∈ wsX5_within4 := nw_in nwl_X5_within4 nwe_80 (by decide +kernel)
set_option maxHeartbeats 4000000 in
set_option maxRecDepth 100000 in
theorem mX5_within4 (l : Launch) (D : va_G) (cI cO : ClassId) (a : Nat → Nat)  (x0 : Int32) : MS l yX5_within4 wsX5_within4 rmX5_within4 D (xtys cI cO) [.int x0] (qX5_within4 x0) := by
  refine MS_of (cc := cX5_within4) (maxL := 1) (own := RX5) (by decide) rfl rfl (Nat.le_of_ble_eq_true rfl) ?_
  intro p e s m args below meth c A Q h K
  refine x_locals [0] (L' := [(0, .int _)]) rfl ?_
  refine x_iconst (pc' := 1) (v := 0) K dX5_within4_0 (by decide) rfl ?_
  refine x_iconst (pc' := 2) (v := 3) K dX5_within4_1 (by decide) rfl ?_
  refine x_iload_n (pc' := 3) K dX5_within4_2 0 rfl rfl ?_
  refine x_mmin (pc' := 6) K uX5_within4_m120 uX5_within4_msmin uX5_within4_mi uX5_within4_mcmin (Nat.le_of_ble_eq_true rfl) (Nat.le_of_ble_eq_true rfl) (Nat.le_of_ble_eq_true rfl) (Nat.le_of_ble_eq_true rfl) dX5_within4_3 rfl ?_
  refine x_mmax (pc' := 9) K uX5_within4_m152 uX5_within4_msmax uX5_within4_mi uX5_within4_mcmax (Nat.le_of_ble_eq_true rfl) (Nat.le_of_ble_eq_true rfl) (Nat.le_of_ble_eq_true rfl) (Nat.le_of_ble_eq_true rfl) dX5_within4_6 rfl ?_
  exact x_siret K h dX5_within4_9
/-! X5_beside -/
abbrev rmX5_beside : Room := { frames := 2, cells := 0, slots := 0, locals := 60 }
theorem dsX5_beside : xDesc yX5_beside 2 := by decide +kernel
set_option maxHeartbeats 4000000 in
set_option maxRecDepth 100000 in
theorem mX5_beside (l : Launch) (D : va_G) (cI cO : ClassId) (a : Nat → Nat)  (x0 : Int32) (x1 : Int32) : MS l yX5_beside wsX5_beside rmX5_beside D (xtys cI cO) [.int x0, .int x1] (qX5_beside x0 x1) := by
  refine MS_of (cc := cX5_beside) (maxL := 2) (own := RX5) (by decide) rfl rfl (Nat.le_of_ble_eq_true rfl) ?_
  intro p e s m args below meth c A Q h K
  refine x_locals [0, 1] (L' := [(0, .int _), (1, .int _)]) rfl ?_
  refine x_iload_n (pc' := 1) K dX5_beside_0 1 rfl rfl ?_
  refine (Classical.em (x1 = (0 : Int32))).elim (fun e1 => ?_) (fun e1_1 => ?_)
  · replace h := h.1 e1
    refine x_tableIn (tgt := 32) (off := 31) K dX5_beside_1 (by rw [e1]; decide) (by rw [e1]; decide) (by rw [e1]; rfl) rfl ?_
    refine x_iload_n (pc' := 33) K dX5_beside_32 0 rfl rfl ?_
    refine x_iconst (pc' := 34) (v := 4) K dX5_beside_33 (by decide) rfl ?_
    refine x_icmp_lt (tgt := 43) (pc' := 37) K dX5_beside_34 rfl rfl (fun c34 => ?_) (fun c34 => ?_)
    · replace h := h.1 c34
      refine x_iconst (pc' := 44) (v := -1) K dX5_beside_43 (by decide) rfl ?_
      exact x_siret K h dX5_beside_44
    · replace h := h.2 c34
      refine x_iload_n (pc' := 38) K dX5_beside_37 0 rfl rfl ?_
      refine x_iconst (pc' := 39) (v := 4) K dX5_beside_38 (by decide) rfl ?_
      refine x_isub (pc' := 40) K dX5_beside_39 rfl ?_
      refine x_goto (tgt := 44) K dX5_beside_40 rfl ?_
      exact x_siret K h dX5_beside_44
  · replace h := h.2 e1_1
    refine (Classical.em (x1 = (1 : Int32))).elim (fun e1 => ?_) (fun e1_2 => ?_)
    · replace h := h.1 e1
      refine x_tableIn (tgt := 45) (off := 44) K dX5_beside_1 (by rw [e1]; decide) (by rw [e1]; decide) (by rw [e1]; rfl) rfl ?_
      refine x_iload_n (pc' := 46) K dX5_beside_45 0 rfl rfl ?_
      refine x_iconst (pc' := 47) (v := 4) K dX5_beside_46 (by decide) rfl ?_
      refine x_irem (pc' := 48) K dX5_beside_47 (by decide) rfl ?_
      refine x_iconst (pc' := 49) (v := 3) K dX5_beside_48 (by decide) rfl ?_
      refine x_icmp_ge (tgt := 58) (pc' := 52) K dX5_beside_49 rfl rfl (fun c49 => ?_) (fun c49 => ?_)
      · replace h := h.1 c49
        refine x_iconst (pc' := 59) (v := -1) K dX5_beside_58 (by decide) rfl ?_
        exact x_siret K h dX5_beside_59
      · replace h := h.2 c49
        refine x_iload_n (pc' := 53) K dX5_beside_52 0 rfl rfl ?_
        refine x_iconst (pc' := 54) (v := 1) K dX5_beside_53 (by decide) rfl ?_
        refine x_iadd (pc' := 55) K dX5_beside_54 rfl ?_
        refine x_goto (tgt := 59) K dX5_beside_55 rfl ?_
        exact x_siret K h dX5_beside_59
    · replace h := h.2 e1_2
      refine (Classical.em (x1 = (2 : Int32))).elim (fun e1 => ?_) (fun e1_3 => ?_)
      · replace h := h.1 e1
        refine x_tableIn (tgt := 60) (off := 59) K dX5_beside_1 (by rw [e1]; decide) (by rw [e1]; decide) (by rw [e1]; rfl) rfl ?_
        refine x_iload_n (pc' := 61) K dX5_beside_60 0 rfl rfl ?_
        refine x_bipush (pc' := 63) (v := 12) K dX5_beside_61 (by decide) rfl ?_
        refine x_icmp_ge (tgt := 72) (pc' := 66) K dX5_beside_63 rfl rfl (fun c63 => ?_) (fun c63 => ?_)
        · replace h := h.1 c63
          refine x_iconst (pc' := 73) (v := -1) K dX5_beside_72 (by decide) rfl ?_
          exact x_siret K h dX5_beside_73
        · replace h := h.2 c63
          refine x_iload_n (pc' := 67) K dX5_beside_66 0 rfl rfl ?_
          refine x_iconst (pc' := 68) (v := 4) K dX5_beside_67 (by decide) rfl ?_
          refine x_iadd (pc' := 69) K dX5_beside_68 rfl ?_
          refine x_goto (tgt := 73) K dX5_beside_69 rfl ?_
          exact x_siret K h dX5_beside_73
      · replace h := h.2 e1_3
        refine (Classical.em (x1 = (3 : Int32))).elim (fun e1 => ?_) (fun e1_4 => ?_)
        · replace h := h.1 e1
          refine x_tableIn (tgt := 74) (off := 73) K dX5_beside_1 (by rw [e1]; decide) (by rw [e1]; decide) (by rw [e1]; rfl) rfl ?_
          refine x_iload_n (pc' := 75) K dX5_beside_74 0 rfl rfl ?_
          refine x_iconst (pc' := 76) (v := 4) K dX5_beside_75 (by decide) rfl ?_
          refine x_irem (pc' := 77) K dX5_beside_76 (by decide) rfl ?_
          refine x_if_le (tgt := 86) (pc' := 80) K dX5_beside_77 rfl rfl (fun c77 => ?_) (fun c77 => ?_)
          · replace h := h.1 c77
            refine x_iconst (pc' := 87) (v := -1) K dX5_beside_86 (by decide) rfl ?_
            exact x_siret K h dX5_beside_87
          · replace h := h.2 c77
            refine x_iload_n (pc' := 81) K dX5_beside_80 0 rfl rfl ?_
            refine x_iconst (pc' := 82) (v := 1) K dX5_beside_81 (by decide) rfl ?_
            refine x_isub (pc' := 83) K dX5_beside_82 rfl ?_
            refine x_goto (tgt := 87) K dX5_beside_83 rfl ?_
            exact x_siret K h dX5_beside_87
        · replace h := h.2 e1_4
          have f1_1 := xtin (i := 0) e1_1 (by decide)
          have f1_2 := xtin (i := 1) e1_2 (by decide)
          have f1_3 := xtin (i := 2) e1_3 (by decide)
          have f1_4 := xtin (i := 3) e1_4 (by decide)
          refine (Classical.em (x1.toInt < 0 ∨ 3 < x1.toInt)).elim (fun g1 => ?_) (fun g1 => ?_)
          · refine x_tableOut (tgt := 88) K dX5_beside_1 g1 rfl ?_
            refine x_iconst (pc' := 89) (v := -1) K dX5_beside_88 (by decide) rfl ?_
            exact x_siret K h dX5_beside_89
          · exact absurd g1 (by omega)
/-! X5_takeWoodFrom -/
abbrev rmX5_takeWoodFrom : Room := { frames := 3, cells := 0, slots := 0, locals := 200 }
theorem dsX5_takeWoodFrom : xDesc yX5_takeWoodFrom 1 := by decide +kernel
theorem uX5_takeWoodFrom_f15 : Cond.fieldLink RX5 15 "PigNinths$World" "under" "[I" ∈ wsX5_takeWoodFrom := nw_in nwl_X5_takeWoodFrom nwe_231 (by decide +kernel)
theorem hinX5_takeWoodFrom_X5 : ∀ w ∈ wsX50, w ∈ wsX5_takeWoodFrom := nw_all nwl_X5_takeWoodFrom nwl_X50 (by decide +kernel)
theorem uX5_takeWoodFrom_m74 : Cond.methodLink RX5 74 arraycopyName ∈ wsX5_takeWoodFrom := nw_in nwl_X5_takeWoodFrom nwe_253 (by decide +kernel)
theorem uX5_takeWoodFrom_cn : Cond.native arraycopyName ∈ wsX5_takeWoodFrom := nw_in nwl_X5_takeWoodFrom nwe_99 (by decide +kernel)
theorem uX5_takeWoodFrom_cs : Cond.static arraycopyName ∈ wsX5_takeWoodFrom := nw_in nwl_X5_takeWoodFrom nwe_100 (by decide +kernel)
theorem uX5_takeWoodFrom_ci : Cond.initialized "java/lang/System" ∈ wsX5_takeWoodFrom := nw_in nwl_X5_takeWoodFrom nwe_101 (by decide +kernel)
theorem uX5_takeWoodFrom_f62 : Cond.fieldLink RX5 62 "PigNinths$World" "smell" "[I" ∈ wsX5_takeWoodFrom := nw_in nwl_X5_takeWoodFrom nwe_247 (by decide +kernel)
theorem uX5_takeWoodFrom_f50 : Cond.fieldLink RX5 50 "PigNinths$World" "place" "I" ∈ wsX5_takeWoodFrom := nw_in nwl_X5_takeWoodFrom nwe_243 (by decide +kernel)
set_option maxHeartbeats 4000000 in
set_option maxRecDepth 100000 in
theorem mX5_takeWoodFrom (l : Launch) (D : va_G) (cI cO : ClassId) (a : Nat → Nat)   : MV l yX5_takeWoodFrom wsX5_takeWoodFrom rmX5_takeWoodFrom D (xtys cI cO) [.ref (a 0), .ref (a 19)] (w55 cI a) qX5_takeWoodFrom := by
  refine MV_of (cc := cX5_takeWoodFrom) (maxL := 2) (own := RX5) (by decide) rfl rfl (Nat.le_of_ble_eq_true rfl) ?_
  intro p e s m args below meth c A F G Q h K
  refine x_locals [0, 1] (L' := [(0, .ref (a 0)), (1, .ref (a 19))]) rfl ?_
  refine x_aload_n (pc' := 1) K dX5_takeWoodFrom_0 1 rfl rfl ?_
  refine xw55_19g_under (pc' := 4) K hinX5_takeWoodFrom_X5 uX5_takeWoodFrom_f15 dX5_takeWoodFrom_1 rfl ?_
  refine x_iconst (pc' := 5) (v := 0) K dX5_takeWoodFrom_4 (by decide) rfl ?_
  refine x_aload_n (pc' := 6) K dX5_takeWoodFrom_5 0 rfl rfl ?_
  refine xw55_0g_under (pc' := 9) K hinX5_takeWoodFrom_X5 uX5_takeWoodFrom_f15 dX5_takeWoodFrom_6 rfl ?_
  refine x_iconst (pc' := 10) (v := 0) K dX5_takeWoodFrom_9 (by decide) rfl ?_
  refine x_bipush (pc' := 12) (v := 16) K dX5_takeWoodFrom_10 (by decide) rfl ?_
  refine x_copy (pc' := 15) (w' := w55 cI a F (va_up G 1 (va_cpy (G 15) (G 1) (0 : Int32).toNatClampNeg (0 : Int32).toNatClampNeg (16 : Int32).toNatClampNeg))) K uX5_takeWoodFrom_m74 uX5_takeWoodFrom_cn uX5_takeWoodFrom_cs uX5_takeWoodFrom_ci 21 2 (f := G 15) (g := G 1) (n0 := 16) (n1 := 16) (cA := cI) rfl rfl rfl (by decide) (by decide) (by decide) (by decide +kernel) (by decide +kernel) rfl (by decide +kernel) (by decide +kernel) dX5_takeWoodFrom_12 rfl ?_
  obtain ⟨G12, eG12⟩ : ∃ x : xA, x = va_up G 1 (va_cpy (G 15) (G 1) (0 : Int32).toNatClampNeg (0 : Int32).toNatClampNeg (16 : Int32).toNatClampNeg) := ⟨_, rfl⟩
  refine x_weq (w' := w55 cI a F G12) (by subst eG12; rfl) ?_
  replace h := h G12 eG12
  refine x_aload_n (pc' := 16) K dX5_takeWoodFrom_15 1 rfl rfl ?_
  refine xw55_19g_smell (pc' := 19) K hinX5_takeWoodFrom_X5 uX5_takeWoodFrom_f62 dX5_takeWoodFrom_16 rfl ?_
  refine x_iconst (pc' := 20) (v := 0) K dX5_takeWoodFrom_19 (by decide) rfl ?_
  refine x_aload_n (pc' := 21) K dX5_takeWoodFrom_20 0 rfl rfl ?_
  refine xw55_0g_smell (pc' := 24) K hinX5_takeWoodFrom_X5 uX5_takeWoodFrom_f62 dX5_takeWoodFrom_21 rfl ?_
  refine x_iconst (pc' := 25) (v := 0) K dX5_takeWoodFrom_24 (by decide) rfl ?_
  refine x_bipush (pc' := 27) (v := 16) K dX5_takeWoodFrom_25 (by decide) rfl ?_
  refine x_copy (pc' := 30) (w' := w55 cI a F (va_up G12 8 (va_cpy (G12 22) (G12 8) (0 : Int32).toNatClampNeg (0 : Int32).toNatClampNeg (16 : Int32).toNatClampNeg))) K uX5_takeWoodFrom_m74 uX5_takeWoodFrom_cn uX5_takeWoodFrom_cs uX5_takeWoodFrom_ci 28 9 (f := G12 22) (g := G12 8) (n0 := 16) (n1 := 16) (cA := cI) rfl rfl rfl (by decide) (by decide) (by decide) (by decide +kernel) (by decide +kernel) rfl (by decide +kernel) (by decide +kernel) dX5_takeWoodFrom_27 rfl ?_
  obtain ⟨G27, eG27⟩ : ∃ x : xA, x = va_up G12 8 (va_cpy (G12 22) (G12 8) (0 : Int32).toNatClampNeg (0 : Int32).toNatClampNeg (16 : Int32).toNatClampNeg) := ⟨_, rfl⟩
  refine x_weq (w' := w55 cI a F G27) (by subst eG27; rfl) ?_
  replace h := h G27 eG27
  refine x_aload_n (pc' := 31) K dX5_takeWoodFrom_30 0 rfl rfl ?_
  refine x_aload_n (pc' := 32) K dX5_takeWoodFrom_31 1 rfl rfl ?_
  refine xw55_19g_place (pc' := 35) K hinX5_takeWoodFrom_X5 uX5_takeWoodFrom_f50 dX5_takeWoodFrom_32 rfl ?_
  refine xw55_0p_place (pc' := 38) K hinX5_takeWoodFrom_X5 uX5_takeWoodFrom_f50 dX5_takeWoodFrom_35 rfl (fun F35 eF35 => ?_)
  replace h := h F35 eF35
  exact x_vret (wf := w55 cI a) K h dX5_takeWoodFrom_38
/-! X6_sum_2 -/
abbrev rmX6_sum_2 : Room := { frames := 2, cells := 0, slots := 0, locals := 60 }
theorem dsX6_sum : xDesc yX6_sum 1 := by decide +kernel
set_option maxHeartbeats 4000000 in
set_option maxRecDepth 100000 in
theorem tX6_sum_2_10 (K : XK p m c cX6_sum 6 s args wsX6_sum RX6 D (xtys cI cO) A meth (some .int)) {Q : Int32 → xF → xA → Prop} : ∀ (n : Nat), ∀ (x1 : Int32) (x3 : Int32) (x4 : Int32) (F : xF) (G : xA), qX6_sum_2_10 Q n x1 x3 x4 F G → XJ p l e rmX6_sum_2 s m args below meth c 0 0 (MQ below (xQi D (w5 cI a) A Q) args s 0 0 A) D (xtys cI cO) A 6 (w5 cI a F G) 10 [(1, .int x1), (2, .ref (a 2)), (3, .int x3), (4, .int x4)] [] := by
  intro n
  induction n with
  | zero =>
    intro x1 x3 x4 F G h
    exact False.elim h
  | succ n ih =>
    intro x1 x3 x4 F G h
    refine x_iload (pc' := 12) K dX6_sum_10 3 rfl rfl ?_
    refine x_iload_n (pc' := 13) K dX6_sum_12 2 rfl rfl ?_
    refine x_icmp_ge (tgt := 33) (pc' := 16) K dX6_sum_13 rfl rfl (fun c13 => ?_) (fun c13 => ?_)
    · replace h := h.1 c13
      refine x_iload_n (pc' := 34) K dX6_sum_33 0 rfl rfl ?_
      exact x_iret (wf := w5 cI a) K h dX6_sum_34
    · replace h := h.2 c13
      refine x_aload_n (pc' := 17) K dX6_sum_16 1 rfl rfl ?_
      refine x_iload (pc' := 19) K dX6_sum_17 3 rfl rfl ?_
      obtain ⟨i19, h⟩ := h
      refine xw5_2l (pc' := 20) K i19 rfl dX6_sum_19 rfl ?_
      refine x_istore (pc' := 22) (i := 5) K dX6_sum_20 (by decide) [1, 2, 3, 4, 0] (L' := [(1, .int _), (2, .ref (a 2)), (3, .int _), (4, .int _), (5, .int _)]) rfl rfl ?_
      refine x_iload_n (pc' := 23) K dX6_sum_22 0 rfl rfl ?_
      refine x_iload (pc' := 25) K dX6_sum_23 4 rfl rfl ?_
      refine x_iadd (pc' := 26) K dX6_sum_25 rfl ?_
      refine x_istore_n (pc' := 27) (i := 1) K dX6_sum_26 rfl (by decide) [0, 1, 2, 3, 4] (L' := [(1, .int _), (2, .ref (a 2)), (3, .int _), (4, .int _), (5, .int _)]) rfl rfl ?_
      refine x_iinc (pc' := 30) (v := _ + (1 : Int32)) K dX6_sum_27 3 rfl rfl (by decide) [1, 2, 3, 0, 4] (L' := [(1, .int _), (2, .ref (a 2)), (3, .int _), (4, .int _), (5, .int _)]) rfl rfl ?_
      refine x_goto (tgt := 10) K dX6_sum_30 rfl ?_
      refine x_locals [0, 1, 2, 3] (L' := [(1, .int _), (2, .ref (a 2)), (3, .int _), (4, .int _)]) rfl ?_
      exact ih _ _ _ _ _ h
set_option maxHeartbeats 4000000 in
set_option maxRecDepth 100000 in
theorem mX6_sum_2 (l : Launch) (D : va_G) (cI cO : ClassId) (a : Nat → Nat)   : MI l yX6_sum wsX6_sum rmX6_sum_2 D (xtys cI cO) [.ref (a 2)] (w5 cI a) qX6_sum_2 := by
  refine MI_of (cc := cX6_sum) (maxL := 6) (own := RX6) (by decide) rfl rfl (Nat.le_of_ble_eq_true rfl) ?_
  intro p e s m args below meth c A F G Q h K
  refine x_locals [0] (L' := [(0, .ref (a 2))]) rfl ?_
  refine x_iconst (pc' := 1) (v := 0) K dX6_sum_0 (by decide) rfl ?_
  refine x_istore_n (pc' := 2) (i := 1) K dX6_sum_1 rfl (by decide) [1, 0] (L' := [(0, .ref (a 2)), (1, .int _)]) rfl rfl ?_
  refine x_aload_n (pc' := 3) K dX6_sum_2 0 rfl rfl ?_
  refine x_astore_n (pc' := 4) (i := 2) K dX6_sum_3 rfl (by decide) [1, 2, 0] (L' := [(0, .ref (a 2)), (1, .int _), (2, .ref (a 2))]) rfl rfl ?_
  refine x_aload_n (pc' := 5) K dX6_sum_4 2 rfl rfl ?_
  refine xw5_2n (pc' := 6) K dX6_sum_5 rfl ?_
  refine x_istore_n (pc' := 7) (i := 3) K dX6_sum_6 rfl (by decide) [1, 2, 3, 0] (L' := [(0, .ref (a 2)), (1, .int _), (2, .ref (a 2)), (3, .int _)]) rfl rfl ?_
  refine x_iconst (pc' := 8) (v := 0) K dX6_sum_7 (by decide) rfl ?_
  refine x_istore (pc' := 10) (i := 4) K dX6_sum_8 (by decide) [1, 2, 3, 4, 0] (L' := [(0, .ref (a 2)), (1, .int _), (2, .ref (a 2)), (3, .int _), (4, .int _)]) rfl rfl ?_
  refine x_locals [1, 2, 3, 4] (L' := [(1, .int _), (2, .ref (a 2)), (3, .int _), (4, .int _)]) rfl ?_
  obtain ⟨n10, h⟩ := h
  exact tX6_sum_2_10 K n10 _ _ _ _ _ h
/-! X6_sum_5 -/
abbrev rmX6_sum_5 : Room := { frames := 2, cells := 0, slots := 0, locals := 60 }
set_option maxHeartbeats 4000000 in
set_option maxRecDepth 100000 in
theorem tX6_sum_5_10 (K : XK p m c cX6_sum 6 s args wsX6_sum RX6 D (xtys cI cO) A meth (some .int)) {Q : Int32 → xF → xA → Prop} : ∀ (n : Nat), ∀ (x1 : Int32) (x3 : Int32) (x4 : Int32) (F : xF) (G : xA), qX6_sum_5_10 Q n x1 x3 x4 F G → XJ p l e rmX6_sum_5 s m args below meth c 0 0 (MQ below (xQi D (w5 cI a) A Q) args s 0 0 A) D (xtys cI cO) A 6 (w5 cI a F G) 10 [(1, .int x1), (2, .ref (a 5)), (3, .int x3), (4, .int x4)] [] := by
  intro n
  induction n with
  | zero =>
    intro x1 x3 x4 F G h
    exact False.elim h
  | succ n ih =>
    intro x1 x3 x4 F G h
    refine x_iload (pc' := 12) K dX6_sum_10 3 rfl rfl ?_
    refine x_iload_n (pc' := 13) K dX6_sum_12 2 rfl rfl ?_
    refine x_icmp_ge (tgt := 33) (pc' := 16) K dX6_sum_13 rfl rfl (fun c13 => ?_) (fun c13 => ?_)
    · replace h := h.1 c13
      refine x_iload_n (pc' := 34) K dX6_sum_33 0 rfl rfl ?_
      exact x_iret (wf := w5 cI a) K h dX6_sum_34
    · replace h := h.2 c13
      refine x_aload_n (pc' := 17) K dX6_sum_16 1 rfl rfl ?_
      refine x_iload (pc' := 19) K dX6_sum_17 3 rfl rfl ?_
      obtain ⟨i19, h⟩ := h
      refine xw5_5l (pc' := 20) K i19 rfl dX6_sum_19 rfl ?_
      refine x_istore (pc' := 22) (i := 5) K dX6_sum_20 (by decide) [1, 2, 3, 4, 0] (L' := [(1, .int _), (2, .ref (a 5)), (3, .int _), (4, .int _), (5, .int _)]) rfl rfl ?_
      refine x_iload_n (pc' := 23) K dX6_sum_22 0 rfl rfl ?_
      refine x_iload (pc' := 25) K dX6_sum_23 4 rfl rfl ?_
      refine x_iadd (pc' := 26) K dX6_sum_25 rfl ?_
      refine x_istore_n (pc' := 27) (i := 1) K dX6_sum_26 rfl (by decide) [0, 1, 2, 3, 4] (L' := [(1, .int _), (2, .ref (a 5)), (3, .int _), (4, .int _), (5, .int _)]) rfl rfl ?_
      refine x_iinc (pc' := 30) (v := _ + (1 : Int32)) K dX6_sum_27 3 rfl rfl (by decide) [1, 2, 3, 0, 4] (L' := [(1, .int _), (2, .ref (a 5)), (3, .int _), (4, .int _), (5, .int _)]) rfl rfl ?_
      refine x_goto (tgt := 10) K dX6_sum_30 rfl ?_
      refine x_locals [0, 1, 2, 3] (L' := [(1, .int _), (2, .ref (a 5)), (3, .int _), (4, .int _)]) rfl ?_
      exact ih _ _ _ _ _ h
set_option maxHeartbeats 4000000 in
set_option maxRecDepth 100000 in
theorem mX6_sum_5 (l : Launch) (D : va_G) (cI cO : ClassId) (a : Nat → Nat)   : MI l yX6_sum wsX6_sum rmX6_sum_5 D (xtys cI cO) [.ref (a 5)] (w5 cI a) qX6_sum_5 := by
  refine MI_of (cc := cX6_sum) (maxL := 6) (own := RX6) (by decide) rfl rfl (Nat.le_of_ble_eq_true rfl) ?_
  intro p e s m args below meth c A F G Q h K
  refine x_locals [0] (L' := [(0, .ref (a 5))]) rfl ?_
  refine x_iconst (pc' := 1) (v := 0) K dX6_sum_0 (by decide) rfl ?_
  refine x_istore_n (pc' := 2) (i := 1) K dX6_sum_1 rfl (by decide) [1, 0] (L' := [(0, .ref (a 5)), (1, .int _)]) rfl rfl ?_
  refine x_aload_n (pc' := 3) K dX6_sum_2 0 rfl rfl ?_
  refine x_astore_n (pc' := 4) (i := 2) K dX6_sum_3 rfl (by decide) [1, 2, 0] (L' := [(0, .ref (a 5)), (1, .int _), (2, .ref (a 5))]) rfl rfl ?_
  refine x_aload_n (pc' := 5) K dX6_sum_4 2 rfl rfl ?_
  refine xw5_5n (pc' := 6) K dX6_sum_5 rfl ?_
  refine x_istore_n (pc' := 7) (i := 3) K dX6_sum_6 rfl (by decide) [1, 2, 3, 0] (L' := [(0, .ref (a 5)), (1, .int _), (2, .ref (a 5)), (3, .int _)]) rfl rfl ?_
  refine x_iconst (pc' := 8) (v := 0) K dX6_sum_7 (by decide) rfl ?_
  refine x_istore (pc' := 10) (i := 4) K dX6_sum_8 (by decide) [1, 2, 3, 4, 0] (L' := [(0, .ref (a 5)), (1, .int _), (2, .ref (a 5)), (3, .int _), (4, .int _)]) rfl rfl ?_
  refine x_locals [1, 2, 3, 4] (L' := [(1, .int _), (2, .ref (a 5)), (3, .int _), (4, .int _)]) rfl ?_
  obtain ⟨n10, h⟩ := h
  exact tX6_sum_5_10 K n10 _ _ _ _ _ h
/-! X6_sum_6 -/
abbrev rmX6_sum_6 : Room := { frames := 2, cells := 0, slots := 0, locals := 60 }
set_option maxHeartbeats 4000000 in
set_option maxRecDepth 100000 in
theorem tX6_sum_6_10 (K : XK p m c cX6_sum 6 s args wsX6_sum RX6 D (xtys cI cO) A meth (some .int)) {Q : Int32 → xF → xA → Prop} : ∀ (n : Nat), ∀ (x1 : Int32) (x3 : Int32) (x4 : Int32) (F : xF) (G : xA), qX6_sum_6_10 Q n x1 x3 x4 F G → XJ p l e rmX6_sum_6 s m args below meth c 0 0 (MQ below (xQi D (w5 cI a) A Q) args s 0 0 A) D (xtys cI cO) A 6 (w5 cI a F G) 10 [(1, .int x1), (2, .ref (a 6)), (3, .int x3), (4, .int x4)] [] := by
  intro n
  induction n with
  | zero =>
    intro x1 x3 x4 F G h
    exact False.elim h
  | succ n ih =>
    intro x1 x3 x4 F G h
    refine x_iload (pc' := 12) K dX6_sum_10 3 rfl rfl ?_
    refine x_iload_n (pc' := 13) K dX6_sum_12 2 rfl rfl ?_
    refine x_icmp_ge (tgt := 33) (pc' := 16) K dX6_sum_13 rfl rfl (fun c13 => ?_) (fun c13 => ?_)
    · replace h := h.1 c13
      refine x_iload_n (pc' := 34) K dX6_sum_33 0 rfl rfl ?_
      exact x_iret (wf := w5 cI a) K h dX6_sum_34
    · replace h := h.2 c13
      refine x_aload_n (pc' := 17) K dX6_sum_16 1 rfl rfl ?_
      refine x_iload (pc' := 19) K dX6_sum_17 3 rfl rfl ?_
      obtain ⟨i19, h⟩ := h
      refine xw5_6l (pc' := 20) K i19 rfl dX6_sum_19 rfl ?_
      refine x_istore (pc' := 22) (i := 5) K dX6_sum_20 (by decide) [1, 2, 3, 4, 0] (L' := [(1, .int _), (2, .ref (a 6)), (3, .int _), (4, .int _), (5, .int _)]) rfl rfl ?_
      refine x_iload_n (pc' := 23) K dX6_sum_22 0 rfl rfl ?_
      refine x_iload (pc' := 25) K dX6_sum_23 4 rfl rfl ?_
      refine x_iadd (pc' := 26) K dX6_sum_25 rfl ?_
      refine x_istore_n (pc' := 27) (i := 1) K dX6_sum_26 rfl (by decide) [0, 1, 2, 3, 4] (L' := [(1, .int _), (2, .ref (a 6)), (3, .int _), (4, .int _), (5, .int _)]) rfl rfl ?_
      refine x_iinc (pc' := 30) (v := _ + (1 : Int32)) K dX6_sum_27 3 rfl rfl (by decide) [1, 2, 3, 0, 4] (L' := [(1, .int _), (2, .ref (a 6)), (3, .int _), (4, .int _), (5, .int _)]) rfl rfl ?_
      refine x_goto (tgt := 10) K dX6_sum_30 rfl ?_
      refine x_locals [0, 1, 2, 3] (L' := [(1, .int _), (2, .ref (a 6)), (3, .int _), (4, .int _)]) rfl ?_
      exact ih _ _ _ _ _ h
set_option maxHeartbeats 4000000 in
set_option maxRecDepth 100000 in
theorem mX6_sum_6 (l : Launch) (D : va_G) (cI cO : ClassId) (a : Nat → Nat)   : MI l yX6_sum wsX6_sum rmX6_sum_6 D (xtys cI cO) [.ref (a 6)] (w5 cI a) qX6_sum_6 := by
  refine MI_of (cc := cX6_sum) (maxL := 6) (own := RX6) (by decide) rfl rfl (Nat.le_of_ble_eq_true rfl) ?_
  intro p e s m args below meth c A F G Q h K
  refine x_locals [0] (L' := [(0, .ref (a 6))]) rfl ?_
  refine x_iconst (pc' := 1) (v := 0) K dX6_sum_0 (by decide) rfl ?_
  refine x_istore_n (pc' := 2) (i := 1) K dX6_sum_1 rfl (by decide) [1, 0] (L' := [(0, .ref (a 6)), (1, .int _)]) rfl rfl ?_
  refine x_aload_n (pc' := 3) K dX6_sum_2 0 rfl rfl ?_
  refine x_astore_n (pc' := 4) (i := 2) K dX6_sum_3 rfl (by decide) [1, 2, 0] (L' := [(0, .ref (a 6)), (1, .int _), (2, .ref (a 6))]) rfl rfl ?_
  refine x_aload_n (pc' := 5) K dX6_sum_4 2 rfl rfl ?_
  refine xw5_6n (pc' := 6) K dX6_sum_5 rfl ?_
  refine x_istore_n (pc' := 7) (i := 3) K dX6_sum_6 rfl (by decide) [1, 2, 3, 0] (L' := [(0, .ref (a 6)), (1, .int _), (2, .ref (a 6)), (3, .int _)]) rfl rfl ?_
  refine x_iconst (pc' := 8) (v := 0) K dX6_sum_7 (by decide) rfl ?_
  refine x_istore (pc' := 10) (i := 4) K dX6_sum_8 (by decide) [1, 2, 3, 4, 0] (L' := [(0, .ref (a 6)), (1, .int _), (2, .ref (a 6)), (3, .int _), (4, .int _)]) rfl rfl ?_
  refine x_locals [1, 2, 3, 4] (L' := [(1, .int _), (2, .ref (a 6)), (3, .int _), (4, .int _)]) rfl ?_
  obtain ⟨n10, h⟩ := h
  exact tX6_sum_6_10 K n10 _ _ _ _ _ h
/-! X5_ofFarmer -/
abbrev rmX5_ofFarmer : Room := { frames := 3, cells := 0, slots := 0, locals := 80 }
theorem dsX5_ofFarmer : xDesc yX5_ofFarmer 2 := by decide +kernel
theorem uX5_ofFarmer_f18 : Cond.fieldLink RX5 18 "PigNinths$World" "kind" "[I" ∈ wsX5_ofFarmer := nw_in nwl_X5_ofFarmer nwe_232 (by decide +kernel)
theorem hinX5_ofFarmer_X5 : ∀ w ∈ wsX50, w ∈ wsX5_ofFarmer := nw_all nwl_X5_ofFarmer nwl_X50 (by decide +kernel)
theorem uX5_ofFarmer_f21 : Cond.fieldLink RX5 21 "PigNinths$World" "mark" "[I" ∈ wsX5_ofFarmer := nw_in nwl_X5_ofFarmer nwe_233 (by decide +kernel)
theorem uX5_ofFarmer_f24 : Cond.fieldLink RX5 24 "PigNinths$World" "purse" "[I" ∈ wsX5_ofFarmer := nw_in nwl_X5_ofFarmer nwe_234 (by decide +kernel)
theorem uX5_ofFarmer_f27 : Cond.fieldLink RX5 27 "PigNinths$World" "hid" "[I" ∈ wsX5_ofFarmer := nw_in nwl_X5_ofFarmer nwe_235 (by decide +kernel)
theorem uX5_ofFarmer_f30 : Cond.fieldLink RX5 30 "PigNinths$World" "turn" "[I" ∈ wsX5_ofFarmer := nw_in nwl_X5_ofFarmer nwe_236 (by decide +kernel)
theorem uX5_ofFarmer_f33 : Cond.fieldLink RX5 33 "PigNinths$World" "leash" "[I" ∈ wsX5_ofFarmer := nw_in nwl_X5_ofFarmer nwe_237 (by decide +kernel)
set_option maxHeartbeats 4000000 in
set_option maxRecDepth 100000 in
theorem mX5_ofFarmer (l : Launch) (D : va_G) (cI cO : ClassId) (a : Nat → Nat)  (x1 : Int32) (x2 : Int32) : MI l yX5_ofFarmer wsX5_ofFarmer rmX5_ofFarmer D (xtys cI cO) [.ref (a 0), .int x1, .int x2] (w5 cI a) (qX5_ofFarmer x1 x2) := by
  refine MI_of (cc := cX5_ofFarmer) (maxL := 3) (own := RX5) (by decide) rfl rfl (Nat.le_of_ble_eq_true rfl) ?_
  intro p e s m args below meth c A F G Q h K
  refine x_locals [0, 1, 2] (L' := [(0, .ref (a 0)), (1, .int _), (2, .int _)]) rfl ?_
  refine x_iload_n (pc' := 1) K dX5_ofFarmer_0 2 rfl rfl ?_
  refine (Classical.em (x2 = (0 : Int32))).elim (fun e1 => ?_) (fun e1_1 => ?_)
  · replace h := h.1 e1
    refine x_tableIn (tgt := 36) (off := 35) K dX5_ofFarmer_1 (by rw [e1]; decide) (by rw [e1]; decide) (by rw [e1]; rfl) rfl ?_
    refine x_aload_n (pc' := 37) K dX5_ofFarmer_36 0 rfl rfl ?_
    refine xw5_0g_kind (pc' := 40) K hinX5_ofFarmer_X5 uX5_ofFarmer_f18 dX5_ofFarmer_37 rfl ?_
    refine x_iload_n (pc' := 41) K dX5_ofFarmer_40 1 rfl rfl ?_
    obtain ⟨i41, h⟩ := h
    refine xw5_3l (pc' := 42) K i41 rfl dX5_ofFarmer_41 rfl ?_
    exact x_iret (wf := w5 cI a) K h dX5_ofFarmer_42
  · replace h := h.2 e1_1
    refine (Classical.em (x2 = (1 : Int32))).elim (fun e1 => ?_) (fun e1_2 => ?_)
    · replace h := h.1 e1
      refine x_tableIn (tgt := 43) (off := 42) K dX5_ofFarmer_1 (by rw [e1]; decide) (by rw [e1]; decide) (by rw [e1]; rfl) rfl ?_
      refine x_aload_n (pc' := 44) K dX5_ofFarmer_43 0 rfl rfl ?_
      refine xw5_0g_mark (pc' := 47) K hinX5_ofFarmer_X5 uX5_ofFarmer_f21 dX5_ofFarmer_44 rfl ?_
      refine x_iload_n (pc' := 48) K dX5_ofFarmer_47 1 rfl rfl ?_
      obtain ⟨i48, h⟩ := h
      refine xw5_4l (pc' := 49) K i48 rfl dX5_ofFarmer_48 rfl ?_
      exact x_iret (wf := w5 cI a) K h dX5_ofFarmer_49
    · replace h := h.2 e1_2
      refine (Classical.em (x2 = (2 : Int32))).elim (fun e1 => ?_) (fun e1_3 => ?_)
      · replace h := h.1 e1
        refine x_tableIn (tgt := 50) (off := 49) K dX5_ofFarmer_1 (by rw [e1]; decide) (by rw [e1]; decide) (by rw [e1]; rfl) rfl ?_
        refine x_aload_n (pc' := 51) K dX5_ofFarmer_50 0 rfl rfl ?_
        refine xw5_0g_purse (pc' := 54) K hinX5_ofFarmer_X5 uX5_ofFarmer_f24 dX5_ofFarmer_51 rfl ?_
        refine x_iload_n (pc' := 55) K dX5_ofFarmer_54 1 rfl rfl ?_
        obtain ⟨i55, h⟩ := h
        refine xw5_5l (pc' := 56) K i55 rfl dX5_ofFarmer_55 rfl ?_
        exact x_iret (wf := w5 cI a) K h dX5_ofFarmer_56
      · replace h := h.2 e1_3
        refine (Classical.em (x2 = (3 : Int32))).elim (fun e1 => ?_) (fun e1_4 => ?_)
        · replace h := h.1 e1
          refine x_tableIn (tgt := 57) (off := 56) K dX5_ofFarmer_1 (by rw [e1]; decide) (by rw [e1]; decide) (by rw [e1]; rfl) rfl ?_
          refine x_aload_n (pc' := 58) K dX5_ofFarmer_57 0 rfl rfl ?_
          refine xw5_0g_hid (pc' := 61) K hinX5_ofFarmer_X5 uX5_ofFarmer_f27 dX5_ofFarmer_58 rfl ?_
          refine x_iload_n (pc' := 62) K dX5_ofFarmer_61 1 rfl rfl ?_
          obtain ⟨i62, h⟩ := h
          refine xw5_6l (pc' := 63) K i62 rfl dX5_ofFarmer_62 rfl ?_
          exact x_iret (wf := w5 cI a) K h dX5_ofFarmer_63
        · replace h := h.2 e1_4
          refine (Classical.em (x2 = (4 : Int32))).elim (fun e1 => ?_) (fun e1_5 => ?_)
          · replace h := h.1 e1
            refine x_tableIn (tgt := 64) (off := 63) K dX5_ofFarmer_1 (by rw [e1]; decide) (by rw [e1]; decide) (by rw [e1]; rfl) rfl ?_
            refine x_aload_n (pc' := 65) K dX5_ofFarmer_64 0 rfl rfl ?_
            refine xw5_0g_turn (pc' := 68) K hinX5_ofFarmer_X5 uX5_ofFarmer_f30 dX5_ofFarmer_65 rfl ?_
            refine x_iload_n (pc' := 69) K dX5_ofFarmer_68 1 rfl rfl ?_
            obtain ⟨i69, h⟩ := h
            refine xw5_7l (pc' := 70) K i69 rfl dX5_ofFarmer_69 rfl ?_
            exact x_iret (wf := w5 cI a) K h dX5_ofFarmer_70
          · replace h := h.2 e1_5
            have f1_1 := xtin (i := 0) e1_1 (by decide)
            have f1_2 := xtin (i := 1) e1_2 (by decide)
            have f1_3 := xtin (i := 2) e1_3 (by decide)
            have f1_4 := xtin (i := 3) e1_4 (by decide)
            have f1_5 := xtin (i := 4) e1_5 (by decide)
            refine (Classical.em (x2.toInt < 0 ∨ 4 < x2.toInt)).elim (fun g1 => ?_) (fun g1 => ?_)
            · refine x_tableOut (tgt := 71) K dX5_ofFarmer_1 g1 rfl ?_
              refine x_aload_n (pc' := 72) K dX5_ofFarmer_71 0 rfl rfl ?_
              refine xw5_0g_leash (pc' := 75) K hinX5_ofFarmer_X5 uX5_ofFarmer_f33 dX5_ofFarmer_72 rfl ?_
              refine x_iconst (pc' := 76) (v := 4) K dX5_ofFarmer_75 (by decide) rfl ?_
              refine x_iload_n (pc' := 77) K dX5_ofFarmer_76 1 rfl rfl ?_
              refine x_imul (pc' := 78) K dX5_ofFarmer_77 rfl ?_
              refine x_iload_n (pc' := 79) K dX5_ofFarmer_78 2 rfl rfl ?_
              refine x_iconst (pc' := 80) (v := 5) K dX5_ofFarmer_79 (by decide) rfl ?_
              refine x_isub (pc' := 81) K dX5_ofFarmer_80 rfl ?_
              refine x_callS (pc' := 84) K (mX5_within4 l D cI cO a _) rfl gX5_ofFarmer_X5_within4 dsX5_within4 ⟨rfl, rfl, ⟨Nat.le_of_ble_eq_true rfl, Nat.le_of_ble_eq_true rfl⟩, Nat.le_of_ble_eq_true rfl, Nat.le_of_ble_eq_true rfl⟩ h (st := [.int _, .ref (a 8)]) rfl rfl (Nat.le_of_ble_eq_true rfl) dX5_ofFarmer_81 rfl (fun r81 h => ?_)
              refine x_iadd (pc' := 85) K dX5_ofFarmer_84 rfl ?_
              obtain ⟨i85, h⟩ := h
              refine xw5_8l (pc' := 86) K i85 rfl dX5_ofFarmer_85 rfl ?_
              exact x_iret (wf := w5 cI a) K h dX5_ofFarmer_86
            · exact absurd g1 (by omega)
/-! X5_morning -/
abbrev rmX5_morning : Room := { frames := 5, cells := 0, slots := 0, locals := 130 }
theorem dsX5_morning : xDesc yX5_morning 0 := by decide +kernel
theorem uX5_morning_f15 : Cond.fieldLink RX5 15 "PigNinths$World" "under" "[I" ∈ wsX5_morning := nw_in nwl_X5_morning nwe_231 (by decide +kernel)
theorem hinX5_morning_X5 : ∀ w ∈ wsX50, w ∈ wsX5_morning := nw_all nwl_X5_morning nwl_X50 (by decide +kernel)
theorem uX5_morning_f46 : Cond.fieldLink RX5 46 "PigNinths$World" "rain" "I" ∈ wsX5_morning := nw_in nwl_X5_morning nwe_242 (by decide +kernel)
theorem uX5_morning_m120 : Cond.methodLink RX5 120 Lib.Math.min.name ∈ wsX5_morning := nw_in nwl_X5_morning nwe_263 (by decide +kernel)
theorem uX5_morning_msmin : Cond.static Lib.Math.min.name ∈ wsX5_morning := nw_in nwl_X5_morning nwe_96 (by decide +kernel)
theorem uX5_morning_mi : Cond.initialized "java/lang/Math" ∈ wsX5_morning := nw_in nwl_X5_morning nwe_79 (by decide +kernel)
theorem uX5_morning_mcmin : Cond.code Lib.Math.min.name Lib.Math.min.code 2 (some .int) ∈ wsX5_morning := nw_in nwl_X5_morning nwe_97 (by decide +kernel)
theorem uX5_morning_f62 : Cond.fieldLink RX5 62 "PigNinths$World" "smell" "[I" ∈ wsX5_morning := nw_in nwl_X5_morning nwe_247 (by decide +kernel)
set_option maxHeartbeats 4000000 in
set_option maxRecDepth 100000 in
theorem tX5_morning_2 (K : XK p m c cX5_morning 2 s args wsX5_morning RX5 D (xtys cI cO) A meth none) {Q : xF → xA → Prop} : ∀ (n : Nat), ∀ (x1 : Int32) (F : xF) (G : xA), qX5_morning_2 Q n x1 F G → XJ p l e rmX5_morning s m args below meth c 0 0 (MQ below (xQv D (w5 cI a) A Q) args s 0 0 A) D (xtys cI cO) A 2 (w5 cI a F G) 2 [(0, .ref (a 0)), (1, .int x1)] [] := by
  intro n
  induction n with
  | zero =>
    intro x1 F G h
    exact False.elim h
  | succ n ih =>
    intro x1 F G h
    refine x_iload_n (pc' := 3) K dX5_morning_2 1 rfl rfl ?_
    refine x_bipush (pc' := 5) (v := 16) K dX5_morning_3 (by decide) rfl ?_
    refine x_icmp_ge (tgt := 48) (pc' := 8) K dX5_morning_5 rfl rfl (fun c5 => ?_) (fun c5 => ?_)
    · replace h := h.1 c5
      exact x_vret (wf := w5 cI a) K h dX5_morning_48
    · replace h := h.2 c5
      refine x_aload_n (pc' := 9) K dX5_morning_8 0 rfl rfl ?_
      refine xw5_0g_under (pc' := 12) K hinX5_morning_X5 uX5_morning_f15 dX5_morning_9 rfl ?_
      refine x_iload_n (pc' := 13) K dX5_morning_12 1 rfl rfl ?_
      refine x_sipush (pc' := 16) (v := 999) K dX5_morning_13 (by decide) rfl ?_
      refine x_aload_n (pc' := 17) K dX5_morning_16 0 rfl rfl ?_
      refine xw5_0g_under (pc' := 20) K hinX5_morning_X5 uX5_morning_f15 dX5_morning_17 rfl ?_
      refine x_iload_n (pc' := 21) K dX5_morning_20 1 rfl rfl ?_
      obtain ⟨i21, h⟩ := h
      refine xw5_2l (pc' := 22) K i21 rfl dX5_morning_21 rfl ?_
      refine x_aload_n (pc' := 23) K dX5_morning_22 0 rfl rfl ?_
      refine xw5_0g_rain (pc' := 26) K hinX5_morning_X5 uX5_morning_f46 dX5_morning_23 rfl ?_
      refine x_iadd (pc' := 27) K dX5_morning_26 rfl ?_
      refine x_mmin (pc' := 30) K uX5_morning_m120 uX5_morning_msmin uX5_morning_mi uX5_morning_mcmin (Nat.le_of_ble_eq_true rfl) (Nat.le_of_ble_eq_true rfl) (Nat.le_of_ble_eq_true rfl) (Nat.le_of_ble_eq_true rfl) dX5_morning_27 rfl ?_
      obtain ⟨i30, h⟩ := h
      refine xw5_2s (pc' := 31) K i30 rfl dX5_morning_30 rfl (fun G30 eG30 => ?_)
      replace h := h G30 eG30
      refine x_aload_n (pc' := 32) K dX5_morning_31 0 rfl rfl ?_
      refine xw5_0g_smell (pc' := 35) K hinX5_morning_X5 uX5_morning_f62 dX5_morning_32 rfl ?_
      refine x_iload_n (pc' := 36) K dX5_morning_35 1 rfl rfl ?_
      refine x_aload_n (pc' := 37) K dX5_morning_36 0 rfl rfl ?_
      refine x_iload_n (pc' := 38) K dX5_morning_37 1 rfl rfl ?_
      refine x_callI (pc' := 41) K (mX5_smellOf l D cI cO a _) rfl gX5_morning_X5_smellOf rfl dsX5_smellOf ⟨rfl, rfl, ⟨Nat.le_of_ble_eq_true rfl, Nat.le_of_ble_eq_true rfl⟩, Nat.le_of_ble_eq_true rfl, Nat.le_of_ble_eq_true rfl⟩ h 5 0 rfl rfl (st := [.int _, .ref (a 9)]) rfl rfl (Nat.le_of_ble_eq_true rfl) dX5_morning_38 rfl (fun r38 F38 G38 h => ?_)
      obtain ⟨i41, h⟩ := h
      refine xw5_9s (pc' := 42) K i41 rfl dX5_morning_41 rfl (fun G41 eG41 => ?_)
      replace h := h G41 eG41
      refine x_iinc (pc' := 45) (v := _ + (1 : Int32)) K dX5_morning_42 1 rfl rfl (by decide) [1, 0] (L' := [(0, .ref (a 0)), (1, .int _)]) rfl rfl ?_
      refine x_goto (tgt := 2) K dX5_morning_45 rfl ?_
      exact ih _ _ _ h
set_option maxHeartbeats 4000000 in
set_option maxRecDepth 100000 in
theorem mX5_morning (l : Launch) (D : va_G) (cI cO : ClassId) (a : Nat → Nat)   : MV l yX5_morning wsX5_morning rmX5_morning D (xtys cI cO) [.ref (a 0)] (w5 cI a) qX5_morning := by
  refine MV_of (cc := cX5_morning) (maxL := 2) (own := RX5) (by decide) rfl rfl (Nat.le_of_ble_eq_true rfl) ?_
  intro p e s m args below meth c A F G Q h K
  refine x_locals [0] (L' := [(0, .ref (a 0))]) rfl ?_
  refine x_iconst (pc' := 1) (v := 0) K dX5_morning_0 (by decide) rfl ?_
  refine x_istore_n (pc' := 2) (i := 1) K dX5_morning_1 rfl (by decide) [1, 0] (L' := [(0, .ref (a 0)), (1, .int _)]) rfl rfl ?_
  obtain ⟨n2, h⟩ := h
  exact tX5_morning_2 K n2 _ _ _ h
/-! X5_hours -/
set_option maxHeartbeats 4000000 in
set_option maxRecDepth 100000 in
theorem xpl3 (cI : ClassId) (a : Nat → Nat) (F : xF) (G : xA) : (w5 cI a F G).Perm (xpick (bw5 cI a F G) [0, 1, 2, 4, 5, 6, 7] ++ wa 16 cI (xsub a 10) (xsub F 0) (xsub G 9)) := xperm0 (bl := bw5 cI a F G) (n := 8) rfl rfl [0, 1, 2, 4, 5, 6, 7] [3] (by decide +kernel) rfl rfl
set_option maxHeartbeats 4000000 in
set_option maxRecDepth 100000 in
theorem xpr3 (cI : ClassId) (a : Nat → Nat) (F : xF) (G : xA) (F' : xF) (G' : xA) : (w5 cI a F (xspl G 9 1 G')).Perm (xpick (bw5 cI a F G) [0, 1, 2, 4, 5, 6, 7] ++ wa 16 cI (xsub a 10) F' G') := xperm0 (bl := bw5 cI a F (xspl G 9 1 G')) (n := 8) rfl rfl [0, 1, 2, 4, 5, 6, 7] [3] (by decide +kernel) rfl rfl
abbrev rmX5_hours : Room := { frames := 5, cells := 0, slots := 0, locals := 130 }
theorem dsX5_hours : xDesc yX5_hours 1 := by decide +kernel
theorem uX5_hours_f65 : Cond.fieldLink RX5 65 "PigNinths$World" "dug" "[I" ∈ wsX5_hours := nw_in nwl_X5_hours nwe_248 (by decide +kernel)
theorem hinX5_hours_X5 : ∀ w ∈ wsX50, w ∈ wsX5_hours := nw_all nwl_X5_hours nwl_X50 (by decide +kernel)
theorem uX5_hours_f53 : Cond.fieldLink RX5 53 "PigNinths$World" "hunger" "I" ∈ wsX5_hours := nw_in nwl_X5_hours nwe_244 (by decide +kernel)
theorem uX5_hours_f50 : Cond.fieldLink RX5 50 "PigNinths$World" "place" "I" ∈ wsX5_hours := nw_in nwl_X5_hours nwe_243 (by decide +kernel)
theorem uX5_hours_f33 : Cond.fieldLink RX5 33 "PigNinths$World" "leash" "[I" ∈ wsX5_hours := nw_in nwl_X5_hours nwe_237 (by decide +kernel)
theorem uX5_hours_f15 : Cond.fieldLink RX5 15 "PigNinths$World" "under" "[I" ∈ wsX5_hours := nw_in nwl_X5_hours nwe_231 (by decide +kernel)
theorem uX5_hours_m120 : Cond.methodLink RX5 120 Lib.Math.min.name ∈ wsX5_hours := nw_in nwl_X5_hours nwe_263 (by decide +kernel)
theorem uX5_hours_msmin : Cond.static Lib.Math.min.name ∈ wsX5_hours := nw_in nwl_X5_hours nwe_96 (by decide +kernel)
theorem uX5_hours_mi : Cond.initialized "java/lang/Math" ∈ wsX5_hours := nw_in nwl_X5_hours nwe_79 (by decide +kernel)
theorem uX5_hours_mcmin : Cond.code Lib.Math.min.name Lib.Math.min.code 2 (some .int) ∈ wsX5_hours := nw_in nwl_X5_hours nwe_97 (by decide +kernel)
theorem uX5_hours_f62 : Cond.fieldLink RX5 62 "PigNinths$World" "smell" "[I" ∈ wsX5_hours := nw_in nwl_X5_hours nwe_247 (by decide +kernel)
set_option maxHeartbeats 4000000 in
set_option maxRecDepth 100000 in
theorem tX5_hours_63 (K : XK p m c cX5_hours 6 s args wsX5_hours RX5 D (xtys cI cO) A meth (some .int)) {Q : Int32 → xF → xA → Prop} {k12 : Int32 → Int32 → Int32 → xF → xA → Prop} (hk12 : ∀ (x1 : Int32) (x2 : Int32) (x3 : Int32) (F : xF) (G : xA), k12 x1 x2 x3 F G → XJ p l e rmX5_hours s m args below meth c 0 0 (MQ below (xQi D (w5 cI a) A Q) args s 0 0 A) D (xtys cI cO) A 6 (w5 cI a F G) 12 [(0, .ref (a 0)), (1, .int x1), (2, .int x2), (3, .int x3)] []) : ∀ (x1 : Int32) (x2 : Int32) (x3 : Int32) (y0 : Int32) (F : xF) (G : xA), qX5_hours_63 Q k12 x1 x2 x3 y0 F G → XJ p l e rmX5_hours s m args below meth c 0 0 (MQ below (xQi D (w5 cI a) A Q) args s 0 0 A) D (xtys cI cO) A 6 (w5 cI a F G) 63 [(0, .ref (a 0)), (1, .int x1), (2, .int x2), (3, .int x3)] [.int y0, .ref (a 0)] := by
  intro x1 x2 x3 y0 F G h
  refine xw5_0p_place (pc' := 66) K hinX5_hours_X5 uX5_hours_f50 dX5_hours_63 rfl (fun F63 eF63 => ?_)
  replace h := h F63 eF63
  refine x_iconst (pc' := 67) (v := 2) K dX5_hours_66 (by decide) rfl ?_
  refine x_aload_n (pc' := 68) K dX5_hours_67 0 rfl rfl ?_
  refine xw5_0g_hunger (pc' := 71) K hinX5_hours_X5 uX5_hours_f53 dX5_hours_68 rfl ?_
  refine x_iadd (pc' := 72) K dX5_hours_71 rfl ?_
  refine x_aload_n (pc' := 73) K dX5_hours_72 0 rfl rfl ?_
  refine xw5_0g_under (pc' := 76) K hinX5_hours_X5 uX5_hours_f15 dX5_hours_73 rfl ?_
  refine x_aload_n (pc' := 77) K dX5_hours_76 0 rfl rfl ?_
  refine xw5_0g_place (pc' := 80) K hinX5_hours_X5 uX5_hours_f50 dX5_hours_77 rfl ?_
  obtain ⟨i80, h⟩ := h
  refine xw5_2l (pc' := 81) K i80 rfl dX5_hours_80 rfl ?_
  refine x_mmin (pc' := 84) K uX5_hours_m120 uX5_hours_msmin uX5_hours_mi uX5_hours_mcmin (Nat.le_of_ble_eq_true rfl) (Nat.le_of_ble_eq_true rfl) (Nat.le_of_ble_eq_true rfl) (Nat.le_of_ble_eq_true rfl) dX5_hours_81 rfl ?_
  refine x_istore (pc' := 86) (i := 5) K dX5_hours_84 (by decide) [1, 2, 3, 4, 0] (L' := [(0, .ref (a 0)), (1, .int _), (2, .int _), (3, .int _), (5, .int _)]) rfl rfl ?_
  refine x_aload_n (pc' := 87) K dX5_hours_86 0 rfl rfl ?_
  refine xw5_0g_under (pc' := 90) K hinX5_hours_X5 uX5_hours_f15 dX5_hours_87 rfl ?_
  refine x_aload_n (pc' := 91) K dX5_hours_90 0 rfl rfl ?_
  refine xw5_0g_place (pc' := 94) K hinX5_hours_X5 uX5_hours_f50 dX5_hours_91 rfl ?_
  refine x_dup2 (pc' := 95) K dX5_hours_94 rfl rfl rfl ?_
  obtain ⟨i95, h⟩ := h
  refine xw5_2l (pc' := 96) K i95 rfl dX5_hours_95 rfl ?_
  refine x_iload (pc' := 98) K dX5_hours_96 4 rfl rfl ?_
  refine x_isub (pc' := 99) K dX5_hours_98 rfl ?_
  obtain ⟨i99, h⟩ := h
  refine xw5_2s (pc' := 100) K i99 rfl dX5_hours_99 rfl (fun G99 eG99 => ?_)
  replace h := h G99 eG99
  refine x_aload_n (pc' := 101) K dX5_hours_100 0 rfl rfl ?_
  refine xw5_0g_dug (pc' := 104) K hinX5_hours_X5 uX5_hours_f65 dX5_hours_101 rfl ?_
  refine x_aload_n (pc' := 105) K dX5_hours_104 0 rfl rfl ?_
  refine xw5_0g_place (pc' := 108) K hinX5_hours_X5 uX5_hours_f50 dX5_hours_105 rfl ?_
  refine x_dup2 (pc' := 109) K dX5_hours_108 rfl rfl rfl ?_
  obtain ⟨i109, h⟩ := h
  refine xw5_10l (pc' := 110) K i109 rfl dX5_hours_109 rfl ?_
  refine x_iload (pc' := 112) K dX5_hours_110 4 rfl rfl ?_
  refine x_iadd (pc' := 113) K dX5_hours_112 rfl ?_
  obtain ⟨i113, h⟩ := h
  refine xw5_10s (pc' := 114) K i113 rfl dX5_hours_113 rfl (fun G113 eG113 => ?_)
  replace h := h G113 eG113
  refine x_iload_n (pc' := 115) K dX5_hours_114 2 rfl rfl ?_
  refine x_iload (pc' := 117) K dX5_hours_115 4 rfl rfl ?_
  refine x_iadd (pc' := 118) K dX5_hours_117 rfl ?_
  refine x_istore_n (pc' := 119) (i := 2) K dX5_hours_118 rfl (by decide) [1, 2, 0, 3, 4] (L' := [(0, .ref (a 0)), (1, .int _), (2, .int _), (3, .int _), (5, .int _)]) rfl rfl ?_
  refine x_aload_n (pc' := 120) K dX5_hours_119 0 rfl rfl ?_
  refine xw5_0g_smell (pc' := 123) K hinX5_hours_X5 uX5_hours_f62 dX5_hours_120 rfl ?_
  refine x_aload_n (pc' := 124) K dX5_hours_123 0 rfl rfl ?_
  refine xw5_0g_place (pc' := 127) K hinX5_hours_X5 uX5_hours_f50 dX5_hours_124 rfl ?_
  refine x_aload_n (pc' := 128) K dX5_hours_127 0 rfl rfl ?_
  refine x_aload_n (pc' := 129) K dX5_hours_128 0 rfl rfl ?_
  refine xw5_0g_place (pc' := 132) K hinX5_hours_X5 uX5_hours_f50 dX5_hours_129 rfl ?_
  refine x_callI (pc' := 135) K (mX5_smellOf l D cI cO a _) rfl gX5_hours_X5_smellOf rfl dsX5_smellOf ⟨rfl, rfl, ⟨Nat.le_of_ble_eq_true rfl, Nat.le_of_ble_eq_true rfl⟩, Nat.le_of_ble_eq_true rfl, Nat.le_of_ble_eq_true rfl⟩ h 5 0 rfl rfl (st := [.int _, .ref (a 9)]) rfl rfl (Nat.le_of_ble_eq_true rfl) dX5_hours_132 rfl (fun r132 F132 G132 h => ?_)
  obtain ⟨i135, h⟩ := h
  refine xw5_9s (pc' := 136) K i135 rfl dX5_hours_135 rfl (fun G135 eG135 => ?_)
  replace h := h G135 eG135
  refine x_iinc (pc' := 139) (v := _ + (1 : Int32)) K dX5_hours_136 3 rfl rfl (by decide) [1, 2, 3, 0, 4] (L' := [(0, .ref (a 0)), (1, .int _), (2, .int _), (3, .int _), (5, .int _)]) rfl rfl ?_
  refine x_goto (tgt := 12) K dX5_hours_139 rfl ?_
  refine x_locals [0, 1, 2, 3] (L' := [(0, .ref (a 0)), (1, .int _), (2, .int _), (3, .int _)]) rfl ?_
  exact hk12 _ _ _ _ _ h
set_option maxHeartbeats 4000000 in
set_option maxRecDepth 100000 in
theorem tX5_hours_12 (K : XK p m c cX5_hours 6 s args wsX5_hours RX5 D (xtys cI cO) A meth (some .int)) {Q : Int32 → xF → xA → Prop} : ∀ (n : Nat), ∀ (x1 : Int32) (x2 : Int32) (x3 : Int32) (F : xF) (G : xA), qX5_hours_12 Q n x1 x2 x3 F G → XJ p l e rmX5_hours s m args below meth c 0 0 (MQ below (xQi D (w5 cI a) A Q) args s 0 0 A) D (xtys cI cO) A 6 (w5 cI a F G) 12 [(0, .ref (a 0)), (1, .int x1), (2, .int x2), (3, .int x3)] [] := by
  intro n
  induction n with
  | zero =>
    intro x1 x2 x3 F G h
    exact False.elim h
  | succ n ih =>
    intro x1 x2 x3 F G h
    refine x_iload_n (pc' := 13) K dX5_hours_12 3 rfl rfl ?_
    refine x_aload_n (pc' := 14) K dX5_hours_13 0 rfl rfl ?_
    refine xw5_0g_hunger (pc' := 17) K hinX5_hours_X5 uX5_hours_f53 dX5_hours_14 rfl ?_
    refine x_icmp_ge (tgt := 142) (pc' := 20) K dX5_hours_17 rfl rfl (fun c17 => ?_) (fun c17 => ?_)
    · replace h := h.1 c17
      refine x_iload_n (pc' := 143) K dX5_hours_142 2 rfl rfl ?_
      exact x_iret (wf := w5 cI a) K h dX5_hours_143
    · replace h := h.2 c17
      refine x_iload_n (pc' := 21) K dX5_hours_20 3 rfl rfl ?_
      refine x_iconst (pc' := 22) (v := 4) K dX5_hours_21 (by decide) rfl ?_
      refine x_icmp_ge (tgt := 45) (pc' := 25) K dX5_hours_22 rfl rfl (fun c22 => ?_) (fun c22 => ?_)
      · replace h := h.1 c22
        refine x_iconst (pc' := 46) (v := -1) K dX5_hours_45 (by decide) rfl ?_
        refine x_istore (pc' := 48) (i := 4) K dX5_hours_46 (by decide) [1, 2, 3, 4, 0] (L' := [(0, .ref (a 0)), (1, .int _), (2, .int _), (3, .int _), (4, .int _)]) rfl rfl ?_
        refine x_aload_n (pc' := 49) K dX5_hours_48 0 rfl rfl ?_
        refine x_iload (pc' := 51) K dX5_hours_49 4 rfl rfl ?_
        refine x_if_lt (tgt := 59) (pc' := 54) K dX5_hours_51 rfl rfl (fun c51 => ?_) (fun c51 => ?_)
        · replace h := h.1 c51
          refine x_aload_n (pc' := 60) K dX5_hours_59 0 rfl rfl ?_
          refine x_callI (pc' := 63) K (mX5_bestSmell l D cI cO a) rfl gX5_hours_X5_bestSmell rfl dsX5_bestSmell ⟨rfl, rfl, ⟨Nat.le_of_ble_eq_true rfl, Nat.le_of_ble_eq_true rfl⟩, Nat.le_of_ble_eq_true rfl, Nat.le_of_ble_eq_true rfl⟩ h 5 0 rfl rfl (st := [.ref (a 0)]) rfl rfl (Nat.le_of_ble_eq_true rfl) dX5_hours_60 rfl (fun r60 F60 G60 h => ?_)
          refine x_locals [0, 1, 2, 3] (L' := [(0, .ref (a 0)), (1, .int _), (2, .int _), (3, .int _)]) rfl ?_
          exact tX5_hours_63 K (fun x1 x2 x3 F G h => ih x1 x2 x3 F G h) _ _ _ _ _ _ h
        · replace h := h.2 c51
          refine x_iload (pc' := 56) K dX5_hours_54 4 rfl rfl ?_
          refine x_goto (tgt := 63) K dX5_hours_56 rfl ?_
          refine x_locals [0, 1, 2, 3] (L' := [(0, .ref (a 0)), (1, .int _), (2, .int _), (3, .int _)]) rfl ?_
          exact tX5_hours_63 K (fun x1 x2 x3 F G h => ih x1 x2 x3 F G h) _ _ _ _ _ _ h
      · replace h := h.2 c22
        refine x_aload_n (pc' := 26) K dX5_hours_25 0 rfl rfl ?_
        refine xw5_0g_place (pc' := 29) K hinX5_hours_X5 uX5_hours_f50 dX5_hours_26 rfl ?_
        refine x_aload_n (pc' := 30) K dX5_hours_29 0 rfl rfl ?_
        refine xw5_0g_leash (pc' := 33) K hinX5_hours_X5 uX5_hours_f33 dX5_hours_30 rfl ?_
        refine x_iconst (pc' := 34) (v := 4) K dX5_hours_33 (by decide) rfl ?_
        refine x_iload_n (pc' := 35) K dX5_hours_34 1 rfl rfl ?_
        refine x_imul (pc' := 36) K dX5_hours_35 rfl ?_
        refine x_iload_n (pc' := 37) K dX5_hours_36 3 rfl rfl ?_
        refine x_iadd (pc' := 38) K dX5_hours_37 rfl ?_
        obtain ⟨i38, h⟩ := h
        refine xw5_8l (pc' := 39) K i38 rfl dX5_hours_38 rfl ?_
        refine x_callS (pc' := 42) K (mX5_beside l D cI cO a _ _) rfl gX5_hours_X5_beside dsX5_beside ⟨rfl, rfl, ⟨Nat.le_of_ble_eq_true rfl, Nat.le_of_ble_eq_true rfl⟩, Nat.le_of_ble_eq_true rfl, Nat.le_of_ble_eq_true rfl⟩ h (st := []) rfl rfl (Nat.le_of_ble_eq_true rfl) dX5_hours_39 rfl (fun r39 h => ?_)
        refine x_goto (tgt := 46) K dX5_hours_42 rfl ?_
        refine x_istore (pc' := 48) (i := 4) K dX5_hours_46 (by decide) [1, 2, 3, 4, 0] (L' := [(0, .ref (a 0)), (1, .int _), (2, .int _), (3, .int _), (4, .int _)]) rfl rfl ?_
        refine x_aload_n (pc' := 49) K dX5_hours_48 0 rfl rfl ?_
        refine x_iload (pc' := 51) K dX5_hours_49 4 rfl rfl ?_
        refine x_if_lt (tgt := 59) (pc' := 54) K dX5_hours_51 rfl rfl (fun c51 => ?_) (fun c51 => ?_)
        · replace h := h.1 c51
          refine x_aload_n (pc' := 60) K dX5_hours_59 0 rfl rfl ?_
          refine x_callI (pc' := 63) K (mX5_bestSmell l D cI cO a) rfl gX5_hours_X5_bestSmell rfl dsX5_bestSmell ⟨rfl, rfl, ⟨Nat.le_of_ble_eq_true rfl, Nat.le_of_ble_eq_true rfl⟩, Nat.le_of_ble_eq_true rfl, Nat.le_of_ble_eq_true rfl⟩ h 5 0 rfl rfl (st := [.ref (a 0)]) rfl rfl (Nat.le_of_ble_eq_true rfl) dX5_hours_60 rfl (fun r60 F60 G60 h => ?_)
          refine x_locals [0, 1, 2, 3] (L' := [(0, .ref (a 0)), (1, .int _), (2, .int _), (3, .int _)]) rfl ?_
          exact tX5_hours_63 K (fun x1 x2 x3 F G h => ih x1 x2 x3 F G h) _ _ _ _ _ _ h
        · replace h := h.2 c51
          refine x_iload (pc' := 56) K dX5_hours_54 4 rfl rfl ?_
          refine x_goto (tgt := 63) K dX5_hours_56 rfl ?_
          refine x_locals [0, 1, 2, 3] (L' := [(0, .ref (a 0)), (1, .int _), (2, .int _), (3, .int _)]) rfl ?_
          exact tX5_hours_63 K (fun x1 x2 x3 F G h => ih x1 x2 x3 F G h) _ _ _ _ _ _ h
set_option maxHeartbeats 4000000 in
set_option maxRecDepth 100000 in
theorem mX5_hours (l : Launch) (D : va_G) (cI cO : ClassId) (a : Nat → Nat)  (x1 : Int32) : MI l yX5_hours wsX5_hours rmX5_hours D (xtys cI cO) [.ref (a 0), .int x1] (w5 cI a) (qX5_hours x1) := by
  refine MI_of (cc := cX5_hours) (maxL := 6) (own := RX5) (by decide) rfl rfl (Nat.le_of_ble_eq_true rfl) ?_
  intro p e s m args below meth c A F G Q h K
  refine x_locals [0, 1] (L' := [(0, .ref (a 0)), (1, .int _)]) rfl ?_
  refine x_aload_n (pc' := 1) K dX5_hours_0 0 rfl rfl ?_
  refine xw5_0g_dug (pc' := 4) K hinX5_hours_X5 uX5_hours_f65 dX5_hours_1 rfl ?_
  refine x_iconst (pc' := 5) (v := 0) K dX5_hours_4 (by decide) rfl ?_
  refine x_subVS (pc' := 8) (wn := fun F' G' => w5 cI a F (xspl G 9 1 G')) K (mJ7_fill_53178 l D cI cO (xsub a 10) 16 _) rfl gX5_hours_J7_fill_53178 dsJ7_fill_53178 ⟨rfl, rfl, ⟨Nat.le_of_ble_eq_true rfl, Nat.le_of_ble_eq_true rfl⟩, Nat.le_of_ble_eq_true rfl, Nat.le_of_ble_eq_true rfl⟩ h (xpl3 cI a _ _) (fun F' G' => xpr3 cI a _ _ F' G') (st := []) rfl rfl (Nat.le_of_ble_eq_true rfl) dX5_hours_5 rfl (fun F5 G5 h => ?_)
  obtain ⟨H5, eH5⟩ : ∃ x : xA, x = (xspl G 9 1 G5) := ⟨_, rfl⟩
  refine x_weq (w' := w5 cI a F H5) (by subst eH5; rfl) ?_
  replace h := h H5 eH5
  refine x_iconst (pc' := 9) (v := 0) K dX5_hours_8 (by decide) rfl ?_
  refine x_istore_n (pc' := 10) (i := 2) K dX5_hours_9 rfl (by decide) [1, 2, 0] (L' := [(0, .ref (a 0)), (1, .int _), (2, .int _)]) rfl rfl ?_
  refine x_iconst (pc' := 11) (v := 0) K dX5_hours_10 (by decide) rfl ?_
  refine x_istore_n (pc' := 12) (i := 3) K dX5_hours_11 rfl (by decide) [1, 2, 3, 0] (L' := [(0, .ref (a 0)), (1, .int _), (2, .int _), (3, .int _)]) rfl rfl ?_
  obtain ⟨n12, h⟩ := h
  exact tX5_hours_12 K n12 _ _ _ _ _ h
/-! X5_partOut -/
abbrev rmX5_partOut : Room := { frames := 3, cells := 0, slots := 0, locals := 82 }
theorem dsX5_partOut : xDesc yX5_partOut 2 := by decide +kernel
theorem uX5_partOut_f18 : Cond.fieldLink RX5 18 "PigNinths$World" "kind" "[I" ∈ wsX5_partOut := nw_in nwl_X5_partOut nwe_232 (by decide +kernel)
theorem hinX5_partOut_X5 : ∀ w ∈ wsX50, w ∈ wsX5_partOut := nw_all nwl_X5_partOut nwl_X50 (by decide +kernel)
theorem uX5_partOut_f21 : Cond.fieldLink RX5 21 "PigNinths$World" "mark" "[I" ∈ wsX5_partOut := nw_in nwl_X5_partOut nwe_233 (by decide +kernel)
theorem uX5_partOut_f27 : Cond.fieldLink RX5 27 "PigNinths$World" "hid" "[I" ∈ wsX5_partOut := nw_in nwl_X5_partOut nwe_235 (by decide +kernel)
theorem uX5_partOut_k148 : Jvm.Cond.constant RX5 148 (99999999) ∈ wsX5_partOut := nw_in nwl_X5_partOut nwe_297 (by decide +kernel)
theorem uX5_partOut_m120 : Cond.methodLink RX5 120 Lib.Math.min.name ∈ wsX5_partOut := nw_in nwl_X5_partOut nwe_263 (by decide +kernel)
theorem uX5_partOut_msmin : Cond.static Lib.Math.min.name ∈ wsX5_partOut := nw_in nwl_X5_partOut nwe_96 (by decide +kernel)
theorem uX5_partOut_mi : Cond.initialized "java/lang/Math" ∈ wsX5_partOut := nw_in nwl_X5_partOut nwe_79 (by decide +kernel)
theorem uX5_partOut_mcmin : Cond.code Lib.Math.min.name Lib.Math.min.code 2 (some .int) ∈ wsX5_partOut := nw_in nwl_X5_partOut nwe_97 (by decide +kernel)
set_option maxHeartbeats 4000000 in
set_option maxRecDepth 100000 in
theorem tX5_partOut_41 (K : XK p m c cX5_partOut 7 s args wsX5_partOut RX5 D (xtys cI cO) A meth none) {Q : xF → xA → Prop} : ∀ (n : Nat), ∀ (x1 : Int32) (x3 : Int32) (x4 : Int32) (x5 : Int32) (x6 : Int32) (F : xF) (G : xA), qX5_partOut_41 Q n x1 x3 x4 x5 x6 F G → XJ p l e rmX5_partOut s m args below meth c 0 0 (MQ below (xQv D (w5 cI a) A Q) args s 0 0 A) D (xtys cI cO) A 7 (w5 cI a F G) 41 [(0, .ref (a 0)), (1, .int x1), (3, .int x3), (4, .int x4), (5, .int x5), (6, .int x6)] [] := by
  intro n
  induction n with
  | zero =>
    intro x1 x3 x4 x5 x6 F G h
    exact False.elim h
  | succ n ih =>
    intro x1 x3 x4 x5 x6 F G h
    refine x_iload (pc' := 43) K dX5_partOut_41 5 rfl rfl ?_
    refine x_bipush (pc' := 45) (v := 9) K dX5_partOut_43 (by decide) rfl ?_
    refine x_icmp_ge (tgt := 62) (pc' := 48) K dX5_partOut_45 rfl rfl (fun c45 => ?_) (fun c45 => ?_)
    · replace h := h.1 c45
      refine x_aload_n (pc' := 63) K dX5_partOut_62 0 rfl rfl ?_
      refine x_iload_n (pc' := 64) K dX5_partOut_63 1 rfl rfl ?_
      refine x_iload_n (pc' := 65) K dX5_partOut_64 2 rfl rfl ?_
      refine x_iload (pc' := 67) K dX5_partOut_65 3 rfl rfl ?_
      refine x_bipush (pc' := 69) (v := 9) K dX5_partOut_67 (by decide) rfl ?_
      refine x_irem (pc' := 70) K dX5_partOut_69 (by decide) rfl ?_
      refine x_iadd (pc' := 71) K dX5_partOut_70 rfl ?_
      refine x_callV (pc' := 74) K (mX5_toPurse l D cI cO a _ _) rfl gX5_partOut_X5_toPurse rfl dsX5_toPurse ⟨rfl, rfl, ⟨Nat.le_of_ble_eq_true rfl, Nat.le_of_ble_eq_true rfl⟩, Nat.le_of_ble_eq_true rfl, Nat.le_of_ble_eq_true rfl⟩ h 5 0 rfl rfl (st := []) rfl rfl (Nat.le_of_ble_eq_true rfl) dX5_partOut_71 rfl (fun F71 G71 h => ?_)
      refine x_aload_n (pc' := 75) K dX5_partOut_74 0 rfl rfl ?_
      refine xw5_0g_hid (pc' := 78) K hinX5_partOut_X5 uX5_partOut_f27 dX5_partOut_75 rfl ?_
      refine x_iload_n (pc' := 79) K dX5_partOut_78 1 rfl rfl ?_
      refine x_ldc (pc' := 81) K dX5_partOut_79 uX5_partOut_k148 rfl ?_
      refine x_aload_n (pc' := 82) K dX5_partOut_81 0 rfl rfl ?_
      refine xw5_0g_hid (pc' := 85) K hinX5_partOut_X5 uX5_partOut_f27 dX5_partOut_82 rfl ?_
      refine x_iload_n (pc' := 86) K dX5_partOut_85 1 rfl rfl ?_
      obtain ⟨i86, h⟩ := h
      refine xw5_6l (pc' := 87) K i86 rfl dX5_partOut_86 rfl ?_
      refine x_iload_n (pc' := 88) K dX5_partOut_87 2 rfl rfl ?_
      refine x_iadd (pc' := 89) K dX5_partOut_88 rfl ?_
      refine x_mmin (pc' := 92) K uX5_partOut_m120 uX5_partOut_msmin uX5_partOut_mi uX5_partOut_mcmin (Nat.le_of_ble_eq_true rfl) (Nat.le_of_ble_eq_true rfl) (Nat.le_of_ble_eq_true rfl) (Nat.le_of_ble_eq_true rfl) dX5_partOut_89 rfl ?_
      obtain ⟨i92, h⟩ := h
      refine xw5_6s (pc' := 93) K i92 rfl dX5_partOut_92 rfl (fun G92 eG92 => ?_)
      replace h := h G92 eG92
      exact x_vret (wf := w5 cI a) K h dX5_partOut_93
    · replace h := h.2 c45
      refine x_aload_n (pc' := 49) K dX5_partOut_48 0 rfl rfl ?_
      refine x_iload (pc' := 51) K dX5_partOut_49 5 rfl rfl ?_
      refine x_iload (pc' := 53) K dX5_partOut_51 4 rfl rfl ?_
      refine x_callV (pc' := 56) K (mX5_toPurse l D cI cO a _ _) rfl gX5_partOut_X5_toPurse rfl dsX5_toPurse ⟨rfl, rfl, ⟨Nat.le_of_ble_eq_true rfl, Nat.le_of_ble_eq_true rfl⟩, Nat.le_of_ble_eq_true rfl, Nat.le_of_ble_eq_true rfl⟩ h 5 0 rfl rfl (st := []) rfl rfl (Nat.le_of_ble_eq_true rfl) dX5_partOut_53 rfl (fun F53 G53 h => ?_)
      refine x_iinc (pc' := 59) (v := _ + (1 : Int32)) K dX5_partOut_56 5 rfl rfl (by decide) [1, 2, 3, 4, 5, 0] (L' := [(0, .ref (a 0)), (1, .int _), (3, .int _), (4, .int _), (5, .int _), (6, .int _)]) rfl rfl ?_
      refine x_goto (tgt := 41) K dX5_partOut_59 rfl ?_
      exact ih _ _ _ _ _ _ _ h
set_option maxHeartbeats 4000000 in
set_option maxRecDepth 100000 in
theorem mX5_partOut (l : Launch) (D : va_G) (cI cO : ClassId) (a : Nat → Nat)  (x1 : Int32) (x2 : Int32) : MV l yX5_partOut wsX5_partOut rmX5_partOut D (xtys cI cO) [.ref (a 0), .int x1, .int x2] (w5 cI a) (qX5_partOut x1 x2) := by
  refine MV_of (cc := cX5_partOut) (maxL := 7) (own := RX5) (by decide) rfl rfl (Nat.le_of_ble_eq_true rfl) ?_
  intro p e s m args below meth c A F G Q h K
  refine x_locals [0, 1, 2] (L' := [(0, .ref (a 0)), (1, .int _), (2, .int _)]) rfl ?_
  refine x_aload_n (pc' := 1) K dX5_partOut_0 0 rfl rfl ?_
  refine xw5_0g_kind (pc' := 4) K hinX5_partOut_X5 uX5_partOut_f18 dX5_partOut_1 rfl ?_
  refine x_iload_n (pc' := 5) K dX5_partOut_4 1 rfl rfl ?_
  obtain ⟨i5, h⟩ := h
  refine xw5_3l (pc' := 6) K i5 rfl dX5_partOut_5 rfl ?_
  refine x_iconst (pc' := 7) (v := 3) K dX5_partOut_6 (by decide) rfl ?_
  refine x_icmp_ne (tgt := 24) (pc' := 10) K dX5_partOut_7 rfl rfl (fun c7 => ?_) (fun c7 => ?_)
  · replace h := h.1 c7
    refine x_iconst (pc' := 25) (v := 0) K dX5_partOut_24 (by decide) rfl ?_
    refine x_istore_n (pc' := 26) (i := 3) K dX5_partOut_25 rfl (by decide) [1, 2, 3, 0] (L' := [(0, .ref (a 0)), (1, .int _), (2, .int _), (3, .int _)]) rfl rfl ?_
    refine x_iload_n (pc' := 27) K dX5_partOut_26 2 rfl rfl ?_
    refine x_iload_n (pc' := 28) K dX5_partOut_27 3 rfl rfl ?_
    refine x_isub (pc' := 29) K dX5_partOut_28 rfl ?_
    refine x_istore (pc' := 31) (i := 4) K dX5_partOut_29 (by decide) [1, 2, 3, 4, 0] (L' := [(0, .ref (a 0)), (1, .int _), (2, .int _), (3, .int _), (4, .int _)]) rfl rfl ?_
    refine x_iload (pc' := 33) K dX5_partOut_31 4 rfl rfl ?_
    refine x_bipush (pc' := 35) (v := 9) K dX5_partOut_33 (by decide) rfl ?_
    refine x_idiv (pc' := 36) K dX5_partOut_35 (by decide) rfl ?_
    refine x_istore (pc' := 38) (i := 5) K dX5_partOut_36 (by decide) [1, 2, 3, 4, 5, 0] (L' := [(0, .ref (a 0)), (1, .int _), (2, .int _), (3, .int _), (4, .int _), (5, .int _)]) rfl rfl ?_
    refine x_iconst (pc' := 39) (v := 0) K dX5_partOut_38 (by decide) rfl ?_
    refine x_istore (pc' := 41) (i := 6) K dX5_partOut_39 (by decide) [1, 2, 3, 4, 5, 6, 0] (L' := [(0, .ref (a 0)), (1, .int _), (2, .int _), (3, .int _), (4, .int _), (5, .int _), (6, .int _)]) rfl rfl ?_
    refine x_locals [0, 1, 3, 4, 5, 6] (L' := [(0, .ref (a 0)), (1, .int _), (3, .int _), (4, .int _), (5, .int _), (6, .int _)]) rfl ?_
    obtain ⟨n41, h⟩ := h
    exact tX5_partOut_41 K n41 _ _ _ _ _ _ _ h
  · replace h := h.2 c7
    refine x_iload_n (pc' := 11) K dX5_partOut_10 2 rfl rfl ?_
    refine x_aload_n (pc' := 12) K dX5_partOut_11 0 rfl rfl ?_
    refine xw5_0g_mark (pc' := 15) K hinX5_partOut_X5 uX5_partOut_f21 dX5_partOut_12 rfl ?_
    refine x_iload_n (pc' := 16) K dX5_partOut_15 1 rfl rfl ?_
    obtain ⟨i16, h⟩ := h
    refine xw5_4l (pc' := 17) K i16 rfl dX5_partOut_16 rfl ?_
    refine x_imul (pc' := 18) K dX5_partOut_17 rfl ?_
    refine x_bipush (pc' := 20) (v := 9) K dX5_partOut_18 (by decide) rfl ?_
    refine x_idiv (pc' := 21) K dX5_partOut_20 (by decide) rfl ?_
    refine x_goto (tgt := 25) K dX5_partOut_21 rfl ?_
    refine x_istore_n (pc' := 26) (i := 3) K dX5_partOut_25 rfl (by decide) [1, 2, 3, 0] (L' := [(0, .ref (a 0)), (1, .int _), (2, .int _), (3, .int _)]) rfl rfl ?_
    refine x_iload_n (pc' := 27) K dX5_partOut_26 2 rfl rfl ?_
    refine x_iload_n (pc' := 28) K dX5_partOut_27 3 rfl rfl ?_
    refine x_isub (pc' := 29) K dX5_partOut_28 rfl ?_
    refine x_istore (pc' := 31) (i := 4) K dX5_partOut_29 (by decide) [1, 2, 3, 4, 0] (L' := [(0, .ref (a 0)), (1, .int _), (2, .int _), (3, .int _), (4, .int _)]) rfl rfl ?_
    refine x_iload (pc' := 33) K dX5_partOut_31 4 rfl rfl ?_
    refine x_bipush (pc' := 35) (v := 9) K dX5_partOut_33 (by decide) rfl ?_
    refine x_idiv (pc' := 36) K dX5_partOut_35 (by decide) rfl ?_
    refine x_istore (pc' := 38) (i := 5) K dX5_partOut_36 (by decide) [1, 2, 3, 4, 5, 0] (L' := [(0, .ref (a 0)), (1, .int _), (2, .int _), (3, .int _), (4, .int _), (5, .int _)]) rfl rfl ?_
    refine x_iconst (pc' := 39) (v := 0) K dX5_partOut_38 (by decide) rfl ?_
    refine x_istore (pc' := 41) (i := 6) K dX5_partOut_39 (by decide) [1, 2, 3, 4, 5, 6, 0] (L' := [(0, .ref (a 0)), (1, .int _), (2, .int _), (3, .int _), (4, .int _), (5, .int _), (6, .int _)]) rfl rfl ?_
    refine x_locals [0, 1, 3, 4, 5, 6] (L' := [(0, .ref (a 0)), (1, .int _), (3, .int _), (4, .int _), (5, .int _), (6, .int _)]) rfl ?_
    obtain ⟨n41, h⟩ := h
    exact tX5_partOut_41 K n41 _ _ _ _ _ _ _ h
end
