section
variable {p : Program} {l : Launch} {e : Env} {s : State} {m : MethodId} {args : Array Value} {below : List Frame} {meth : Method} {c : Code} {D : va_G} {cI cO : ClassId} {A : Nat → Prop} {a : Nat → Nat} {d : Nat}
/-! J7_fill_53178 -/
abbrev rmJ7_fill_53178 : Room := { frames := 2, cells := 0, slots := 0, locals := 60 }
theorem dsJ7_fill_53178 : xDesc yJ7_fill_53178 2 := by decide +kernel
set_option maxHeartbeats 4000000 in
set_option maxRecDepth 100000 in
theorem tJ7_fill_53178_5 (N : Nat) (K : XK p m c cJ7_fill_53178 4 s args wsJ7_fill_53178 RJ7 D (xtys cI cO) A meth none) {Q : xF → xA → Prop} : ∀ (n : Nat), ∀ (x1 : Int32) (x2 : Int32) (x3 : Int32) (F : xF) (G : xA), qJ7_fill_53178_5 N Q n x1 x2 x3 F G → XJ p l e rmJ7_fill_53178 s m args below meth c 0 0 (MQ below (xQv D (wa N cI a) A Q) args s 0 0 A) D (xtys cI cO) A 4 (wa N cI a F G) 5 [(0, .ref (a 0)), (1, .int x1), (2, .int x2), (3, .int x3)] [] := by
  intro n
  induction n with
  | zero =>
    intro x1 x2 x3 F G h
    exact False.elim h
  | succ n ih =>
    intro x1 x2 x3 F G h
    refine x_iload_n (pc' := 6) K dJ7_fill_53178_5 2 rfl rfl ?_
    refine x_iload_n (pc' := 7) K dJ7_fill_53178_6 3 rfl rfl ?_
    refine x_icmp_ge (tgt := 20) (pc' := 10) K dJ7_fill_53178_7 rfl rfl (fun c7 => ?_) (fun c7 => ?_)
    · replace h := h.1 c7
      exact x_vret (wf := wa N cI a) K h dJ7_fill_53178_20
    · replace h := h.2 c7
      refine x_aload_n (pc' := 11) K dJ7_fill_53178_10 0 rfl rfl ?_
      refine x_iload_n (pc' := 12) K dJ7_fill_53178_11 2 rfl rfl ?_
      refine x_iload_n (pc' := 13) K dJ7_fill_53178_12 1 rfl rfl ?_
      obtain ⟨i13, h⟩ := h
      refine xwa_0s (pc' := 14) K i13 rfl dJ7_fill_53178_13 rfl (fun G13 eG13 => ?_)
      replace h := h G13 eG13
      refine x_iinc (pc' := 17) (v := _ + (1 : Int32)) K dJ7_fill_53178_14 2 rfl rfl (by decide) [1, 2, 0, 3] (L' := [(0, .ref (a 0)), (1, .int _), (2, .int _), (3, .int _)]) rfl rfl ?_
      refine x_goto (tgt := 5) K dJ7_fill_53178_17 rfl ?_
      exact ih _ _ _ _ _ h
set_option maxHeartbeats 4000000 in
set_option maxRecDepth 100000 in
theorem mJ7_fill_53178 (l : Launch) (D : va_G) (cI cO : ClassId) (a : Nat → Nat) (N : Nat)  (x1 : Int32) : MV l yJ7_fill_53178 wsJ7_fill_53178 rmJ7_fill_53178 D (xtys cI cO) [.ref (a 0), .int x1] (wa N cI a) (qJ7_fill_53178 N x1) := by
  refine MV_of (cc := cJ7_fill_53178) (maxL := 4) (own := RJ7) (by decide) rfl rfl (Nat.le_of_ble_eq_true rfl) ?_
  intro p e s m args below meth c A F G Q h K
  refine x_locals [0, 1] (L' := [(0, .ref (a 0)), (1, .int _)]) rfl ?_
  refine x_iconst (pc' := 1) (v := 0) K dJ7_fill_53178_0 (by decide) rfl ?_
  refine x_istore_n (pc' := 2) (i := 2) K dJ7_fill_53178_1 rfl (by decide) [1, 2, 0] (L' := [(0, .ref (a 0)), (1, .int _), (2, .int _)]) rfl rfl ?_
  refine x_aload_n (pc' := 3) K dJ7_fill_53178_2 0 rfl rfl ?_
  refine xwa_0n (pc' := 4) K dJ7_fill_53178_3 rfl ?_
  refine x_istore_n (pc' := 5) (i := 3) K dJ7_fill_53178_4 rfl (by decide) [1, 2, 3, 0] (L' := [(0, .ref (a 0)), (1, .int _), (2, .int _), (3, .int _)]) rfl rfl ?_
  obtain ⟨n5, h⟩ := h
  exact tJ7_fill_53178_5 N K n5 _ _ _ _ _ h
/-! X1_at -/
abbrev rmX1_at : Room := { frames := 2, cells := 0, slots := 0, locals := 60 }
theorem dsX1_at : xDesc yX1_at 1 := by decide +kernel
theorem uX1_at_f7 : Cond.fieldLink RX1 7 "PigNinths$Row" "size" "I" ∈ wsX1_at := nw_in nwl_X1_at nwe_76 (by decide +kernel)
theorem hinX1_at_X1 : ∀ w ∈ wsX10, w ∈ wsX1_at := nw_all nwl_X1_at nwl_X10 (by decide +kernel)
theorem uX1_at_f19 : Cond.fieldLink RX1 19 "PigNinths$Row" "numbers" "[I" ∈ wsX1_at := nw_in nwl_X1_at nwe_82 (by decide +kernel)
set_option maxHeartbeats 4000000 in
set_option maxRecDepth 100000 in
theorem mX1_at (l : Launch) (D : va_G) (cI cO : ClassId) (a : Nat → Nat) (N : Nat)  (x1 : Int32) : MI l yX1_at wsX1_at rmX1_at D (xtys cI cO) [.ref (a 0), .int x1] (w1 N cI a) (qX1_at N x1) := by
  refine MI_of (cc := cX1_at) (maxL := 2) (own := RX1) (by decide) rfl rfl (Nat.le_of_ble_eq_true rfl) ?_
  intro p e s m args below meth c A F G Q h K
  refine x_locals [0, 1] (L' := [(0, .ref (a 0)), (1, .int _)]) rfl ?_
  refine x_iload_n (pc' := 1) K dX1_at_0 1 rfl rfl ?_
  refine x_if_lt (tgt := 21) (pc' := 4) K dX1_at_1 rfl rfl (fun c1 => ?_) (fun c1 => ?_)
  · replace h := h.1 c1
    refine x_iconst (pc' := 22) (v := 0) K dX1_at_21 (by decide) rfl ?_
    exact x_iret (wf := w1 N cI a) K h dX1_at_22
  · replace h := h.2 c1
    refine x_iload_n (pc' := 5) K dX1_at_4 1 rfl rfl ?_
    refine x_aload_n (pc' := 6) K dX1_at_5 0 rfl rfl ?_
    refine xw1_0g_size (pc' := 9) K hinX1_at_X1 uX1_at_f7 dX1_at_6 rfl ?_
    refine x_icmp_ge (tgt := 21) (pc' := 12) K dX1_at_9 rfl rfl (fun c9 => ?_) (fun c9 => ?_)
    · replace h := h.1 c9
      refine x_iconst (pc' := 22) (v := 0) K dX1_at_21 (by decide) rfl ?_
      exact x_iret (wf := w1 N cI a) K h dX1_at_22
    · replace h := h.2 c9
      refine x_aload_n (pc' := 13) K dX1_at_12 0 rfl rfl ?_
      refine xw1_0g_numbers (pc' := 16) K hinX1_at_X1 uX1_at_f19 dX1_at_13 rfl ?_
      refine x_iload_n (pc' := 17) K dX1_at_16 1 rfl rfl ?_
      obtain ⟨i17, h⟩ := h
      refine xw1_1l (pc' := 18) K i17 rfl dX1_at_17 rfl ?_
      refine x_goto (tgt := 22) K dX1_at_18 rfl ?_
      exact x_iret (wf := w1 N cI a) K h dX1_at_22
/-! X1_append -/
abbrev rmX1_append : Room := { frames := 2, cells := 0, slots := 0, locals := 60 }
theorem dsX1_append : xDesc yX1_append 1 := by decide +kernel
theorem uX1_append_f7 : Cond.fieldLink RX1 7 "PigNinths$Row" "size" "I" ∈ wsX1_append := nw_in nwl_X1_append nwe_76 (by decide +kernel)
theorem hinX1_append_X1 : ∀ w ∈ wsX10, w ∈ wsX1_append := nw_all nwl_X1_append nwl_X10 (by decide +kernel)
theorem uX1_append_f19 : Cond.fieldLink RX1 19 "PigNinths$Row" "numbers" "[I" ∈ wsX1_append := nw_in nwl_X1_append nwe_82 (by decide +kernel)
set_option maxHeartbeats 4000000 in
set_option maxRecDepth 100000 in
theorem mX1_append (l : Launch) (D : va_G) (cI cO : ClassId) (a : Nat → Nat) (N : Nat)  (x1 : Int32) : MV l yX1_append wsX1_append rmX1_append D (xtys cI cO) [.ref (a 0), .int x1] (w1 N cI a) (qX1_append N x1) := by
  refine MV_of (cc := cX1_append) (maxL := 2) (own := RX1) (by decide) rfl rfl (Nat.le_of_ble_eq_true rfl) ?_
  intro p e s m args below meth c A F G Q h K
  refine x_locals [0, 1] (L' := [(0, .ref (a 0)), (1, .int _)]) rfl ?_
  refine x_aload_n (pc' := 1) K dX1_append_0 0 rfl rfl ?_
  refine xw1_0g_size (pc' := 4) K hinX1_append_X1 uX1_append_f7 dX1_append_1 rfl ?_
  refine x_aload_n (pc' := 5) K dX1_append_4 0 rfl rfl ?_
  refine xw1_0g_numbers (pc' := 8) K hinX1_append_X1 uX1_append_f19 dX1_append_5 rfl ?_
  refine xw1_1n (pc' := 9) K dX1_append_8 rfl ?_
  refine x_icmp_ge (tgt := 32) (pc' := 12) K dX1_append_9 rfl rfl (fun c9 => ?_) (fun c9 => ?_)
  · replace h := h.1 c9
    exact x_vret (wf := w1 N cI a) K h dX1_append_32
  · replace h := h.2 c9
    refine x_aload_n (pc' := 13) K dX1_append_12 0 rfl rfl ?_
    refine xw1_0g_numbers (pc' := 16) K hinX1_append_X1 uX1_append_f19 dX1_append_13 rfl ?_
    refine x_aload_n (pc' := 17) K dX1_append_16 0 rfl rfl ?_
    refine xw1_0g_size (pc' := 20) K hinX1_append_X1 uX1_append_f7 dX1_append_17 rfl ?_
    refine x_iload_n (pc' := 21) K dX1_append_20 1 rfl rfl ?_
    obtain ⟨i21, h⟩ := h
    refine xw1_1s (pc' := 22) K i21 rfl dX1_append_21 rfl (fun G21 eG21 => ?_)
    replace h := h G21 eG21
    refine x_aload_n (pc' := 23) K dX1_append_22 0 rfl rfl ?_
    refine x_dup (pc' := 24) K dX1_append_23 rfl rfl ?_
    refine xw1_0g_size (pc' := 27) K hinX1_append_X1 uX1_append_f7 dX1_append_24 rfl ?_
    refine x_iconst (pc' := 28) (v := 1) K dX1_append_27 (by decide) rfl ?_
    refine x_iadd (pc' := 29) K dX1_append_28 rfl ?_
    refine xw1_0p_size (pc' := 32) K hinX1_append_X1 uX1_append_f7 dX1_append_29 rfl (fun F29 eF29 => ?_)
    replace h := h F29 eF29
    exact x_vret (wf := w1 N cI a) K h dX1_append_32
/-! X1_takeFrom -/
abbrev rmX1_takeFrom : Room := { frames := 3, cells := 0, slots := 0, locals := 200 }
theorem dsX1_takeFrom : xDesc yX1_takeFrom 1 := by decide +kernel
theorem uX1_takeFrom_f7 : Cond.fieldLink RX1 7 "PigNinths$Row" "size" "I" ∈ wsX1_takeFrom := nw_in nwl_X1_takeFrom nwe_76 (by decide +kernel)
theorem hinX1_takeFrom_X1 : ∀ w ∈ wsX10, w ∈ wsX1_takeFrom := nw_all nwl_X1_takeFrom nwl_X10 (by decide +kernel)
theorem uX1_takeFrom_f19 : Cond.fieldLink RX1 19 "PigNinths$Row" "numbers" "[I" ∈ wsX1_takeFrom := nw_in nwl_X1_takeFrom nwe_82 (by decide +kernel)
theorem uX1_takeFrom_m23 : Cond.methodLink RX1 23 Lib.Math.min.name ∈ wsX1_takeFrom := nw_in nwl_X1_takeFrom nwe_95 (by decide +kernel)
theorem uX1_takeFrom_msmin : Cond.static Lib.Math.min.name ∈ wsX1_takeFrom := nw_in nwl_X1_takeFrom nwe_96 (by decide +kernel)
theorem uX1_takeFrom_mi : Cond.initialized "java/lang/Math" ∈ wsX1_takeFrom := nw_in nwl_X1_takeFrom nwe_79 (by decide +kernel)
theorem uX1_takeFrom_mcmin : Cond.code Lib.Math.min.name Lib.Math.min.code 2 (some .int) ∈ wsX1_takeFrom := nw_in nwl_X1_takeFrom nwe_97 (by decide +kernel)
theorem uX1_takeFrom_m26 : Cond.methodLink RX1 26 arraycopyName ∈ wsX1_takeFrom := nw_in nwl_X1_takeFrom nwe_98 (by decide +kernel)
theorem uX1_takeFrom_cn : Cond.native arraycopyName ∈ wsX1_takeFrom := nw_in nwl_X1_takeFrom nwe_99 (by decide +kernel)
theorem uX1_takeFrom_cs : Cond.static arraycopyName ∈ wsX1_takeFrom := nw_in nwl_X1_takeFrom nwe_100 (by decide +kernel)
theorem uX1_takeFrom_ci : Cond.initialized "java/lang/System" ∈ wsX1_takeFrom := nw_in nwl_X1_takeFrom nwe_101 (by decide +kernel)
set_option maxHeartbeats 4000000 in
set_option maxRecDepth 100000 in
theorem mX1_takeFrom (l : Launch) (D : va_G) (cI cO : ClassId) (a : Nat → Nat) (N : Nat) (M : Nat)   : MV l yX1_takeFrom wsX1_takeFrom rmX1_takeFrom D (xtys cI cO) [.ref (a 0), .ref (a 2)] (w11 N M cI a) (qX1_takeFrom N M) := by
  refine MV_of (cc := cX1_takeFrom) (maxL := 2) (own := RX1) (by decide) rfl rfl (Nat.le_of_ble_eq_true rfl) ?_
  intro p e s m args below meth c A F G Q h K
  refine x_locals [0, 1] (L' := [(0, .ref (a 0)), (1, .ref (a 2))]) rfl ?_
  refine x_aload_n (pc' := 1) K dX1_takeFrom_0 0 rfl rfl ?_
  refine x_aload_n (pc' := 2) K dX1_takeFrom_1 1 rfl rfl ?_
  refine xw11_2g_size (pc' := 5) K hinX1_takeFrom_X1 uX1_takeFrom_f7 dX1_takeFrom_2 rfl ?_
  refine x_aload_n (pc' := 6) K dX1_takeFrom_5 0 rfl rfl ?_
  refine xw11_0g_numbers (pc' := 9) K hinX1_takeFrom_X1 uX1_takeFrom_f19 dX1_takeFrom_6 rfl ?_
  refine xw11_1n (pc' := 10) K dX1_takeFrom_9 rfl ?_
  refine x_mmin (pc' := 13) K uX1_takeFrom_m23 uX1_takeFrom_msmin uX1_takeFrom_mi uX1_takeFrom_mcmin (Nat.le_of_ble_eq_true rfl) (Nat.le_of_ble_eq_true rfl) (Nat.le_of_ble_eq_true rfl) (Nat.le_of_ble_eq_true rfl) dX1_takeFrom_10 rfl ?_
  refine xw11_0p_size (pc' := 16) K hinX1_takeFrom_X1 uX1_takeFrom_f7 dX1_takeFrom_13 rfl (fun F13 eF13 => ?_)
  replace h := h F13 eF13
  refine x_aload_n (pc' := 17) K dX1_takeFrom_16 1 rfl rfl ?_
  refine xw11_2g_numbers (pc' := 20) K hinX1_takeFrom_X1 uX1_takeFrom_f19 dX1_takeFrom_17 rfl ?_
  refine x_iconst (pc' := 21) (v := 0) K dX1_takeFrom_20 (by decide) rfl ?_
  refine x_aload_n (pc' := 22) K dX1_takeFrom_21 0 rfl rfl ?_
  refine xw11_0g_numbers (pc' := 25) K hinX1_takeFrom_X1 uX1_takeFrom_f19 dX1_takeFrom_22 rfl ?_
  refine x_iconst (pc' := 26) (v := 0) K dX1_takeFrom_25 (by decide) rfl ?_
  refine x_aload_n (pc' := 27) K dX1_takeFrom_26 0 rfl rfl ?_
  refine xw11_0g_size (pc' := 30) K hinX1_takeFrom_X1 uX1_takeFrom_f7 dX1_takeFrom_27 rfl ?_
  obtain ⟨z30n, h⟩ := h
  obtain ⟨z30p, h⟩ := h
  obtain ⟨z30q, h⟩ := h
  refine x_copy (pc' := 33) (w' := w11 N M cI a F13 (va_up G 0 (va_cpy (G 1) (G 0) (0 : Int32).toNatClampNeg (0 : Int32).toNatClampNeg (F13 0).toNatClampNeg))) K uX1_takeFrom_m26 uX1_takeFrom_cn uX1_takeFrom_cs uX1_takeFrom_ci 3 1 (f := G 1) (g := G 0) (n0 := M) (n1 := N) (cA := cI) rfl rfl rfl (by decide) (by decide) z30n z30p z30q rfl (by decide +kernel) (by decide +kernel) dX1_takeFrom_30 rfl ?_
  obtain ⟨G30, eG30⟩ : ∃ x : xA, x = va_up G 0 (va_cpy (G 1) (G 0) (0 : Int32).toNatClampNeg (0 : Int32).toNatClampNeg (F13 0).toNatClampNeg) := ⟨_, rfl⟩
  refine x_weq (w' := w11 N M cI a F13 G30) (by subst eG30; rfl) ?_
  replace h := h G30 eG30
  exact x_vret (wf := w11 N M cI a) K h dX1_takeFrom_33
/-! X3_isThere -/
abbrev rmX3_isThere : Room := { frames := 2, cells := 0, slots := 0, locals := 60 }
theorem dsX3_isThere : xDesc yX3_isThere 0 := by decide +kernel
theorem uX3_isThere_f14 : Cond.fieldLink RX3 14 "PigNinths$Text" "code" "LPigNinths$Row;" ∈ wsX3_isThere := nw_in nwl_X3_isThere nwe_181 (by decide +kernel)
theorem hinX3_isThere_X3 : ∀ w ∈ wsX30, w ∈ wsX3_isThere := nw_all nwl_X3_isThere nwl_X30 (by decide +kernel)
theorem uX3_isThere_f24 : Cond.fieldLink RX3 24 "PigNinths$Row" "size" "I" ∈ wsX3_isThere := nw_in nwl_X3_isThere nwe_185 (by decide +kernel)
theorem hinX3_isThere_X1 : ∀ w ∈ wsX10, w ∈ wsX3_isThere := nw_all nwl_X3_isThere nwl_X10 (by decide +kernel)
set_option maxHeartbeats 4000000 in
set_option maxRecDepth 100000 in
theorem mX3_isThere (l : Launch) (D : va_G) (cI cO : ClassId) (a : Nat → Nat)   : MI l yX3_isThere wsX3_isThere rmX3_isThere D (xtys cI cO) [.ref (a 0)] (w3 cI a) qX3_isThere := by
  refine MZ_of (cc := cX3_isThere) (maxL := 1) (own := RX3) (by decide) rfl rfl (Nat.le_of_ble_eq_true rfl) ?_
  intro p e s m args below meth c A F G Q h K
  refine x_locals [0] (L' := [(0, .ref (a 0))]) rfl ?_
  refine x_aload_n (pc' := 1) K dX3_isThere_0 0 rfl rfl ?_
  refine xw3_0g_code (pc' := 4) K hinX3_isThere_X3 uX3_isThere_f14 dX3_isThere_1 rfl ?_
  refine xw3_2g_size (pc' := 7) K hinX3_isThere_X1 uX3_isThere_f24 dX3_isThere_4 rfl ?_
  refine x_if_le (tgt := 14) (pc' := 10) K dX3_isThere_7 rfl rfl (fun c7 => ?_) (fun c7 => ?_)
  · replace h := h.1 c7
    refine x_iconst (pc' := 15) (v := 0) K dX3_isThere_14 (by decide) rfl ?_
    exact x_zret (wf := w3 cI a) K (Or.inl rfl) h dX3_isThere_15
  · replace h := h.2 c7
    refine x_iconst (pc' := 11) (v := 1) K dX3_isThere_10 (by decide) rfl ?_
    refine x_goto (tgt := 15) K dX3_isThere_11 rfl ?_
    exact x_zret (wf := w3 cI a) K (Or.inr rfl) h dX3_isThere_15
/-! X3_named -/
abbrev rmX3_named : Room := { frames := 2, cells := 0, slots := 0, locals := 60 }
theorem dsX3_named : xDesc yX3_named 4 := by decide +kernel
set_option maxHeartbeats 4000000 in
set_option maxRecDepth 100000 in
theorem mX3_named (l : Launch) (D : va_G) (cI cO : ClassId) (a : Nat → Nat)  (x0 : Int32) (x1 : Int32) (x2 : Int32) (x3 : Int32) : MS l yX3_named wsX3_named rmX3_named D (xtys cI cO) [.int x0, .int x1, .int x2, .int x3] (qX3_named x0 x1 x2 x3) := by
  refine MS_of (cc := cX3_named) (maxL := 4) (own := RX3) (by decide) rfl rfl (Nat.le_of_ble_eq_true rfl) ?_
  intro p e s m args below meth c A Q h K
  refine x_locals [0, 1, 2, 3] (L' := [(0, .int _), (1, .int _), (2, .int _), (3, .int _)]) rfl ?_
  refine x_iload_n (pc' := 1) K dX3_named_0 0 rfl rfl ?_
  refine (Classical.em (x0 = (10000 : Int32))).elim (fun e1 => ?_) (fun e1_1 => ?_)
  · replace h := h.1 e1
    refine x_tableIn (tgt := 28) (off := 27) K dX3_named_1 (by rw [e1]; decide) (by rw [e1]; decide) (by rw [e1]; rfl) rfl ?_
    refine x_iload_n (pc' := 29) K dX3_named_28 1 rfl rfl ?_
    exact x_siret K h dX3_named_29
  · replace h := h.2 e1_1
    refine (Classical.em (x0 = (10001 : Int32))).elim (fun e1 => ?_) (fun e1_2 => ?_)
    · replace h := h.1 e1
      refine x_tableIn (tgt := 30) (off := 29) K dX3_named_1 (by rw [e1]; decide) (by rw [e1]; decide) (by rw [e1]; rfl) rfl ?_
      refine x_iload_n (pc' := 31) K dX3_named_30 2 rfl rfl ?_
      exact x_siret K h dX3_named_31
    · replace h := h.2 e1_2
      refine (Classical.em (x0 = (10002 : Int32))).elim (fun e1 => ?_) (fun e1_3 => ?_)
      · replace h := h.1 e1
        refine x_tableIn (tgt := 32) (off := 31) K dX3_named_1 (by rw [e1]; decide) (by rw [e1]; decide) (by rw [e1]; rfl) rfl ?_
        refine x_iload_n (pc' := 33) K dX3_named_32 3 rfl rfl ?_
        exact x_siret K h dX3_named_33
      · replace h := h.2 e1_3
        have f1_1 := xtin (i := 10000) e1_1 (by decide)
        have f1_2 := xtin (i := 10001) e1_2 (by decide)
        have f1_3 := xtin (i := 10002) e1_3 (by decide)
        refine (Classical.em (x0.toInt < 10000 ∨ 10002 < x0.toInt)).elim (fun g1 => ?_) (fun g1 => ?_)
        · refine x_tableOut (tgt := 34) K dX3_named_1 g1 rfl ?_
          refine x_iload_n (pc' := 35) K dX3_named_34 0 rfl rfl ?_
          exact x_siret K h dX3_named_35
        · exact absurd g1 (by omega)
/-! X3_joined -/
abbrev rmX3_joined : Room := { frames := 2, cells := 0, slots := 0, locals := 60 }
theorem dsX3_joined : xDesc yX3_joined 3 := by decide +kernel
set_option maxHeartbeats 4000000 in
set_option maxRecDepth 100000 in
theorem mX3_joined (l : Launch) (D : va_G) (cI cO : ClassId) (a : Nat → Nat)  (x0 : Int32) (x1 : Int32) (x2 : Int32) : MS l yX3_joined wsX3_joined rmX3_joined D (xtys cI cO) [.int x0, .int x1, .int x2] (qX3_joined x0 x1 x2) := by
  refine MS_of (cc := cX3_joined) (maxL := 3) (own := RX3) (by decide) rfl rfl (Nat.le_of_ble_eq_true rfl) ?_
  intro p e s m args below meth c A Q h K
  refine x_locals [0, 1, 2] (L' := [(0, .int _), (1, .int _), (2, .int _)]) rfl ?_
  refine x_iload_n (pc' := 1) K dX3_joined_0 0 rfl rfl ?_
  refine (Classical.em (x0 = (38 : Int32))).elim (fun e1 => ?_) (fun e1_1 => ?_)
  · replace h := h.1 e1
    refine x_lookup (tgt := 98) (off := 97) K dX3_joined_1 (by decide) (by rw [e1]; rfl) rfl ?_
    refine x_iload_n (pc' := 99) K dX3_joined_98 1 rfl rfl ?_
    refine x_if_eq (tgt := 110) (pc' := 102) K dX3_joined_99 rfl rfl (fun c99 => ?_) (fun c99 => ?_)
    · replace h := h.1 c99
      refine x_iconst (pc' := 111) (v := 0) K dX3_joined_110 (by decide) rfl ?_
      exact x_siret K h dX3_joined_111
    · replace h := h.2 c99
      refine x_iload_n (pc' := 103) K dX3_joined_102 2 rfl rfl ?_
      refine x_if_eq (tgt := 110) (pc' := 106) K dX3_joined_103 rfl rfl (fun c103 => ?_) (fun c103 => ?_)
      · replace h := h.1 c103
        refine x_iconst (pc' := 111) (v := 0) K dX3_joined_110 (by decide) rfl ?_
        exact x_siret K h dX3_joined_111
      · replace h := h.2 c103
        refine x_iconst (pc' := 107) (v := 1) K dX3_joined_106 (by decide) rfl ?_
        refine x_goto (tgt := 111) K dX3_joined_107 rfl ?_
        exact x_siret K h dX3_joined_111
  · replace h := h.2 e1_1
    refine (Classical.em (x0 = (42 : Int32))).elim (fun e1 => ?_) (fun e1_2 => ?_)
    · replace h := h.1 e1
      refine x_lookup (tgt := 153) (off := 152) K dX3_joined_1 (by decide) (by rw [e1]; rfl) rfl ?_
      refine x_iload_n (pc' := 154) K dX3_joined_153 1 rfl rfl ?_
      refine x_iload_n (pc' := 155) K dX3_joined_154 2 rfl rfl ?_
      refine x_imul (pc' := 156) K dX3_joined_155 rfl ?_
      exact x_siret K h dX3_joined_156
    · replace h := h.2 e1_2
      refine (Classical.em (x0 = (43 : Int32))).elim (fun e1 => ?_) (fun e1_3 => ?_)
      · replace h := h.1 e1
        refine x_lookup (tgt := 145) (off := 144) K dX3_joined_1 (by decide) (by rw [e1]; rfl) rfl ?_
        refine x_iload_n (pc' := 146) K dX3_joined_145 1 rfl rfl ?_
        refine x_iload_n (pc' := 147) K dX3_joined_146 2 rfl rfl ?_
        refine x_iadd (pc' := 148) K dX3_joined_147 rfl ?_
        exact x_siret K h dX3_joined_148
      · replace h := h.2 e1_3
        refine (Classical.em (x0 = (45 : Int32))).elim (fun e1 => ?_) (fun e1_4 => ?_)
        · replace h := h.1 e1
          refine x_lookup (tgt := 149) (off := 148) K dX3_joined_1 (by decide) (by rw [e1]; rfl) rfl ?_
          refine x_iload_n (pc' := 150) K dX3_joined_149 1 rfl rfl ?_
          refine x_iload_n (pc' := 151) K dX3_joined_150 2 rfl rfl ?_
          refine x_isub (pc' := 152) K dX3_joined_151 rfl ?_
          exact x_siret K h dX3_joined_152
        · replace h := h.2 e1_4
          refine (Classical.em (x0 = (47 : Int32))).elim (fun e1 => ?_) (fun e1_5 => ?_)
          · replace h := h.1 e1
            refine x_lookup (tgt := 157) (off := 156) K dX3_joined_1 (by decide) (by rw [e1]; rfl) rfl ?_
            refine x_iload_n (pc' := 158) K dX3_joined_157 2 rfl rfl ?_
            refine x_if_ne (tgt := 165) (pc' := 161) K dX3_joined_158 rfl rfl (fun c158 => ?_) (fun c158 => ?_)
            · replace h := h.1 c158
              refine x_iload_n (pc' := 166) K dX3_joined_165 1 rfl rfl ?_
              refine x_iload_n (pc' := 167) K dX3_joined_166 2 rfl rfl ?_
              obtain ⟨z167, h⟩ := h
              refine x_idiv (pc' := 168) K dX3_joined_167 z167 rfl ?_
              exact x_siret K h dX3_joined_168
            · replace h := h.2 c158
              refine x_iconst (pc' := 162) (v := 0) K dX3_joined_161 (by decide) rfl ?_
              refine x_goto (tgt := 168) K dX3_joined_162 rfl ?_
              exact x_siret K h dX3_joined_168
          · replace h := h.2 e1_5
            refine (Classical.em (x0 = (60 : Int32))).elim (fun e1 => ?_) (fun e1_6 => ?_)
            · replace h := h.1 e1
              refine x_lookup (tgt := 112) (off := 111) K dX3_joined_1 (by decide) (by rw [e1]; rfl) rfl ?_
              refine x_iload_n (pc' := 113) K dX3_joined_112 1 rfl rfl ?_
              refine x_iload_n (pc' := 114) K dX3_joined_113 2 rfl rfl ?_
              refine x_icmp_ge (tgt := 121) (pc' := 117) K dX3_joined_114 rfl rfl (fun c114 => ?_) (fun c114 => ?_)
              · replace h := h.1 c114
                refine x_iconst (pc' := 122) (v := 0) K dX3_joined_121 (by decide) rfl ?_
                exact x_siret K h dX3_joined_122
              · replace h := h.2 c114
                refine x_iconst (pc' := 118) (v := 1) K dX3_joined_117 (by decide) rfl ?_
                refine x_goto (tgt := 122) K dX3_joined_118 rfl ?_
                exact x_siret K h dX3_joined_122
            · replace h := h.2 e1_6
              refine (Classical.em (x0 = (61 : Int32))).elim (fun e1 => ?_) (fun e1_7 => ?_)
              · replace h := h.1 e1
                refine x_lookup (tgt := 123) (off := 122) K dX3_joined_1 (by decide) (by rw [e1]; rfl) rfl ?_
                refine x_iload_n (pc' := 124) K dX3_joined_123 1 rfl rfl ?_
                refine x_iload_n (pc' := 125) K dX3_joined_124 2 rfl rfl ?_
                refine x_icmp_ne (tgt := 132) (pc' := 128) K dX3_joined_125 rfl rfl (fun c125 => ?_) (fun c125 => ?_)
                · replace h := h.1 c125
                  refine x_iconst (pc' := 133) (v := 0) K dX3_joined_132 (by decide) rfl ?_
                  exact x_siret K h dX3_joined_133
                · replace h := h.2 c125
                  refine x_iconst (pc' := 129) (v := 1) K dX3_joined_128 (by decide) rfl ?_
                  refine x_goto (tgt := 133) K dX3_joined_129 rfl ?_
                  exact x_siret K h dX3_joined_133
              · replace h := h.2 e1_7
                refine (Classical.em (x0 = (62 : Int32))).elim (fun e1 => ?_) (fun e1_8 => ?_)
                · replace h := h.1 e1
                  refine x_lookup (tgt := 134) (off := 133) K dX3_joined_1 (by decide) (by rw [e1]; rfl) rfl ?_
                  refine x_iload_n (pc' := 135) K dX3_joined_134 1 rfl rfl ?_
                  refine x_iload_n (pc' := 136) K dX3_joined_135 2 rfl rfl ?_
                  refine x_icmp_le (tgt := 143) (pc' := 139) K dX3_joined_136 rfl rfl (fun c136 => ?_) (fun c136 => ?_)
                  · replace h := h.1 c136
                    refine x_iconst (pc' := 144) (v := 0) K dX3_joined_143 (by decide) rfl ?_
                    exact x_siret K h dX3_joined_144
                  · replace h := h.2 c136
                    refine x_iconst (pc' := 140) (v := 1) K dX3_joined_139 (by decide) rfl ?_
                    refine x_goto (tgt := 144) K dX3_joined_140 rfl ?_
                    exact x_siret K h dX3_joined_144
                · replace h := h.2 e1_8
                  refine (Classical.em (x0 = (124 : Int32))).elim (fun e1 => ?_) (fun e1_9 => ?_)
                  · replace h := h.1 e1
                    refine x_lookup (tgt := 84) (off := 83) K dX3_joined_1 (by decide) (by rw [e1]; rfl) rfl ?_
                    refine x_iload_n (pc' := 85) K dX3_joined_84 1 rfl rfl ?_
                    refine x_if_ne (tgt := 92) (pc' := 88) K dX3_joined_85 rfl rfl (fun c85 => ?_) (fun c85 => ?_)
                    · replace h := h.1 c85
                      refine x_iconst (pc' := 93) (v := 1) K dX3_joined_92 (by decide) rfl ?_
                      refine x_goto (tgt := 97) K dX3_joined_93 rfl ?_
                      exact x_siret K h dX3_joined_97
                    · replace h := h.2 c85
                      refine x_iload_n (pc' := 89) K dX3_joined_88 2 rfl rfl ?_
                      refine x_if_eq (tgt := 96) (pc' := 92) K dX3_joined_89 rfl rfl (fun c89 => ?_) (fun c89 => ?_)
                      · replace h := h.1 c89
                        refine x_iconst (pc' := 97) (v := 0) K dX3_joined_96 (by decide) rfl ?_
                        exact x_siret K h dX3_joined_97
                      · replace h := h.2 c89
                        refine x_iconst (pc' := 93) (v := 1) K dX3_joined_92 (by decide) rfl ?_
                        refine x_goto (tgt := 97) K dX3_joined_93 rfl ?_
                        exact x_siret K h dX3_joined_97
                  · replace h := h.2 e1_9
                    have f1_1 := xtin (i := 38) e1_1 (by decide)
                    have f1_2 := xtin (i := 42) e1_2 (by decide)
                    have f1_3 := xtin (i := 43) e1_3 (by decide)
                    have f1_4 := xtin (i := 45) e1_4 (by decide)
                    have f1_5 := xtin (i := 47) e1_5 (by decide)
                    have f1_6 := xtin (i := 60) e1_6 (by decide)
                    have f1_7 := xtin (i := 61) e1_7 (by decide)
                    have f1_8 := xtin (i := 62) e1_8 (by decide)
                    have f1_9 := xtin (i := 124) e1_9 (by decide)
                    refine x_lookup (tgt := 169) (off := 168) K dX3_joined_1 (by decide) (by simp only [Op.lookupswitch.offset, if_neg (Ne.symm f1_1), if_neg (Ne.symm f1_2), if_neg (Ne.symm f1_3), if_neg (Ne.symm f1_4), if_neg (Ne.symm f1_5), if_neg (Ne.symm f1_6), if_neg (Ne.symm f1_7), if_neg (Ne.symm f1_8), if_neg (Ne.symm f1_9)]) rfl ?_
                    refine x_iload_n (pc' := 170) K dX3_joined_169 2 rfl rfl ?_
                    refine x_if_ne (tgt := 177) (pc' := 173) K dX3_joined_170 rfl rfl (fun c170 => ?_) (fun c170 => ?_)
                    · replace h := h.1 c170
                      refine x_iload_n (pc' := 178) K dX3_joined_177 1 rfl rfl ?_
                      refine x_iload_n (pc' := 179) K dX3_joined_178 2 rfl rfl ?_
                      obtain ⟨z179, h⟩ := h
                      refine x_irem (pc' := 180) K dX3_joined_179 z179 rfl ?_
                      exact x_siret K h dX3_joined_180
                    · replace h := h.2 c170
                      refine x_iconst (pc' := 174) (v := 0) K dX3_joined_173 (by decide) rfl ?_
                      refine x_goto (tgt := 180) K dX3_joined_174 rfl ?_
                      exact x_siret K h dX3_joined_180
/-! X2_isMissing -/
abbrev rmX2_isMissing : Room := { frames := 2, cells := 0, slots := 0, locals := 60 }
theorem dsX2_isMissing : xDesc yX2_isMissing 0 := by decide +kernel
theorem uX2_isMissing_f15 : Cond.fieldLink RX2 15 "PigNinths$Sheet" "bits" "I" ∈ wsX2_isMissing := nw_in nwl_X2_isMissing nwe_164 (by decide +kernel)
theorem hinX2_isMissing_X2 : ∀ w ∈ wsX20, w ∈ wsX2_isMissing := nw_all nwl_X2_isMissing nwl_X20 (by decide +kernel)
set_option maxHeartbeats 4000000 in
set_option maxRecDepth 100000 in
theorem mX2_isMissing (l : Launch) (D : va_G) (cI cO : ClassId) (a : Nat → Nat)   : MI l yX2_isMissing wsX2_isMissing rmX2_isMissing D (xtys cI cO) [.ref (a 0)] (w2 cI a) qX2_isMissing := by
  refine MZ_of (cc := cX2_isMissing) (maxL := 1) (own := RX2) (by decide) rfl rfl (Nat.le_of_ble_eq_true rfl) ?_
  intro p e s m args below meth c A F G Q h K
  refine x_locals [0] (L' := [(0, .ref (a 0))]) rfl ?_
  refine x_aload_n (pc' := 1) K dX2_isMissing_0 0 rfl rfl ?_
  refine xw2_0g_bits (pc' := 4) K hinX2_isMissing_X2 uX2_isMissing_f15 dX2_isMissing_1 rfl ?_
  refine x_if_ne (tgt := 11) (pc' := 7) K dX2_isMissing_4 rfl rfl (fun c4 => ?_) (fun c4 => ?_)
  · replace h := h.1 c4
    refine x_iconst (pc' := 12) (v := 0) K dX2_isMissing_11 (by decide) rfl ?_
    exact x_zret (wf := w2 cI a) K (Or.inl rfl) h dX2_isMissing_12
  · replace h := h.2 c4
    refine x_iconst (pc' := 8) (v := 1) K dX2_isMissing_7 (by decide) rfl ?_
    refine x_goto (tgt := 12) K dX2_isMissing_8 rfl ?_
    exact x_zret (wf := w2 cI a) K (Or.inr rfl) h dX2_isMissing_12
/-! X2_becomes -/
set_option maxHeartbeats 4000000 in
set_option maxRecDepth 100000 in
theorem xpl0 (cI : ClassId) (a : Nat → Nat) (F : xF) (G : xA) : (w2 cI a F G).Perm (xpick (bw2 cI a F G) [0] ++ wa 24 cI (xsub a 1) (xsub F 0) (xsub G 0)) := xperm0 (bl := bw2 cI a F G) (n := 2) rfl rfl [0] [1] (by decide +kernel) rfl rfl
set_option maxHeartbeats 4000000 in
set_option maxRecDepth 100000 in
theorem xpr0 (cI : ClassId) (a : Nat → Nat) (F : xF) (G : xA) (F' : xF) (G' : xA) : (w2 cI a F (xspl G 0 1 G')).Perm (xpick (bw2 cI a F G) [0] ++ wa 24 cI (xsub a 1) F' G') := xperm0 (bl := bw2 cI a F (xspl G 0 1 G')) (n := 2) rfl rfl [0] [1] (by decide +kernel) rfl rfl
abbrev rmX2_becomes : Room := { frames := 3, cells := 0, slots := 0, locals := 83 }
theorem dsX2_becomes : xDesc yX2_becomes 2 := by decide +kernel
theorem uX2_becomes_f15 : Cond.fieldLink RX2 15 "PigNinths$Sheet" "bits" "I" ∈ wsX2_becomes := nw_in nwl_X2_becomes nwe_164 (by decide +kernel)
theorem hinX2_becomes_X2 : ∀ w ∈ wsX20, w ∈ wsX2_becomes := nw_all nwl_X2_becomes nwl_X20 (by decide +kernel)
theorem uX2_becomes_m22 : Cond.methodLink RX2 22 Lib.Math.min.name ∈ wsX2_becomes := nw_in nwl_X2_becomes nwe_169 (by decide +kernel)
theorem uX2_becomes_msmin : Cond.static Lib.Math.min.name ∈ wsX2_becomes := nw_in nwl_X2_becomes nwe_96 (by decide +kernel)
theorem uX2_becomes_mi : Cond.initialized "java/lang/Math" ∈ wsX2_becomes := nw_in nwl_X2_becomes nwe_79 (by decide +kernel)
theorem uX2_becomes_mcmin : Cond.code Lib.Math.min.name Lib.Math.min.code 2 (some .int) ∈ wsX2_becomes := nw_in nwl_X2_becomes nwe_97 (by decide +kernel)
theorem uX2_becomes_m28 : Cond.methodLink RX2 28 Lib.Math.max.name ∈ wsX2_becomes := nw_in nwl_X2_becomes nwe_170 (by decide +kernel)
theorem uX2_becomes_msmax : Cond.static Lib.Math.max.name ∈ wsX2_becomes := nw_in nwl_X2_becomes nwe_78 (by decide +kernel)
theorem uX2_becomes_mcmax : Cond.code Lib.Math.max.name Lib.Math.max.code 2 (some .int) ∈ wsX2_becomes := nw_in nwl_X2_becomes nwe_80 (by decide +kernel)
theorem uX2_becomes_f19 : Cond.fieldLink RX2 19 "PigNinths$Sheet" "size" "I" ∈ wsX2_becomes := nw_in nwl_X2_becomes nwe_165 (by decide +kernel)
theorem uX2_becomes_f9 : Cond.fieldLink RX2 9 "PigNinths$Sheet" "numbers" "[I" ∈ wsX2_becomes := nw_in nwl_X2_becomes nwe_163 (by decide +kernel)
set_option maxHeartbeats 4000000 in
set_option maxRecDepth 100000 in
theorem mX2_becomes (l : Launch) (D : va_G) (cI cO : ClassId) (a : Nat → Nat)  (x1 : Int32) (x2 : Int32) : MV l yX2_becomes wsX2_becomes rmX2_becomes D (xtys cI cO) [.ref (a 0), .int x1, .int x2] (w2 cI a) (qX2_becomes x1 x2) := by
  refine MV_of (cc := cX2_becomes) (maxL := 3) (own := RX2) (by decide) rfl rfl (Nat.le_of_ble_eq_true rfl) ?_
  intro p e s m args below meth c A F G Q h K
  refine x_locals [0, 1, 2] (L' := [(0, .ref (a 0)), (1, .int _), (2, .int _)]) rfl ?_
  refine x_aload_n (pc' := 1) K dX2_becomes_0 0 rfl rfl ?_
  refine x_iload_n (pc' := 2) K dX2_becomes_1 1 rfl rfl ?_
  refine xw2_0p_bits (pc' := 5) K hinX2_becomes_X2 uX2_becomes_f15 dX2_becomes_2 rfl (fun F2 eF2 => ?_)
  replace h := h F2 eF2
  refine x_aload_n (pc' := 6) K dX2_becomes_5 0 rfl rfl ?_
  refine x_iload_n (pc' := 7) K dX2_becomes_6 1 rfl rfl ?_
  refine x_if_ne (tgt := 14) (pc' := 10) K dX2_becomes_7 rfl rfl (fun c7 => ?_) (fun c7 => ?_)
  · replace h := h.1 c7
    refine x_iconst (pc' := 15) (v := 0) K dX2_becomes_14 (by decide) rfl ?_
    refine x_bipush (pc' := 17) (v := 24) K dX2_becomes_15 (by decide) rfl ?_
    refine x_iload_n (pc' := 18) K dX2_becomes_17 2 rfl rfl ?_
    refine x_mmin (pc' := 21) K uX2_becomes_m22 uX2_becomes_msmin uX2_becomes_mi uX2_becomes_mcmin (Nat.le_of_ble_eq_true rfl) (Nat.le_of_ble_eq_true rfl) (Nat.le_of_ble_eq_true rfl) (Nat.le_of_ble_eq_true rfl) dX2_becomes_18 rfl ?_
    refine x_mmax (pc' := 24) K uX2_becomes_m28 uX2_becomes_msmax uX2_becomes_mi uX2_becomes_mcmax (Nat.le_of_ble_eq_true rfl) (Nat.le_of_ble_eq_true rfl) (Nat.le_of_ble_eq_true rfl) (Nat.le_of_ble_eq_true rfl) dX2_becomes_21 rfl ?_
    refine xw2_0p_size (pc' := 27) K hinX2_becomes_X2 uX2_becomes_f19 dX2_becomes_24 rfl (fun F24 eF24 => ?_)
    replace h := h F24 eF24
    refine x_aload_n (pc' := 28) K dX2_becomes_27 0 rfl rfl ?_
    refine xw2_0g_numbers (pc' := 31) K hinX2_becomes_X2 uX2_becomes_f9 dX2_becomes_28 rfl ?_
    refine x_iconst (pc' := 32) (v := 0) K dX2_becomes_31 (by decide) rfl ?_
    refine x_subVS (pc' := 35) (wn := fun F' G' => w2 cI a F24 (xspl G 0 1 G')) K (mJ7_fill_53178 l D cI cO (xsub a 1) 24 _) rfl gX2_becomes_J7_fill_53178 dsJ7_fill_53178 ⟨rfl, rfl, ⟨Nat.le_of_ble_eq_true rfl, Nat.le_of_ble_eq_true rfl⟩, Nat.le_of_ble_eq_true rfl, Nat.le_of_ble_eq_true rfl⟩ h (xpl0 cI a _ _) (fun F' G' => xpr0 cI a _ _ F' G') (st := []) rfl rfl (Nat.le_of_ble_eq_true rfl) dX2_becomes_32 rfl (fun F32 G32 h => ?_)
    obtain ⟨H32, eH32⟩ : ∃ x : xA, x = (xspl G 0 1 G32) := ⟨_, rfl⟩
    refine x_weq (w' := w2 cI a F24 H32) (by subst eH32; rfl) ?_
    replace h := h H32 eH32
    exact x_vret (wf := w2 cI a) K h dX2_becomes_35
  · replace h := h.2 c7
    refine x_iconst (pc' := 11) (v := 0) K dX2_becomes_10 (by decide) rfl ?_
    refine x_goto (tgt := 24) K dX2_becomes_11 rfl ?_
    refine xw2_0p_size (pc' := 27) K hinX2_becomes_X2 uX2_becomes_f19 dX2_becomes_24 rfl (fun F24 eF24 => ?_)
    replace h := h F24 eF24
    refine x_aload_n (pc' := 28) K dX2_becomes_27 0 rfl rfl ?_
    refine xw2_0g_numbers (pc' := 31) K hinX2_becomes_X2 uX2_becomes_f9 dX2_becomes_28 rfl ?_
    refine x_iconst (pc' := 32) (v := 0) K dX2_becomes_31 (by decide) rfl ?_
    refine x_subVS (pc' := 35) (wn := fun F' G' => w2 cI a F24 (xspl G 0 1 G')) K (mJ7_fill_53178 l D cI cO (xsub a 1) 24 _) rfl gX2_becomes_J7_fill_53178 dsJ7_fill_53178 ⟨rfl, rfl, ⟨Nat.le_of_ble_eq_true rfl, Nat.le_of_ble_eq_true rfl⟩, Nat.le_of_ble_eq_true rfl, Nat.le_of_ble_eq_true rfl⟩ h (xpl0 cI a _ _) (fun F' G' => xpr0 cI a _ _ F' G') (st := []) rfl rfl (Nat.le_of_ble_eq_true rfl) dX2_becomes_32 rfl (fun F32 G32 h => ?_)
    obtain ⟨H32, eH32⟩ : ∃ x : xA, x = (xspl G 0 1 G32) := ⟨_, rfl⟩
    refine x_weq (w' := w2 cI a F24 H32) (by subst eH32; rfl) ?_
    replace h := h H32 eH32
    exact x_vret (wf := w2 cI a) K h dX2_becomes_35
/-! X2_at -/
abbrev rmX2_at : Room := { frames := 2, cells := 0, slots := 0, locals := 60 }
theorem dsX2_at : xDesc yX2_at 1 := by decide +kernel
theorem uX2_at_f19 : Cond.fieldLink RX2 19 "PigNinths$Sheet" "size" "I" ∈ wsX2_at := nw_in nwl_X2_at nwe_165 (by decide +kernel)
theorem hinX2_at_X2 : ∀ w ∈ wsX20, w ∈ wsX2_at := nw_all nwl_X2_at nwl_X20 (by decide +kernel)
theorem uX2_at_f9 : Cond.fieldLink RX2 9 "PigNinths$Sheet" "numbers" "[I" ∈ wsX2_at := nw_in nwl_X2_at nwe_163 (by decide +kernel)
set_option maxHeartbeats 4000000 in
set_option maxRecDepth 100000 in
theorem mX2_at (l : Launch) (D : va_G) (cI cO : ClassId) (a : Nat → Nat)  (x1 : Int32) : MI l yX2_at wsX2_at rmX2_at D (xtys cI cO) [.ref (a 0), .int x1] (w2 cI a) (qX2_at x1) := by
  refine MI_of (cc := cX2_at) (maxL := 2) (own := RX2) (by decide) rfl rfl (Nat.le_of_ble_eq_true rfl) ?_
  intro p e s m args below meth c A F G Q h K
  refine x_locals [0, 1] (L' := [(0, .ref (a 0)), (1, .int _)]) rfl ?_
  refine x_iload_n (pc' := 1) K dX2_at_0 1 rfl rfl ?_
  refine x_if_lt (tgt := 21) (pc' := 4) K dX2_at_1 rfl rfl (fun c1 => ?_) (fun c1 => ?_)
  · replace h := h.1 c1
    refine x_iconst (pc' := 22) (v := 0) K dX2_at_21 (by decide) rfl ?_
    exact x_iret (wf := w2 cI a) K h dX2_at_22
  · replace h := h.2 c1
    refine x_iload_n (pc' := 5) K dX2_at_4 1 rfl rfl ?_
    refine x_aload_n (pc' := 6) K dX2_at_5 0 rfl rfl ?_
    refine xw2_0g_size (pc' := 9) K hinX2_at_X2 uX2_at_f19 dX2_at_6 rfl ?_
    refine x_icmp_ge (tgt := 21) (pc' := 12) K dX2_at_9 rfl rfl (fun c9 => ?_) (fun c9 => ?_)
    · replace h := h.1 c9
      refine x_iconst (pc' := 22) (v := 0) K dX2_at_21 (by decide) rfl ?_
      exact x_iret (wf := w2 cI a) K h dX2_at_22
    · replace h := h.2 c9
      refine x_aload_n (pc' := 13) K dX2_at_12 0 rfl rfl ?_
      refine xw2_0g_numbers (pc' := 16) K hinX2_at_X2 uX2_at_f9 dX2_at_13 rfl ?_
      refine x_iload_n (pc' := 17) K dX2_at_16 1 rfl rfl ?_
      obtain ⟨i17, h⟩ := h
      refine xw2_1l (pc' := 18) K i17 rfl dX2_at_17 rfl ?_
      refine x_goto (tgt := 22) K dX2_at_18 rfl ?_
      exact x_iret (wf := w2 cI a) K h dX2_at_22
/-! X2_hold -/
abbrev rmX2_hold : Room := { frames := 2, cells := 0, slots := 0, locals := 60 }
theorem dsX2_hold : xDesc yX2_hold 2 := by decide +kernel
theorem uX2_hold_f19 : Cond.fieldLink RX2 19 "PigNinths$Sheet" "size" "I" ∈ wsX2_hold := nw_in nwl_X2_hold nwe_165 (by decide +kernel)
theorem hinX2_hold_X2 : ∀ w ∈ wsX20, w ∈ wsX2_hold := nw_all nwl_X2_hold nwl_X20 (by decide +kernel)
theorem uX2_hold_f15 : Cond.fieldLink RX2 15 "PigNinths$Sheet" "bits" "I" ∈ wsX2_hold := nw_in nwl_X2_hold nwe_164 (by decide +kernel)
theorem uX2_hold_f9 : Cond.fieldLink RX2 9 "PigNinths$Sheet" "numbers" "[I" ∈ wsX2_hold := nw_in nwl_X2_hold nwe_163 (by decide +kernel)
set_option maxHeartbeats 4000000 in
set_option maxRecDepth 100000 in
theorem mX2_hold (l : Launch) (D : va_G) (cI cO : ClassId) (a : Nat → Nat)  (x1 : Int32) (x2 : Int32) : MV l yX2_hold wsX2_hold rmX2_hold D (xtys cI cO) [.ref (a 0), .int x1, .int x2] (w2 cI a) (qX2_hold x1 x2) := by
  refine MV_of (cc := cX2_hold) (maxL := 4) (own := RX2) (by decide) rfl rfl (Nat.le_of_ble_eq_true rfl) ?_
  intro p e s m args below meth c A F G Q h K
  refine x_locals [0, 1, 2] (L' := [(0, .ref (a 0)), (1, .int _), (2, .int _)]) rfl ?_
  refine x_iload_n (pc' := 1) K dX2_hold_0 1 rfl rfl ?_
  refine x_if_lt (tgt := 31) (pc' := 4) K dX2_hold_1 rfl rfl (fun c1 => ?_) (fun c1 => ?_)
  · replace h := h.1 c1
    exact x_vret (wf := w2 cI a) K h dX2_hold_31
  · replace h := h.2 c1
    refine x_iload_n (pc' := 5) K dX2_hold_4 1 rfl rfl ?_
    refine x_aload_n (pc' := 6) K dX2_hold_5 0 rfl rfl ?_
    refine xw2_0g_size (pc' := 9) K hinX2_hold_X2 uX2_hold_f19 dX2_hold_6 rfl ?_
    refine x_icmp_ge (tgt := 31) (pc' := 12) K dX2_hold_9 rfl rfl (fun c9 => ?_) (fun c9 => ?_)
    · replace h := h.1 c9
      exact x_vret (wf := w2 cI a) K h dX2_hold_31
    · replace h := h.2 c9
      refine x_bipush (pc' := 14) (v := 32) K dX2_hold_12 (by decide) rfl ?_
      refine x_aload_n (pc' := 15) K dX2_hold_14 0 rfl rfl ?_
      refine xw2_0g_bits (pc' := 18) K hinX2_hold_X2 uX2_hold_f15 dX2_hold_15 rfl ?_
      refine x_isub (pc' := 19) K dX2_hold_18 rfl ?_
      refine x_istore_n (pc' := 20) (i := 3) K dX2_hold_19 rfl (by decide) [1, 2, 3, 0] (L' := [(0, .ref (a 0)), (1, .int _), (2, .int _), (3, .int _)]) rfl rfl ?_
      refine x_aload_n (pc' := 21) K dX2_hold_20 0 rfl rfl ?_
      refine xw2_0g_numbers (pc' := 24) K hinX2_hold_X2 uX2_hold_f9 dX2_hold_21 rfl ?_
      refine x_iload_n (pc' := 25) K dX2_hold_24 1 rfl rfl ?_
      refine x_iload_n (pc' := 26) K dX2_hold_25 2 rfl rfl ?_
      refine x_iload_n (pc' := 27) K dX2_hold_26 3 rfl rfl ?_
      refine x_ishl (pc' := 28) K dX2_hold_27 rfl ?_
      refine x_iload_n (pc' := 29) K dX2_hold_28 3 rfl rfl ?_
      refine x_ishr (pc' := 30) K dX2_hold_29 rfl ?_
      obtain ⟨i30, h⟩ := h
      refine xw2_1s (pc' := 31) K i30 rfl dX2_hold_30 rfl (fun G30 eG30 => ?_)
      replace h := h G30 eG30
      exact x_vret (wf := w2 cI a) K h dX2_hold_31
/-! X2_holdsPart -/
abbrev rmX2_holdsPart : Room := { frames := 2, cells := 0, slots := 0, locals := 60 }
theorem dsX2_holdsPart : xDesc yX2_holdsPart 2 := by decide +kernel
theorem uX2_holdsPart_f19 : Cond.fieldLink RX2 19 "PigNinths$Sheet" "size" "I" ∈ wsX2_holdsPart := nw_in nwl_X2_holdsPart nwe_165 (by decide +kernel)
theorem hinX2_holdsPart_X2 : ∀ w ∈ wsX20, w ∈ wsX2_holdsPart := nw_all nwl_X2_holdsPart nwl_X20 (by decide +kernel)
set_option maxHeartbeats 4000000 in
set_option maxRecDepth 100000 in
theorem mX2_holdsPart (l : Launch) (D : va_G) (cI cO : ClassId) (a : Nat → Nat)  (x1 : Int32) (x2 : Int32) : MI l yX2_holdsPart wsX2_holdsPart rmX2_holdsPart D (xtys cI cO) [.ref (a 0), .int x1, .int x2] (w2 cI a) (qX2_holdsPart x1 x2) := by
  refine MZ_of (cc := cX2_holdsPart) (maxL := 3) (own := RX2) (by decide) rfl rfl (Nat.le_of_ble_eq_true rfl) ?_
  intro p e s m args below meth c A F G Q h K
  refine x_locals [0, 1, 2] (L' := [(0, .ref (a 0)), (1, .int _), (2, .int _)]) rfl ?_
  refine x_iload_n (pc' := 1) K dX2_holdsPart_0 2 rfl rfl ?_
  refine x_if_lt (tgt := 30) (pc' := 4) K dX2_holdsPart_1 rfl rfl (fun c1 => ?_) (fun c1 => ?_)
  · replace h := h.1 c1
    refine x_iconst (pc' := 31) (v := 0) K dX2_holdsPart_30 (by decide) rfl ?_
    exact x_zret (wf := w2 cI a) K (Or.inl rfl) h dX2_holdsPart_31
  · replace h := h.2 c1
    refine x_iload_n (pc' := 5) K dX2_holdsPart_4 1 rfl rfl ?_
    refine x_if_lt (tgt := 30) (pc' := 8) K dX2_holdsPart_5 rfl rfl (fun c5 => ?_) (fun c5 => ?_)
    · replace h := h.1 c5
      refine x_iconst (pc' := 31) (v := 0) K dX2_holdsPart_30 (by decide) rfl ?_
      exact x_zret (wf := w2 cI a) K (Or.inl rfl) h dX2_holdsPart_31
    · replace h := h.2 c5
      refine x_iload_n (pc' := 9) K dX2_holdsPart_8 2 rfl rfl ?_
      refine x_aload_n (pc' := 10) K dX2_holdsPart_9 0 rfl rfl ?_
      refine xw2_0g_size (pc' := 13) K hinX2_holdsPart_X2 uX2_holdsPart_f19 dX2_holdsPart_10 rfl ?_
      refine x_icmp_gt (tgt := 30) (pc' := 16) K dX2_holdsPart_13 rfl rfl (fun c13 => ?_) (fun c13 => ?_)
      · replace h := h.1 c13
        refine x_iconst (pc' := 31) (v := 0) K dX2_holdsPart_30 (by decide) rfl ?_
        exact x_zret (wf := w2 cI a) K (Or.inl rfl) h dX2_holdsPart_31
      · replace h := h.2 c13
        refine x_iload_n (pc' := 17) K dX2_holdsPart_16 1 rfl rfl ?_
        refine x_aload_n (pc' := 18) K dX2_holdsPart_17 0 rfl rfl ?_
        refine xw2_0g_size (pc' := 21) K hinX2_holdsPart_X2 uX2_holdsPart_f19 dX2_holdsPart_18 rfl ?_
        refine x_iload_n (pc' := 22) K dX2_holdsPart_21 2 rfl rfl ?_
        refine x_isub (pc' := 23) K dX2_holdsPart_22 rfl ?_
        refine x_icmp_gt (tgt := 30) (pc' := 26) K dX2_holdsPart_23 rfl rfl (fun c23 => ?_) (fun c23 => ?_)
        · replace h := h.1 c23
          refine x_iconst (pc' := 31) (v := 0) K dX2_holdsPart_30 (by decide) rfl ?_
          exact x_zret (wf := w2 cI a) K (Or.inl rfl) h dX2_holdsPart_31
        · replace h := h.2 c23
          refine x_iconst (pc' := 27) (v := 1) K dX2_holdsPart_26 (by decide) rfl ?_
          refine x_goto (tgt := 31) K dX2_holdsPart_27 rfl ?_
          exact x_zret (wf := w2 cI a) K (Or.inr rfl) h dX2_holdsPart_31
/-! X2_startsWith -/
abbrev rmX2_startsWith : Room := { frames := 2, cells := 0, slots := 0, locals := 60 }
theorem dsX2_startsWith : xDesc yX2_startsWith 1 := by decide +kernel
theorem uX2_startsWith_f19 : Cond.fieldLink RX2 19 "PigNinths$Sheet" "size" "I" ∈ wsX2_startsWith := nw_in nwl_X2_startsWith nwe_165 (by decide +kernel)
theorem hinX2_startsWith_X2 : ∀ w ∈ wsX20, w ∈ wsX2_startsWith := nw_all nwl_X2_startsWith nwl_X20 (by decide +kernel)
theorem uX2_startsWith_f9 : Cond.fieldLink RX2 9 "PigNinths$Sheet" "numbers" "[I" ∈ wsX2_startsWith := nw_in nwl_X2_startsWith nwe_163 (by decide +kernel)
set_option maxHeartbeats 4000000 in
set_option maxRecDepth 100000 in
theorem tX2_startsWith_2 (K : XK p m c cX2_startsWith 3 s args wsX2_startsWith RX2 D (xtys cI cO) A meth (some .boolean)) {Q : Int32 → xF → xA → Prop} : ∀ (n : Nat), ∀ (x2 : Int32) (F : xF) (G : xA), qX2_startsWith_2 Q n x2 F G → XJ p l e rmX2_startsWith s m args below meth c 0 0 (MQ below (xQi D (w2a cI a) A Q) args s 0 0 A) D (xtys cI cO) A 3 (w2a cI a F G) 2 [(0, .ref (a 0)), (1, .ref (a 7)), (2, .int x2)] [] := by
  intro n
  induction n with
  | zero =>
    intro x2 F G h
    exact False.elim h
  | succ n ih =>
    intro x2 F G h
    refine x_iload_n (pc' := 3) K dX2_startsWith_2 2 rfl rfl ?_
    refine x_aload_n (pc' := 4) K dX2_startsWith_3 1 rfl rfl ?_
    refine xw2a_7n (pc' := 5) K dX2_startsWith_4 rfl ?_
    refine x_icmp_ge (tgt := 36) (pc' := 8) K dX2_startsWith_5 rfl rfl (fun c5 => ?_) (fun c5 => ?_)
    · replace h := h.1 c5
      refine x_iconst (pc' := 37) (v := 1) K dX2_startsWith_36 (by decide) rfl ?_
      exact x_zret (wf := w2a cI a) K (Or.inr rfl) h dX2_startsWith_37
    · replace h := h.2 c5
      refine x_iload_n (pc' := 9) K dX2_startsWith_8 2 rfl rfl ?_
      refine x_aload_n (pc' := 10) K dX2_startsWith_9 0 rfl rfl ?_
      refine xw2a_0g_size (pc' := 13) K hinX2_startsWith_X2 uX2_startsWith_f19 dX2_startsWith_10 rfl ?_
      refine x_icmp_ge (tgt := 28) (pc' := 16) K dX2_startsWith_13 rfl rfl (fun c13 => ?_) (fun c13 => ?_)
      · replace h := h.1 c13
        refine x_iconst (pc' := 29) (v := 0) K dX2_startsWith_28 (by decide) rfl ?_
        exact x_zret (wf := w2a cI a) K (Or.inl rfl) h dX2_startsWith_29
      · replace h := h.2 c13
        refine x_aload_n (pc' := 17) K dX2_startsWith_16 0 rfl rfl ?_
        refine xw2a_0g_numbers (pc' := 20) K hinX2_startsWith_X2 uX2_startsWith_f9 dX2_startsWith_17 rfl ?_
        refine x_iload_n (pc' := 21) K dX2_startsWith_20 2 rfl rfl ?_
        obtain ⟨i21, h⟩ := h
        refine xw2a_1l (pc' := 22) K i21 rfl dX2_startsWith_21 rfl ?_
        refine x_aload_n (pc' := 23) K dX2_startsWith_22 1 rfl rfl ?_
        refine x_iload_n (pc' := 24) K dX2_startsWith_23 2 rfl rfl ?_
        obtain ⟨i24, h⟩ := h
        refine xw2a_7l (pc' := 25) K i24 rfl dX2_startsWith_24 rfl ?_
        refine x_icmp_eq (tgt := 30) (pc' := 28) K dX2_startsWith_25 rfl rfl (fun c25 => ?_) (fun c25 => ?_)
        · replace h := h.1 c25
          refine x_iinc (pc' := 33) (v := _ + (1 : Int32)) K dX2_startsWith_30 2 rfl rfl (by decide) [1, 2, 0] (L' := [(0, .ref (a 0)), (1, .ref (a 7)), (2, .int _)]) rfl rfl ?_
          refine x_goto (tgt := 2) K dX2_startsWith_33 rfl ?_
          exact ih _ _ _ h
        · replace h := h.2 c25
          refine x_iconst (pc' := 29) (v := 0) K dX2_startsWith_28 (by decide) rfl ?_
          exact x_zret (wf := w2a cI a) K (Or.inl rfl) h dX2_startsWith_29
set_option maxHeartbeats 4000000 in
set_option maxRecDepth 100000 in
theorem mX2_startsWith (l : Launch) (D : va_G) (cI cO : ClassId) (a : Nat → Nat)   : MI l yX2_startsWith wsX2_startsWith rmX2_startsWith D (xtys cI cO) [.ref (a 0), .ref (a 7)] (w2a cI a) qX2_startsWith := by
  refine MZ_of (cc := cX2_startsWith) (maxL := 3) (own := RX2) (by decide) rfl rfl (Nat.le_of_ble_eq_true rfl) ?_
  intro p e s m args below meth c A F G Q h K
  refine x_locals [0, 1] (L' := [(0, .ref (a 0)), (1, .ref (a 7))]) rfl ?_
  refine x_iconst (pc' := 1) (v := 0) K dX2_startsWith_0 (by decide) rfl ?_
  refine x_istore_n (pc' := 2) (i := 2) K dX2_startsWith_1 rfl (by decide) [1, 2, 0] (L' := [(0, .ref (a 0)), (1, .ref (a 7)), (2, .int _)]) rfl rfl ?_
  obtain ⟨n2, h⟩ := h
  exact tX2_startsWith_2 K n2 _ _ _ h
/-! X3_value -/
set_option maxHeartbeats 4000000 in
set_option maxRecDepth 100000 in
theorem xpl1 (cI : ClassId) (a : Nat → Nat) (F : xF) (G : xA) : (w3 cI a F G).Perm (xpick (bw3 cI a F G) [0] ++ w1 60 cI (xsub a 2) (xsub F 0) (xsub G 1)) := xperm0 (bl := bw3 cI a F G) (n := 2) rfl rfl [0] [1] (by decide +kernel) rfl rfl
set_option maxHeartbeats 4000000 in
set_option maxRecDepth 100000 in
theorem xpr1 (cI : ClassId) (a : Nat → Nat) (F : xF) (G : xA) (F' : xF) (G' : xA) : (w3 cI a (xspl F 0 1 F') (xspl G 1 1 G')).Perm (xpick (bw3 cI a F G) [0] ++ w1 60 cI (xsub a 2) F' G') := xperm0 (bl := bw3 cI a (xspl F 0 1 F') (xspl G 1 1 G')) (n := 2) rfl rfl [0] [1] (by decide +kernel) rfl rfl
abbrev rmX3_value : Room := { frames := 3, cells := 0, slots := 0, locals := 83 }
theorem dsX3_value : xDesc yX3_value 3 := by decide +kernel
theorem uX3_value_f14 : Cond.fieldLink RX3 14 "PigNinths$Text" "code" "LPigNinths$Row;" ∈ wsX3_value := nw_in nwl_X3_value nwe_181 (by decide +kernel)
theorem hinX3_value_X3 : ∀ w ∈ wsX30, w ∈ wsX3_value := nw_all nwl_X3_value nwl_X30 (by decide +kernel)
theorem uX3_value_f24 : Cond.fieldLink RX3 24 "PigNinths$Row" "size" "I" ∈ wsX3_value := nw_in nwl_X3_value nwe_185 (by decide +kernel)
theorem hinX3_value_X1 : ∀ w ∈ wsX10, w ∈ wsX3_value := nw_all nwl_X3_value nwl_X10 (by decide +kernel)
theorem uX3_value_f20 : Cond.fieldLink RX3 20 "PigNinths$Text" "stack" "[I" ∈ wsX3_value := nw_in nwl_X3_value nwe_182 (by decide +kernel)
set_option maxHeartbeats 4000000 in
set_option maxRecDepth 100000 in
theorem tX3_value_6 (K : XK p m c cX3_value 7 s args wsX3_value RX3 D (xtys cI cO) A meth (some .int)) {Q : Int32 → xF → xA → Prop} : ∀ (n : Nat), ∀ (x1 : Int32) (x2 : Int32) (x3 : Int32) (x4 : Int32) (x5 : Int32) (F : xF) (G : xA), qX3_value_6 Q n x1 x2 x3 x4 x5 F G → XJ p l e rmX3_value s m args below meth c 0 0 (MQ below (xQi D (w3 cI a) A Q) args s 0 0 A) D (xtys cI cO) A 7 (w3 cI a F G) 6 [(0, .ref (a 0)), (1, .int x1), (2, .int x2), (3, .int x3), (4, .int x4), (5, .int x5)] [] := by
  intro n
  induction n with
  | zero =>
    intro x1 x2 x3 x4 x5 F G h
    exact False.elim h
  | succ n ih =>
    intro x1 x2 x3 x4 x5 F G h
    refine x_iload (pc' := 8) K dX3_value_6 5 rfl rfl ?_
    refine x_aload_n (pc' := 9) K dX3_value_8 0 rfl rfl ?_
    refine xw3_0g_code (pc' := 12) K hinX3_value_X3 uX3_value_f14 dX3_value_9 rfl ?_
    refine xw3_2g_size (pc' := 15) K hinX3_value_X1 uX3_value_f24 dX3_value_12 rfl ?_
    refine x_icmp_ge (tgt := 160) (pc' := 18) K dX3_value_15 rfl rfl (fun c15 => ?_) (fun c15 => ?_)
    · replace h := h.1 c15
      refine x_iload (pc' := 162) K dX3_value_160 4 rfl rfl ?_
      refine x_iconst (pc' := 163) (v := 1) K dX3_value_162 (by decide) rfl ?_
      refine x_icmp_lt (tgt := 178) (pc' := 166) K dX3_value_163 rfl rfl (fun c163 => ?_) (fun c163 => ?_)
      · replace h := h.1 c163
        refine x_iconst (pc' := 179) (v := 0) K dX3_value_178 (by decide) rfl ?_
        exact x_iret (wf := w3 cI a) K h dX3_value_179
      · replace h := h.2 c163
        refine x_aload_n (pc' := 167) K dX3_value_166 0 rfl rfl ?_
        refine xw3_0g_stack (pc' := 170) K hinX3_value_X3 uX3_value_f20 dX3_value_167 rfl ?_
        refine x_iload (pc' := 172) K dX3_value_170 4 rfl rfl ?_
        refine x_iconst (pc' := 173) (v := 1) K dX3_value_172 (by decide) rfl ?_
        refine x_isub (pc' := 174) K dX3_value_173 rfl ?_
        obtain ⟨i174, h⟩ := h
        refine xw3_1l (pc' := 175) K i174 rfl dX3_value_174 rfl ?_
        refine x_goto (tgt := 179) K dX3_value_175 rfl ?_
        exact x_iret (wf := w3 cI a) K h dX3_value_179
    · replace h := h.2 c15
      refine x_aload_n (pc' := 19) K dX3_value_18 0 rfl rfl ?_
      refine xw3_0g_code (pc' := 22) K hinX3_value_X3 uX3_value_f14 dX3_value_19 rfl ?_
      refine x_iload (pc' := 24) K dX3_value_22 5 rfl rfl ?_
      refine x_subI (pc' := 27) (wn := fun F' G' => w3 cI a (xspl F 0 1 F') (xspl G 1 1 G')) K (mX1_at l D cI cO (xsub a 2) 60 _) rfl gX3_value_X1_at rfl dsX1_at ⟨rfl, rfl, ⟨Nat.le_of_ble_eq_true rfl, Nat.le_of_ble_eq_true rfl⟩, Nat.le_of_ble_eq_true rfl, Nat.le_of_ble_eq_true rfl⟩ h 1 0 rfl rfl (xpl1 cI a _ _) (fun F' G' => xpr1 cI a _ _ F' G') (st := []) rfl rfl (Nat.le_of_ble_eq_true rfl) dX3_value_24 rfl (fun r24 F24 G24 h => ?_)
      obtain ⟨E24, eE24⟩ : ∃ x : xF, x = (xspl F 0 1 F24) := ⟨_, rfl⟩
      obtain ⟨H24, eH24⟩ : ∃ x : xA, x = (xspl G 1 1 G24) := ⟨_, rfl⟩
      refine x_weq (w' := w3 cI a E24 H24) (by subst eE24; subst eH24; rfl) ?_
      replace h := h E24 eE24
      replace h := h H24 eH24
      refine x_istore (pc' := 29) (i := 6) K dX3_value_27 (by decide) [1, 2, 3, 4, 5, 6, 0] (L' := [(0, .ref (a 0)), (1, .int _), (2, .int _), (3, .int _), (4, .int _), (5, .int _), (6, .int _)]) rfl rfl ?_
      refine x_iload (pc' := 31) K dX3_value_29 6 rfl rfl ?_
      refine x_sipush (pc' := 34) (v := 20000) K dX3_value_31 (by decide) rfl ?_
      refine x_icmp_ge (tgt := 68) (pc' := 37) K dX3_value_34 rfl rfl (fun c34 => ?_) (fun c34 => ?_)
      · replace h := h.1 c34
        refine x_iload (pc' := 70) K dX3_value_68 6 rfl rfl ?_
        refine x_sipush (pc' := 73) (v := 20033) K dX3_value_70 (by decide) rfl ?_
        refine x_icmp_ne (tgt := 111) (pc' := 76) K dX3_value_73 rfl rfl (fun c73 => ?_) (fun c73 => ?_)
        · replace h := h.1 c73
          refine x_iload (pc' := 113) K dX3_value_111 4 rfl rfl ?_
          refine x_iconst (pc' := 114) (v := 2) K dX3_value_113 (by decide) rfl ?_
          refine x_icmp_lt (tgt := 154) (pc' := 117) K dX3_value_114 rfl rfl (fun c114 => ?_) (fun c114 => ?_)
          · replace h := h.1 c114
            refine x_iinc (pc' := 157) (v := _ + (1 : Int32)) K dX3_value_154 5 rfl rfl (by decide) [1, 2, 3, 4, 5, 0, 6] (L' := [(0, .ref (a 0)), (1, .int _), (2, .int _), (3, .int _), (4, .int _), (5, .int _), (6, .int _)]) rfl rfl ?_
            refine x_goto (tgt := 6) K dX3_value_157 rfl ?_
            refine x_locals [0, 1, 2, 3, 4, 5] (L' := [(0, .ref (a 0)), (1, .int _), (2, .int _), (3, .int _), (4, .int _), (5, .int _)]) rfl ?_
            exact ih _ _ _ _ _ _ _ h
          · replace h := h.2 c114
            refine x_iinc (pc' := 120) (v := _ + (-1 : Int32)) K dX3_value_117 4 rfl rfl (by decide) [1, 2, 3, 4, 0, 5, 6] (L' := [(0, .ref (a 0)), (1, .int _), (2, .int _), (3, .int _), (4, .int _), (5, .int _), (6, .int _)]) rfl rfl ?_
            refine x_aload_n (pc' := 121) K dX3_value_120 0 rfl rfl ?_
            refine xw3_0g_stack (pc' := 124) K hinX3_value_X3 uX3_value_f20 dX3_value_121 rfl ?_
            refine x_iload (pc' := 126) K dX3_value_124 4 rfl rfl ?_
            refine x_iconst (pc' := 127) (v := 1) K dX3_value_126 (by decide) rfl ?_
            refine x_isub (pc' := 128) K dX3_value_127 rfl ?_
            refine x_iload (pc' := 130) K dX3_value_128 6 rfl rfl ?_
            refine x_sipush (pc' := 133) (v := 20000) K dX3_value_130 (by decide) rfl ?_
            refine x_isub (pc' := 134) K dX3_value_133 rfl ?_
            refine x_aload_n (pc' := 135) K dX3_value_134 0 rfl rfl ?_
            refine xw3_0g_stack (pc' := 138) K hinX3_value_X3 uX3_value_f20 dX3_value_135 rfl ?_
            refine x_iload (pc' := 140) K dX3_value_138 4 rfl rfl ?_
            refine x_iconst (pc' := 141) (v := 1) K dX3_value_140 (by decide) rfl ?_
            refine x_isub (pc' := 142) K dX3_value_141 rfl ?_
            obtain ⟨i142, h⟩ := h
            refine xw3_1l (pc' := 143) K i142 rfl dX3_value_142 rfl ?_
            refine x_aload_n (pc' := 144) K dX3_value_143 0 rfl rfl ?_
            refine xw3_0g_stack (pc' := 147) K hinX3_value_X3 uX3_value_f20 dX3_value_144 rfl ?_
            refine x_iload (pc' := 149) K dX3_value_147 4 rfl rfl ?_
            obtain ⟨i149, h⟩ := h
            refine xw3_1l (pc' := 150) K i149 rfl dX3_value_149 rfl ?_
            refine x_callS (pc' := 153) K (mX3_joined l D cI cO a _ _ _) rfl gX3_value_X3_joined dsX3_joined ⟨rfl, rfl, ⟨Nat.le_of_ble_eq_true rfl, Nat.le_of_ble_eq_true rfl⟩, Nat.le_of_ble_eq_true rfl, Nat.le_of_ble_eq_true rfl⟩ h (st := [.int _, .ref (a 1)]) rfl rfl (Nat.le_of_ble_eq_true rfl) dX3_value_150 rfl (fun r150 h => ?_)
            obtain ⟨i153, h⟩ := h
            refine xw3_1s (pc' := 154) K i153 rfl dX3_value_153 rfl (fun G153 eG153 => ?_)
            replace h := h G153 eG153
            refine x_iinc (pc' := 157) (v := _ + (1 : Int32)) K dX3_value_154 5 rfl rfl (by decide) [1, 2, 3, 4, 5, 0, 6] (L' := [(0, .ref (a 0)), (1, .int _), (2, .int _), (3, .int _), (4, .int _), (5, .int _), (6, .int _)]) rfl rfl ?_
            refine x_goto (tgt := 6) K dX3_value_157 rfl ?_
            refine x_locals [0, 1, 2, 3, 4, 5] (L' := [(0, .ref (a 0)), (1, .int _), (2, .int _), (3, .int _), (4, .int _), (5, .int _)]) rfl ?_
            exact ih _ _ _ _ _ _ _ h
        · replace h := h.2 c73
          refine x_iload (pc' := 78) K dX3_value_76 4 rfl rfl ?_
          refine x_iconst (pc' := 79) (v := 1) K dX3_value_78 (by decide) rfl ?_
          refine x_icmp_lt (tgt := 154) (pc' := 82) K dX3_value_79 rfl rfl (fun c79 => ?_) (fun c79 => ?_)
          · replace h := h.1 c79
            refine x_iinc (pc' := 157) (v := _ + (1 : Int32)) K dX3_value_154 5 rfl rfl (by decide) [1, 2, 3, 4, 5, 0, 6] (L' := [(0, .ref (a 0)), (1, .int _), (2, .int _), (3, .int _), (4, .int _), (5, .int _), (6, .int _)]) rfl rfl ?_
            refine x_goto (tgt := 6) K dX3_value_157 rfl ?_
            refine x_locals [0, 1, 2, 3, 4, 5] (L' := [(0, .ref (a 0)), (1, .int _), (2, .int _), (3, .int _), (4, .int _), (5, .int _)]) rfl ?_
            exact ih _ _ _ _ _ _ _ h
          · replace h := h.2 c79
            refine x_aload_n (pc' := 83) K dX3_value_82 0 rfl rfl ?_
            refine xw3_0g_stack (pc' := 86) K hinX3_value_X3 uX3_value_f20 dX3_value_83 rfl ?_
            refine x_iload (pc' := 88) K dX3_value_86 4 rfl rfl ?_
            refine x_iconst (pc' := 89) (v := 1) K dX3_value_88 (by decide) rfl ?_
            refine x_isub (pc' := 90) K dX3_value_89 rfl ?_
            refine x_aload_n (pc' := 91) K dX3_value_90 0 rfl rfl ?_
            refine xw3_0g_stack (pc' := 94) K hinX3_value_X3 uX3_value_f20 dX3_value_91 rfl ?_
            refine x_iload (pc' := 96) K dX3_value_94 4 rfl rfl ?_
            refine x_iconst (pc' := 97) (v := 1) K dX3_value_96 (by decide) rfl ?_
            refine x_isub (pc' := 98) K dX3_value_97 rfl ?_
            obtain ⟨i98, h⟩ := h
            refine xw3_1l (pc' := 99) K i98 rfl dX3_value_98 rfl ?_
            refine x_if_ne (tgt := 106) (pc' := 102) K dX3_value_99 rfl rfl (fun c99 => ?_) (fun c99 => ?_)
            · replace h := h.1 c99
              refine x_iconst (pc' := 107) (v := 0) K dX3_value_106 (by decide) rfl ?_
              obtain ⟨i107, h⟩ := h
              refine xw3_1s (pc' := 108) K i107 rfl dX3_value_107 rfl (fun G107 eG107 => ?_)
              replace h := h G107 eG107
              refine x_goto (tgt := 154) K dX3_value_108 rfl ?_
              refine x_iinc (pc' := 157) (v := _ + (1 : Int32)) K dX3_value_154 5 rfl rfl (by decide) [1, 2, 3, 4, 5, 0, 6] (L' := [(0, .ref (a 0)), (1, .int _), (2, .int _), (3, .int _), (4, .int _), (5, .int _), (6, .int _)]) rfl rfl ?_
              refine x_goto (tgt := 6) K dX3_value_157 rfl ?_
              refine x_locals [0, 1, 2, 3, 4, 5] (L' := [(0, .ref (a 0)), (1, .int _), (2, .int _), (3, .int _), (4, .int _), (5, .int _)]) rfl ?_
              exact ih _ _ _ _ _ _ _ h
            · replace h := h.2 c99
              refine x_iconst (pc' := 103) (v := 1) K dX3_value_102 (by decide) rfl ?_
              refine x_goto (tgt := 107) K dX3_value_103 rfl ?_
              obtain ⟨i107, h⟩ := h
              refine xw3_1s (pc' := 108) K i107 rfl dX3_value_107 rfl (fun G107 eG107 => ?_)
              replace h := h G107 eG107
              refine x_goto (tgt := 154) K dX3_value_108 rfl ?_
              refine x_iinc (pc' := 157) (v := _ + (1 : Int32)) K dX3_value_154 5 rfl rfl (by decide) [1, 2, 3, 4, 5, 0, 6] (L' := [(0, .ref (a 0)), (1, .int _), (2, .int _), (3, .int _), (4, .int _), (5, .int _), (6, .int _)]) rfl rfl ?_
              refine x_goto (tgt := 6) K dX3_value_157 rfl ?_
              refine x_locals [0, 1, 2, 3, 4, 5] (L' := [(0, .ref (a 0)), (1, .int _), (2, .int _), (3, .int _), (4, .int _), (5, .int _)]) rfl ?_
              exact ih _ _ _ _ _ _ _ h
      · replace h := h.2 c34
        refine x_iload (pc' := 39) K dX3_value_37 4 rfl rfl ?_
        refine x_aload_n (pc' := 40) K dX3_value_39 0 rfl rfl ?_
        refine xw3_0g_stack (pc' := 43) K hinX3_value_X3 uX3_value_f20 dX3_value_40 rfl ?_
        refine xw3_1n (pc' := 44) K dX3_value_43 rfl ?_
        refine x_icmp_ge (tgt := 154) (pc' := 47) K dX3_value_44 rfl rfl (fun c44 => ?_) (fun c44 => ?_)
        · replace h := h.1 c44
          refine x_iinc (pc' := 157) (v := _ + (1 : Int32)) K dX3_value_154 5 rfl rfl (by decide) [1, 2, 3, 4, 5, 0, 6] (L' := [(0, .ref (a 0)), (1, .int _), (2, .int _), (3, .int _), (4, .int _), (5, .int _), (6, .int _)]) rfl rfl ?_
          refine x_goto (tgt := 6) K dX3_value_157 rfl ?_
          refine x_locals [0, 1, 2, 3, 4, 5] (L' := [(0, .ref (a 0)), (1, .int _), (2, .int _), (3, .int _), (4, .int _), (5, .int _)]) rfl ?_
          exact ih _ _ _ _ _ _ _ h
        · replace h := h.2 c44
          refine x_aload_n (pc' := 48) K dX3_value_47 0 rfl rfl ?_
          refine xw3_0g_stack (pc' := 51) K hinX3_value_X3 uX3_value_f20 dX3_value_48 rfl ?_
          refine x_iload (pc' := 53) K dX3_value_51 4 rfl rfl ?_
          refine x_iload (pc' := 55) K dX3_value_53 6 rfl rfl ?_
          refine x_iload_n (pc' := 56) K dX3_value_55 1 rfl rfl ?_
          refine x_iload_n (pc' := 57) K dX3_value_56 2 rfl rfl ?_
          refine x_iload_n (pc' := 58) K dX3_value_57 3 rfl rfl ?_
          refine x_callS (pc' := 61) K (mX3_named l D cI cO a _ _ _ _) rfl gX3_value_X3_named dsX3_named ⟨rfl, rfl, ⟨Nat.le_of_ble_eq_true rfl, Nat.le_of_ble_eq_true rfl⟩, Nat.le_of_ble_eq_true rfl, Nat.le_of_ble_eq_true rfl⟩ h (st := [.int _, .ref (a 1)]) rfl rfl (Nat.le_of_ble_eq_true rfl) dX3_value_58 rfl (fun r58 h => ?_)
          obtain ⟨i61, h⟩ := h
          refine xw3_1s (pc' := 62) K i61 rfl dX3_value_61 rfl (fun G61 eG61 => ?_)
          replace h := h G61 eG61
          refine x_iinc (pc' := 65) (v := _ + (1 : Int32)) K dX3_value_62 4 rfl rfl (by decide) [1, 2, 3, 4, 0, 5, 6] (L' := [(0, .ref (a 0)), (1, .int _), (2, .int _), (3, .int _), (4, .int _), (5, .int _), (6, .int _)]) rfl rfl ?_
          refine x_goto (tgt := 154) K dX3_value_65 rfl ?_
          refine x_iinc (pc' := 157) (v := _ + (1 : Int32)) K dX3_value_154 5 rfl rfl (by decide) [1, 2, 3, 4, 5, 0, 6] (L' := [(0, .ref (a 0)), (1, .int _), (2, .int _), (3, .int _), (4, .int _), (5, .int _), (6, .int _)]) rfl rfl ?_
          refine x_goto (tgt := 6) K dX3_value_157 rfl ?_
          refine x_locals [0, 1, 2, 3, 4, 5] (L' := [(0, .ref (a 0)), (1, .int _), (2, .int _), (3, .int _), (4, .int _), (5, .int _)]) rfl ?_
          exact ih _ _ _ _ _ _ _ h
set_option maxHeartbeats 4000000 in
set_option maxRecDepth 100000 in
theorem mX3_value (l : Launch) (D : va_G) (cI cO : ClassId) (a : Nat → Nat)  (x1 : Int32) (x2 : Int32) (x3 : Int32) : MI l yX3_value wsX3_value rmX3_value D (xtys cI cO) [.ref (a 0), .int x1, .int x2, .int x3] (w3 cI a) (qX3_value x1 x2 x3) := by
  refine MI_of (cc := cX3_value) (maxL := 7) (own := RX3) (by decide) rfl rfl (Nat.le_of_ble_eq_true rfl) ?_
  intro p e s m args below meth c A F G Q h K
  refine x_locals [0, 1, 2, 3] (L' := [(0, .ref (a 0)), (1, .int _), (2, .int _), (3, .int _)]) rfl ?_
  refine x_iconst (pc' := 1) (v := 0) K dX3_value_0 (by decide) rfl ?_
  refine x_istore (pc' := 3) (i := 4) K dX3_value_1 (by decide) [1, 2, 3, 4, 0] (L' := [(0, .ref (a 0)), (1, .int _), (2, .int _), (3, .int _), (4, .int _)]) rfl rfl ?_
  refine x_iconst (pc' := 4) (v := 0) K dX3_value_3 (by decide) rfl ?_
  refine x_istore (pc' := 6) (i := 5) K dX3_value_4 (by decide) [1, 2, 3, 4, 5, 0] (L' := [(0, .ref (a 0)), (1, .int _), (2, .int _), (3, .int _), (4, .int _), (5, .int _)]) rfl rfl ?_
  obtain ⟨n6, h⟩ := h
  exact tX3_value_6 K n6 _ _ _ _ _ _ _ h
end
