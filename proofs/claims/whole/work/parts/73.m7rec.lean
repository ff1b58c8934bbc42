section
variable {p : Program} {l : Launch} {e : Env} {s : State} {m : MethodId} {args : Array Value} {below : List Frame} {meth : Method} {c : Code} {D : va_G} {cI cO : ClassId} {A : Nat → Prop} {a : Nat → Nat} {d : Nat}
/-! X7_product -/
theorem dsX7_one : xDesc yX7_one 0 := by decide +kernel
theorem dsX7_product : xDesc yX7_product 0 := by decide +kernel
theorem uX7_product_f82 : Cond.fieldLink RX7 82 "PigNinthsModel" "at" "I" ∈ wsX7_product := nw_in nwl_X7_product nwe_562 (by decide +kernel)
theorem hinX7_product_X7 : ∀ w ∈ wsX70, w ∈ wsX7_product := nw_all nwl_X7_product nwl_X70 (by decide +kernel)
set_option maxHeartbeats 4000000 in
set_option maxRecDepth 100000 in
theorem tX7_product_36 (K : XK p m c cX7_product 2 s args wsX7_product RX7 D (xtys cI cO) A meth (some .boolean)) {wone : xF → xA → (Int32 → xF → xA → Prop) → Prop} (hmone : MI l yX7_one wsX7_one (xrd d 0) D (xtys cI cO) [.ref (a 0)] (w7 cI a) wone) {Q : Int32 → xF → xA → Prop} {k9 : xF → xA → Prop} (hk9 : ∀ (F : xF) (G : xA), k9 F G → XJ p l e (xrd d 1) s m args below meth c 0 0 (MQ below (xQi D (w7 cI a) A Q) args s 0 0 A) D (xtys cI cO) A 2 (w7 cI a F G) 9 [(0, .ref (a 0))] []) : ∀ (F : xF) (G : xA), qX7_product_36 wone Q k9 F G → XJ p l e (xrd d 1) s m args below meth c 0 0 (MQ below (xQi D (w7 cI a) A Q) args s 0 0 A) D (xtys cI cO) A 2 (w7 cI a F G) 36 [(0, .ref (a 0))] [] := by
  intro F G h
  refine x_aload_n (pc' := 37) K dX7_product_36 0 rfl rfl ?_
  refine x_callI (pc' := 40) K (mX7_look l D cI cO a) rfl gX7_product_X7_look rfl dsX7_look (by refine ⟨rfl, rfl, ⟨?_, ?_⟩, ?_, ?_⟩ <;> simp only [xrd, rmX7_look] <;> omega) h 7 0 rfl rfl (st := []) rfl rfl (Nat.le_of_ble_eq_true rfl) dX7_product_37 rfl (fun r37 F37 G37 h => ?_)
  refine x_istore_n (pc' := 41) (i := 1) K dX7_product_40 rfl (by decide) [1, 0] (L' := [(0, .ref (a 0)), (1, .int _)]) rfl rfl ?_
  refine x_aload_n (pc' := 42) K dX7_product_41 0 rfl rfl ?_
  refine x_dup (pc' := 43) K dX7_product_42 rfl rfl ?_
  refine xw7_0g_at (pc' := 46) K hinX7_product_X7 uX7_product_f82 dX7_product_43 rfl ?_
  refine x_iconst (pc' := 47) (v := 1) K dX7_product_46 (by decide) rfl ?_
  refine x_iadd (pc' := 48) K dX7_product_47 rfl ?_
  refine xw7_0p_at (pc' := 51) K hinX7_product_X7 uX7_product_f82 dX7_product_48 rfl (fun F48 eF48 => ?_)
  replace h := h F48 eF48
  refine x_aload_n (pc' := 52) K dX7_product_51 0 rfl rfl ?_
  refine x_callI (pc' := 55) K (hmone) rfl gX7_product_X7_one rfl dsX7_one (by refine ⟨rfl, rfl, ⟨?_, ?_⟩, ?_, ?_⟩ <;> simp only [xrd] <;> omega) h 7 0 rfl rfl (st := []) rfl rfl (Nat.le_of_ble_eq_true rfl) dX7_product_52 rfl (fun r52 F52 G52 h => ?_)
  refine x_if_ne (tgt := 60) (pc' := 58) K dX7_product_55 rfl rfl (fun c55 => ?_) (fun c55 => ?_)
  · replace h := h.1 c55
    refine x_aload_n (pc' := 61) K dX7_product_60 0 rfl rfl ?_
    refine x_iconst (pc' := 62) (v := 3) K dX7_product_61 (by decide) rfl ?_
    refine x_iload_n (pc' := 63) K dX7_product_62 1 rfl rfl ?_
    refine x_callV (pc' := 66) K (mX7_step1 l D cI cO a _ _) rfl gX7_product_X7_step1 rfl dsX7_step1 (by refine ⟨rfl, rfl, ⟨?_, ?_⟩, ?_, ?_⟩ <;> simp only [xrd, rmX7_step1] <;> omega) h 7 0 rfl rfl (st := []) rfl rfl (Nat.le_of_ble_eq_true rfl) dX7_product_63 rfl (fun F63 G63 h => ?_)
    refine x_goto (tgt := 9) K dX7_product_66 rfl ?_
    refine x_locals [0] (L' := [(0, .ref (a 0))]) rfl ?_
    exact hk9 _ _ h
  · replace h := h.2 c55
    refine x_iconst (pc' := 59) (v := 0) K dX7_product_58 (by decide) rfl ?_
    exact x_zret (wf := w7 cI a) K (Or.inl rfl) h dX7_product_59
set_option maxHeartbeats 4000000 in
set_option maxRecDepth 100000 in
theorem tX7_product_9 (K : XK p m c cX7_product 2 s args wsX7_product RX7 D (xtys cI cO) A meth (some .boolean)) {wone : xF → xA → (Int32 → xF → xA → Prop) → Prop} (hmone : MI l yX7_one wsX7_one (xrd d 0) D (xtys cI cO) [.ref (a 0)] (w7 cI a) wone) {Q : Int32 → xF → xA → Prop} : ∀ (n : Nat), ∀ (F : xF) (G : xA), qX7_product_9 wone Q n F G → XJ p l e (xrd d 1) s m args below meth c 0 0 (MQ below (xQi D (w7 cI a) A Q) args s 0 0 A) D (xtys cI cO) A 2 (w7 cI a F G) 9 [(0, .ref (a 0))] [] := by
  intro n
  induction n with
  | zero =>
    intro F G h
    exact False.elim h
  | succ n ih =>
    intro F G h
    refine x_aload_n (pc' := 10) K dX7_product_9 0 rfl rfl ?_
    refine x_callI (pc' := 13) K (mX7_look l D cI cO a) rfl gX7_product_X7_look rfl dsX7_look (by refine ⟨rfl, rfl, ⟨?_, ?_⟩, ?_, ?_⟩ <;> simp only [xrd, rmX7_look] <;> omega) h 7 0 rfl rfl (st := []) rfl rfl (Nat.le_of_ble_eq_true rfl) dX7_product_10 rfl (fun r10 F10 G10 h => ?_)
    refine x_bipush (pc' := 15) (v := 42) K dX7_product_13 (by decide) rfl ?_
    refine x_icmp_eq (tgt := 36) (pc' := 18) K dX7_product_15 rfl rfl (fun c15 => ?_) (fun c15 => ?_)
    · replace h := h.1 c15
      exact tX7_product_36 K hmone (fun F G h => ih F G h) _ _ h
    · replace h := h.2 c15
      refine x_aload_n (pc' := 19) K dX7_product_18 0 rfl rfl ?_
      refine x_callI (pc' := 22) K (mX7_look l D cI cO a) rfl gX7_product_X7_look rfl dsX7_look (by refine ⟨rfl, rfl, ⟨?_, ?_⟩, ?_, ?_⟩ <;> simp only [xrd, rmX7_look] <;> omega) h 7 0 rfl rfl (st := []) rfl rfl (Nat.le_of_ble_eq_true rfl) dX7_product_19 rfl (fun r19 F19 G19 h => ?_)
      refine x_bipush (pc' := 24) (v := 47) K dX7_product_22 (by decide) rfl ?_
      refine x_icmp_eq (tgt := 36) (pc' := 27) K dX7_product_24 rfl rfl (fun c24 => ?_) (fun c24 => ?_)
      · replace h := h.1 c24
        exact tX7_product_36 K hmone (fun F G h => ih F G h) _ _ h
      · replace h := h.2 c24
        refine x_aload_n (pc' := 28) K dX7_product_27 0 rfl rfl ?_
        refine x_callI (pc' := 31) K (mX7_look l D cI cO a) rfl gX7_product_X7_look rfl dsX7_look (by refine ⟨rfl, rfl, ⟨?_, ?_⟩, ?_, ?_⟩ <;> simp only [xrd, rmX7_look] <;> omega) h 7 0 rfl rfl (st := []) rfl rfl (Nat.le_of_ble_eq_true rfl) dX7_product_28 rfl (fun r28 F28 G28 h => ?_)
        refine x_bipush (pc' := 33) (v := 37) K dX7_product_31 (by decide) rfl ?_
        refine x_icmp_ne (tgt := 69) (pc' := 36) K dX7_product_33 rfl rfl (fun c33 => ?_) (fun c33 => ?_)
        · replace h := h.1 c33
          refine x_iconst (pc' := 70) (v := 1) K dX7_product_69 (by decide) rfl ?_
          exact x_zret (wf := w7 cI a) K (Or.inr rfl) h dX7_product_70
        · replace h := h.2 c33
          exact tX7_product_36 K hmone (fun F G h => ih F G h) _ _ h
set_option maxHeartbeats 4000000 in
set_option maxRecDepth 100000 in
theorem mX7_product (l : Launch) (D : va_G) (cI cO : ClassId) (a : Nat → Nat) (d : Nat)  {wone : xF → xA → (Int32 → xF → xA → Prop) → Prop} (hmone : MI l yX7_one wsX7_one (xrd d 0) D (xtys cI cO) [.ref (a 0)] (w7 cI a) wone)  : MI l yX7_product wsX7_product (xrd d 1) D (xtys cI cO) [.ref (a 0)] (w7 cI a) (qX7_product wone) := by
  refine MZ_of (cc := cX7_product) (maxL := 2) (own := RX7) (by decide) rfl rfl (Nat.le_of_ble_eq_true rfl) ?_
  intro p e s m args below meth c A F G Q h K
  refine x_locals [0] (L' := [(0, .ref (a 0))]) rfl ?_
  refine x_aload_n (pc' := 1) K dX7_product_0 0 rfl rfl ?_
  refine x_callI (pc' := 4) K (hmone) rfl gX7_product_X7_one rfl dsX7_one (by refine ⟨rfl, rfl, ⟨?_, ?_⟩, ?_, ?_⟩ <;> simp only [xrd] <;> omega) h 7 0 rfl rfl (st := []) rfl rfl (Nat.le_of_ble_eq_true rfl) dX7_product_1 rfl (fun r1 F1 G1 h => ?_)
  refine x_if_ne (tgt := 9) (pc' := 7) K dX7_product_4 rfl rfl (fun c4 => ?_) (fun c4 => ?_)
  · replace h := h.1 c4
    obtain ⟨n9, h⟩ := h
    exact tX7_product_9 K hmone n9 _ _ h
  · replace h := h.2 c4
    refine x_iconst (pc' := 8) (v := 0) K dX7_product_7 (by decide) rfl ?_
    exact x_zret (wf := w7 cI a) K (Or.inl rfl) h dX7_product_8
/-! X7_sum -/
theorem dsX7_sum : xDesc yX7_sum 0 := by decide +kernel
theorem uX7_sum_f82 : Cond.fieldLink RX7 82 "PigNinthsModel" "at" "I" ∈ wsX7_sum := nw_in nwl_X7_sum nwe_562 (by decide +kernel)
theorem hinX7_sum_X7 : ∀ w ∈ wsX70, w ∈ wsX7_sum := nw_all nwl_X7_sum nwl_X70 (by decide +kernel)
set_option maxHeartbeats 4000000 in
set_option maxRecDepth 100000 in
theorem tX7_sum_27 (K : XK p m c cX7_sum 2 s args wsX7_sum RX7 D (xtys cI cO) A meth (some .boolean)) {wproduct : xF → xA → (Int32 → xF → xA → Prop) → Prop} (hmproduct : MI l yX7_product wsX7_product (xrd d 1) D (xtys cI cO) [.ref (a 0)] (w7 cI a) wproduct) {Q : Int32 → xF → xA → Prop} {k9 : xF → xA → Prop} (hk9 : ∀ (F : xF) (G : xA), k9 F G → XJ p l e (xrd d 2) s m args below meth c 0 0 (MQ below (xQi D (w7 cI a) A Q) args s 0 0 A) D (xtys cI cO) A 2 (w7 cI a F G) 9 [(0, .ref (a 0))] []) : ∀ (F : xF) (G : xA), qX7_sum_27 wproduct Q k9 F G → XJ p l e (xrd d 2) s m args below meth c 0 0 (MQ below (xQi D (w7 cI a) A Q) args s 0 0 A) D (xtys cI cO) A 2 (w7 cI a F G) 27 [(0, .ref (a 0))] [] := by
  intro F G h
  refine x_aload_n (pc' := 28) K dX7_sum_27 0 rfl rfl ?_
  refine x_callI (pc' := 31) K (mX7_look l D cI cO a) rfl gX7_sum_X7_look rfl dsX7_look (by refine ⟨rfl, rfl, ⟨?_, ?_⟩, ?_, ?_⟩ <;> simp only [xrd, rmX7_look] <;> omega) h 7 0 rfl rfl (st := []) rfl rfl (Nat.le_of_ble_eq_true rfl) dX7_sum_28 rfl (fun r28 F28 G28 h => ?_)
  refine x_istore_n (pc' := 32) (i := 1) K dX7_sum_31 rfl (by decide) [1, 0] (L' := [(0, .ref (a 0)), (1, .int _)]) rfl rfl ?_
  refine x_aload_n (pc' := 33) K dX7_sum_32 0 rfl rfl ?_
  refine x_dup (pc' := 34) K dX7_sum_33 rfl rfl ?_
  refine xw7_0g_at (pc' := 37) K hinX7_sum_X7 uX7_sum_f82 dX7_sum_34 rfl ?_
  refine x_iconst (pc' := 38) (v := 1) K dX7_sum_37 (by decide) rfl ?_
  refine x_iadd (pc' := 39) K dX7_sum_38 rfl ?_
  refine xw7_0p_at (pc' := 42) K hinX7_sum_X7 uX7_sum_f82 dX7_sum_39 rfl (fun F39 eF39 => ?_)
  replace h := h F39 eF39
  refine x_aload_n (pc' := 43) K dX7_sum_42 0 rfl rfl ?_
  refine x_callI (pc' := 46) K (hmproduct) rfl gX7_sum_X7_product rfl dsX7_product (by refine ⟨rfl, rfl, ⟨?_, ?_⟩, ?_, ?_⟩ <;> simp only [xrd] <;> omega) h 7 0 rfl rfl (st := []) rfl rfl (Nat.le_of_ble_eq_true rfl) dX7_sum_43 rfl (fun r43 F43 G43 h => ?_)
  refine x_if_ne (tgt := 51) (pc' := 49) K dX7_sum_46 rfl rfl (fun c46 => ?_) (fun c46 => ?_)
  · replace h := h.1 c46
    refine x_aload_n (pc' := 52) K dX7_sum_51 0 rfl rfl ?_
    refine x_iconst (pc' := 53) (v := 3) K dX7_sum_52 (by decide) rfl ?_
    refine x_iload_n (pc' := 54) K dX7_sum_53 1 rfl rfl ?_
    refine x_callV (pc' := 57) K (mX7_step1 l D cI cO a _ _) rfl gX7_sum_X7_step1 rfl dsX7_step1 (by refine ⟨rfl, rfl, ⟨?_, ?_⟩, ?_, ?_⟩ <;> simp only [xrd, rmX7_step1] <;> omega) h 7 0 rfl rfl (st := []) rfl rfl (Nat.le_of_ble_eq_true rfl) dX7_sum_54 rfl (fun F54 G54 h => ?_)
    refine x_goto (tgt := 9) K dX7_sum_57 rfl ?_
    refine x_locals [0] (L' := [(0, .ref (a 0))]) rfl ?_
    exact hk9 _ _ h
  · replace h := h.2 c46
    refine x_iconst (pc' := 50) (v := 0) K dX7_sum_49 (by decide) rfl ?_
    exact x_zret (wf := w7 cI a) K (Or.inl rfl) h dX7_sum_50
set_option maxHeartbeats 4000000 in
set_option maxRecDepth 100000 in
theorem tX7_sum_9 (K : XK p m c cX7_sum 2 s args wsX7_sum RX7 D (xtys cI cO) A meth (some .boolean)) {wproduct : xF → xA → (Int32 → xF → xA → Prop) → Prop} (hmproduct : MI l yX7_product wsX7_product (xrd d 1) D (xtys cI cO) [.ref (a 0)] (w7 cI a) wproduct) {Q : Int32 → xF → xA → Prop} : ∀ (n : Nat), ∀ (F : xF) (G : xA), qX7_sum_9 wproduct Q n F G → XJ p l e (xrd d 2) s m args below meth c 0 0 (MQ below (xQi D (w7 cI a) A Q) args s 0 0 A) D (xtys cI cO) A 2 (w7 cI a F G) 9 [(0, .ref (a 0))] [] := by
  intro n
  induction n with
  | zero =>
    intro F G h
    exact False.elim h
  | succ n ih =>
    intro F G h
    refine x_aload_n (pc' := 10) K dX7_sum_9 0 rfl rfl ?_
    refine x_callI (pc' := 13) K (mX7_look l D cI cO a) rfl gX7_sum_X7_look rfl dsX7_look (by refine ⟨rfl, rfl, ⟨?_, ?_⟩, ?_, ?_⟩ <;> simp only [xrd, rmX7_look] <;> omega) h 7 0 rfl rfl (st := []) rfl rfl (Nat.le_of_ble_eq_true rfl) dX7_sum_10 rfl (fun r10 F10 G10 h => ?_)
    refine x_bipush (pc' := 15) (v := 43) K dX7_sum_13 (by decide) rfl ?_
    refine x_icmp_eq (tgt := 27) (pc' := 18) K dX7_sum_15 rfl rfl (fun c15 => ?_) (fun c15 => ?_)
    · replace h := h.1 c15
      exact tX7_sum_27 K hmproduct (fun F G h => ih F G h) _ _ h
    · replace h := h.2 c15
      refine x_aload_n (pc' := 19) K dX7_sum_18 0 rfl rfl ?_
      refine x_callI (pc' := 22) K (mX7_look l D cI cO a) rfl gX7_sum_X7_look rfl dsX7_look (by refine ⟨rfl, rfl, ⟨?_, ?_⟩, ?_, ?_⟩ <;> simp only [xrd, rmX7_look] <;> omega) h 7 0 rfl rfl (st := []) rfl rfl (Nat.le_of_ble_eq_true rfl) dX7_sum_19 rfl (fun r19 F19 G19 h => ?_)
      refine x_bipush (pc' := 24) (v := 45) K dX7_sum_22 (by decide) rfl ?_
      refine x_icmp_ne (tgt := 60) (pc' := 27) K dX7_sum_24 rfl rfl (fun c24 => ?_) (fun c24 => ?_)
      · replace h := h.1 c24
        refine x_iconst (pc' := 61) (v := 1) K dX7_sum_60 (by decide) rfl ?_
        exact x_zret (wf := w7 cI a) K (Or.inr rfl) h dX7_sum_61
      · replace h := h.2 c24
        exact tX7_sum_27 K hmproduct (fun F G h => ih F G h) _ _ h
set_option maxHeartbeats 4000000 in
set_option maxRecDepth 100000 in
theorem mX7_sum (l : Launch) (D : va_G) (cI cO : ClassId) (a : Nat → Nat) (d : Nat)  {wproduct : xF → xA → (Int32 → xF → xA → Prop) → Prop} (hmproduct : MI l yX7_product wsX7_product (xrd d 1) D (xtys cI cO) [.ref (a 0)] (w7 cI a) wproduct)  : MI l yX7_sum wsX7_sum (xrd d 2) D (xtys cI cO) [.ref (a 0)] (w7 cI a) (qX7_sum wproduct) := by
  refine MZ_of (cc := cX7_sum) (maxL := 2) (own := RX7) (by decide) rfl rfl (Nat.le_of_ble_eq_true rfl) ?_
  intro p e s m args below meth c A F G Q h K
  refine x_locals [0] (L' := [(0, .ref (a 0))]) rfl ?_
  refine x_aload_n (pc' := 1) K dX7_sum_0 0 rfl rfl ?_
  refine x_callI (pc' := 4) K (hmproduct) rfl gX7_sum_X7_product rfl dsX7_product (by refine ⟨rfl, rfl, ⟨?_, ?_⟩, ?_, ?_⟩ <;> simp only [xrd] <;> omega) h 7 0 rfl rfl (st := []) rfl rfl (Nat.le_of_ble_eq_true rfl) dX7_sum_1 rfl (fun r1 F1 G1 h => ?_)
  refine x_if_ne (tgt := 9) (pc' := 7) K dX7_sum_4 rfl rfl (fun c4 => ?_) (fun c4 => ?_)
  · replace h := h.1 c4
    obtain ⟨n9, h⟩ := h
    exact tX7_sum_9 K hmproduct n9 _ _ h
  · replace h := h.2 c4
    refine x_iconst (pc' := 8) (v := 0) K dX7_sum_7 (by decide) rfl ?_
    exact x_zret (wf := w7 cI a) K (Or.inl rfl) h dX7_sum_8
/-! X7_compared -/
theorem dsX7_compared : xDesc yX7_compared 0 := by decide +kernel
theorem uX7_compared_f82 : Cond.fieldLink RX7 82 "PigNinthsModel" "at" "I" ∈ wsX7_compared := nw_in nwl_X7_compared nwe_562 (by decide +kernel)
theorem hinX7_compared_X7 : ∀ w ∈ wsX70, w ∈ wsX7_compared := nw_all nwl_X7_compared nwl_X70 (by decide +kernel)
set_option maxHeartbeats 4000000 in
set_option maxRecDepth 100000 in
theorem tX7_compared_34 (K : XK p m c cX7_compared 2 s args wsX7_compared RX7 D (xtys cI cO) A meth (some .boolean)) {wsum : xF → xA → (Int32 → xF → xA → Prop) → Prop} (hmsum : MI l yX7_sum wsX7_sum (xrd d 2) D (xtys cI cO) [.ref (a 0)] (w7 cI a) wsum) {Q : Int32 → xF → xA → Prop} : ∀ (x1 : Int32) (F : xF) (G : xA), qX7_compared_34 wsum Q x1 F G → XJ p l e (xrd d 3) s m args below meth c 0 0 (MQ below (xQi D (w7 cI a) A Q) args s 0 0 A) D (xtys cI cO) A 2 (w7 cI a F G) 34 [(0, .ref (a 0)), (1, .int x1)] [] := by
  intro x1 F G h
  refine x_aload_n (pc' := 35) K dX7_compared_34 0 rfl rfl ?_
  refine x_dup (pc' := 36) K dX7_compared_35 rfl rfl ?_
  refine xw7_0g_at (pc' := 39) K hinX7_compared_X7 uX7_compared_f82 dX7_compared_36 rfl ?_
  refine x_iconst (pc' := 40) (v := 1) K dX7_compared_39 (by decide) rfl ?_
  refine x_iadd (pc' := 41) K dX7_compared_40 rfl ?_
  refine xw7_0p_at (pc' := 44) K hinX7_compared_X7 uX7_compared_f82 dX7_compared_41 rfl (fun F41 eF41 => ?_)
  replace h := h F41 eF41
  refine x_aload_n (pc' := 45) K dX7_compared_44 0 rfl rfl ?_
  refine x_callI (pc' := 48) K (hmsum) rfl gX7_compared_X7_sum rfl dsX7_sum (by refine ⟨rfl, rfl, ⟨?_, ?_⟩, ?_, ?_⟩ <;> simp only [xrd] <;> omega) h 7 0 rfl rfl (st := []) rfl rfl (Nat.le_of_ble_eq_true rfl) dX7_compared_45 rfl (fun r45 F45 G45 h => ?_)
  refine x_if_ne (tgt := 53) (pc' := 51) K dX7_compared_48 rfl rfl (fun c48 => ?_) (fun c48 => ?_)
  · replace h := h.1 c48
    refine x_aload_n (pc' := 54) K dX7_compared_53 0 rfl rfl ?_
    refine x_iconst (pc' := 55) (v := 3) K dX7_compared_54 (by decide) rfl ?_
    refine x_iload_n (pc' := 56) K dX7_compared_55 1 rfl rfl ?_
    refine x_callV (pc' := 59) K (mX7_step1 l D cI cO a _ _) rfl gX7_compared_X7_step1 rfl dsX7_step1 (by refine ⟨rfl, rfl, ⟨?_, ?_⟩, ?_, ?_⟩ <;> simp only [xrd, rmX7_step1] <;> omega) h 7 0 rfl rfl (st := []) rfl rfl (Nat.le_of_ble_eq_true rfl) dX7_compared_56 rfl (fun F56 G56 h => ?_)
    refine x_iconst (pc' := 60) (v := 1) K dX7_compared_59 (by decide) rfl ?_
    exact x_zret (wf := w7 cI a) K (Or.inr rfl) h dX7_compared_60
  · replace h := h.2 c48
    refine x_iconst (pc' := 52) (v := 0) K dX7_compared_51 (by decide) rfl ?_
    exact x_zret (wf := w7 cI a) K (Or.inl rfl) h dX7_compared_52
set_option maxHeartbeats 4000000 in
set_option maxRecDepth 100000 in
theorem mX7_compared (l : Launch) (D : va_G) (cI cO : ClassId) (a : Nat → Nat) (d : Nat)  {wsum : xF → xA → (Int32 → xF → xA → Prop) → Prop} (hmsum : MI l yX7_sum wsX7_sum (xrd d 2) D (xtys cI cO) [.ref (a 0)] (w7 cI a) wsum)  : MI l yX7_compared wsX7_compared (xrd d 3) D (xtys cI cO) [.ref (a 0)] (w7 cI a) (qX7_compared wsum) := by
  refine MZ_of (cc := cX7_compared) (maxL := 2) (own := RX7) (by decide) rfl rfl (Nat.le_of_ble_eq_true rfl) ?_
  intro p e s m args below meth c A F G Q h K
  refine x_locals [0] (L' := [(0, .ref (a 0))]) rfl ?_
  refine x_aload_n (pc' := 1) K dX7_compared_0 0 rfl rfl ?_
  refine x_callI (pc' := 4) K (hmsum) rfl gX7_compared_X7_sum rfl dsX7_sum (by refine ⟨rfl, rfl, ⟨?_, ?_⟩, ?_, ?_⟩ <;> simp only [xrd] <;> omega) h 7 0 rfl rfl (st := []) rfl rfl (Nat.le_of_ble_eq_true rfl) dX7_compared_1 rfl (fun r1 F1 G1 h => ?_)
  refine x_if_ne (tgt := 9) (pc' := 7) K dX7_compared_4 rfl rfl (fun c4 => ?_) (fun c4 => ?_)
  · replace h := h.1 c4
    refine x_aload_n (pc' := 10) K dX7_compared_9 0 rfl rfl ?_
    refine x_callI (pc' := 13) K (mX7_look l D cI cO a) rfl gX7_compared_X7_look rfl dsX7_look (by refine ⟨rfl, rfl, ⟨?_, ?_⟩, ?_, ?_⟩ <;> simp only [xrd, rmX7_look] <;> omega) h 7 0 rfl rfl (st := []) rfl rfl (Nat.le_of_ble_eq_true rfl) dX7_compared_10 rfl (fun r10 F10 G10 h => ?_)
    refine x_istore_n (pc' := 14) (i := 1) K dX7_compared_13 rfl (by decide) [1, 0] (L' := [(0, .ref (a 0)), (1, .int _)]) rfl rfl ?_
    refine x_iload_n (pc' := 15) K dX7_compared_14 1 rfl rfl ?_
    refine x_bipush (pc' := 17) (v := 60) K dX7_compared_15 (by decide) rfl ?_
    refine x_icmp_eq (tgt := 34) (pc' := 20) K dX7_compared_17 rfl rfl (fun c17 => ?_) (fun c17 => ?_)
    · replace h := h.1 c17
      exact tX7_compared_34 K hmsum _ _ _ h
    · replace h := h.2 c17
      refine x_iload_n (pc' := 21) K dX7_compared_20 1 rfl rfl ?_
      refine x_bipush (pc' := 23) (v := 61) K dX7_compared_21 (by decide) rfl ?_
      refine x_icmp_eq (tgt := 34) (pc' := 26) K dX7_compared_23 rfl rfl (fun c23 => ?_) (fun c23 => ?_)
      · replace h := h.1 c23
        exact tX7_compared_34 K hmsum _ _ _ h
      · replace h := h.2 c23
        refine x_iload_n (pc' := 27) K dX7_compared_26 1 rfl rfl ?_
        refine x_bipush (pc' := 29) (v := 62) K dX7_compared_27 (by decide) rfl ?_
        refine x_icmp_eq (tgt := 34) (pc' := 32) K dX7_compared_29 rfl rfl (fun c29 => ?_) (fun c29 => ?_)
        · replace h := h.1 c29
          exact tX7_compared_34 K hmsum _ _ _ h
        · replace h := h.2 c29
          refine x_iconst (pc' := 33) (v := 1) K dX7_compared_32 (by decide) rfl ?_
          exact x_zret (wf := w7 cI a) K (Or.inr rfl) h dX7_compared_33
  · replace h := h.2 c4
    refine x_iconst (pc' := 8) (v := 0) K dX7_compared_7 (by decide) rfl ?_
    exact x_zret (wf := w7 cI a) K (Or.inl rfl) h dX7_compared_8
/-! X7_both -/
theorem dsX7_both : xDesc yX7_both 0 := by decide +kernel
theorem uX7_both_f82 : Cond.fieldLink RX7 82 "PigNinthsModel" "at" "I" ∈ wsX7_both := nw_in nwl_X7_both nwe_562 (by decide +kernel)
theorem hinX7_both_X7 : ∀ w ∈ wsX70, w ∈ wsX7_both := nw_all nwl_X7_both nwl_X70 (by decide +kernel)
set_option maxHeartbeats 4000000 in
set_option maxRecDepth 100000 in
theorem tX7_both_9 (K : XK p m c cX7_both 1 s args wsX7_both RX7 D (xtys cI cO) A meth (some .boolean)) {wcompared : xF → xA → (Int32 → xF → xA → Prop) → Prop} (hmcompared : MI l yX7_compared wsX7_compared (xrd d 3) D (xtys cI cO) [.ref (a 0)] (w7 cI a) wcompared) {Q : Int32 → xF → xA → Prop} : ∀ (n : Nat), ∀ (F : xF) (G : xA), qX7_both_9 wcompared Q n F G → XJ p l e (xrd d 4) s m args below meth c 0 0 (MQ below (xQi D (w7 cI a) A Q) args s 0 0 A) D (xtys cI cO) A 1 (w7 cI a F G) 9 [(0, .ref (a 0))] [] := by
  intro n
  induction n with
  | zero =>
    intro F G h
    exact False.elim h
  | succ n ih =>
    intro F G h
    refine x_aload_n (pc' := 10) K dX7_both_9 0 rfl rfl ?_
    refine x_callI (pc' := 13) K (mX7_look l D cI cO a) rfl gX7_both_X7_look rfl dsX7_look (by refine ⟨rfl, rfl, ⟨?_, ?_⟩, ?_, ?_⟩ <;> simp only [xrd, rmX7_look] <;> omega) h 7 0 rfl rfl (st := []) rfl rfl (Nat.le_of_ble_eq_true rfl) dX7_both_10 rfl (fun r10 F10 G10 h => ?_)
    refine x_bipush (pc' := 15) (v := 38) K dX7_both_13 (by decide) rfl ?_
    refine x_icmp_ne (tgt := 47) (pc' := 18) K dX7_both_15 rfl rfl (fun c15 => ?_) (fun c15 => ?_)
    · replace h := h.1 c15
      refine x_iconst (pc' := 48) (v := 1) K dX7_both_47 (by decide) rfl ?_
      exact x_zret (wf := w7 cI a) K (Or.inr rfl) h dX7_both_48
    · replace h := h.2 c15
      refine x_aload_n (pc' := 19) K dX7_both_18 0 rfl rfl ?_
      refine x_dup (pc' := 20) K dX7_both_19 rfl rfl ?_
      refine xw7_0g_at (pc' := 23) K hinX7_both_X7 uX7_both_f82 dX7_both_20 rfl ?_
      refine x_iconst (pc' := 24) (v := 1) K dX7_both_23 (by decide) rfl ?_
      refine x_iadd (pc' := 25) K dX7_both_24 rfl ?_
      refine xw7_0p_at (pc' := 28) K hinX7_both_X7 uX7_both_f82 dX7_both_25 rfl (fun F25 eF25 => ?_)
      replace h := h F25 eF25
      refine x_aload_n (pc' := 29) K dX7_both_28 0 rfl rfl ?_
      refine x_callI (pc' := 32) K (hmcompared) rfl gX7_both_X7_compared rfl dsX7_compared (by refine ⟨rfl, rfl, ⟨?_, ?_⟩, ?_, ?_⟩ <;> simp only [xrd] <;> omega) h 7 0 rfl rfl (st := []) rfl rfl (Nat.le_of_ble_eq_true rfl) dX7_both_29 rfl (fun r29 F29 G29 h => ?_)
      refine x_if_ne (tgt := 37) (pc' := 35) K dX7_both_32 rfl rfl (fun c32 => ?_) (fun c32 => ?_)
      · replace h := h.1 c32
        refine x_aload_n (pc' := 38) K dX7_both_37 0 rfl rfl ?_
        refine x_iconst (pc' := 39) (v := 3) K dX7_both_38 (by decide) rfl ?_
        refine x_bipush (pc' := 41) (v := 38) K dX7_both_39 (by decide) rfl ?_
        refine x_callV (pc' := 44) K (mX7_step1 l D cI cO a _ _) rfl gX7_both_X7_step1 rfl dsX7_step1 (by refine ⟨rfl, rfl, ⟨?_, ?_⟩, ?_, ?_⟩ <;> simp only [xrd, rmX7_step1] <;> omega) h 7 0 rfl rfl (st := []) rfl rfl (Nat.le_of_ble_eq_true rfl) dX7_both_41 rfl (fun F41 G41 h => ?_)
        refine x_goto (tgt := 9) K dX7_both_44 rfl ?_
        exact ih _ _ h
      · replace h := h.2 c32
        refine x_iconst (pc' := 36) (v := 0) K dX7_both_35 (by decide) rfl ?_
        exact x_zret (wf := w7 cI a) K (Or.inl rfl) h dX7_both_36
set_option maxHeartbeats 4000000 in
set_option maxRecDepth 100000 in
theorem mX7_both (l : Launch) (D : va_G) (cI cO : ClassId) (a : Nat → Nat) (d : Nat)  {wcompared : xF → xA → (Int32 → xF → xA → Prop) → Prop} (hmcompared : MI l yX7_compared wsX7_compared (xrd d 3) D (xtys cI cO) [.ref (a 0)] (w7 cI a) wcompared)  : MI l yX7_both wsX7_both (xrd d 4) D (xtys cI cO) [.ref (a 0)] (w7 cI a) (qX7_both wcompared) := by
  refine MZ_of (cc := cX7_both) (maxL := 1) (own := RX7) (by decide) rfl rfl (Nat.le_of_ble_eq_true rfl) ?_
  intro p e s m args below meth c A F G Q h K
  refine x_locals [0] (L' := [(0, .ref (a 0))]) rfl ?_
  refine x_aload_n (pc' := 1) K dX7_both_0 0 rfl rfl ?_
  refine x_callI (pc' := 4) K (hmcompared) rfl gX7_both_X7_compared rfl dsX7_compared (by refine ⟨rfl, rfl, ⟨?_, ?_⟩, ?_, ?_⟩ <;> simp only [xrd] <;> omega) h 7 0 rfl rfl (st := []) rfl rfl (Nat.le_of_ble_eq_true rfl) dX7_both_1 rfl (fun r1 F1 G1 h => ?_)
  refine x_if_ne (tgt := 9) (pc' := 7) K dX7_both_4 rfl rfl (fun c4 => ?_) (fun c4 => ?_)
  · replace h := h.1 c4
    obtain ⟨n9, h⟩ := h
    exact tX7_both_9 K hmcompared n9 _ _ h
  · replace h := h.2 c4
    refine x_iconst (pc' := 8) (v := 0) K dX7_both_7 (by decide) rfl ?_
    exact x_zret (wf := w7 cI a) K (Or.inl rfl) h dX7_both_8
/-! X7_whole -/
theorem dsX7_whole : xDesc yX7_whole 0 := by decide +kernel
theorem uX7_whole_f82 : Cond.fieldLink RX7 82 "PigNinthsModel" "at" "I" ∈ wsX7_whole := nw_in nwl_X7_whole nwe_562 (by decide +kernel)
theorem hinX7_whole_X7 : ∀ w ∈ wsX70, w ∈ wsX7_whole := nw_all nwl_X7_whole nwl_X70 (by decide +kernel)
set_option maxHeartbeats 4000000 in
set_option maxRecDepth 100000 in
theorem tX7_whole_9 (K : XK p m c cX7_whole 1 s args wsX7_whole RX7 D (xtys cI cO) A meth (some .boolean)) {wboth : xF → xA → (Int32 → xF → xA → Prop) → Prop} (hmboth : MI l yX7_both wsX7_both (xrd d 4) D (xtys cI cO) [.ref (a 0)] (w7 cI a) wboth) {Q : Int32 → xF → xA → Prop} : ∀ (n : Nat), ∀ (F : xF) (G : xA), qX7_whole_9 wboth Q n F G → XJ p l e (xrd d 5) s m args below meth c 0 0 (MQ below (xQi D (w7 cI a) A Q) args s 0 0 A) D (xtys cI cO) A 1 (w7 cI a F G) 9 [(0, .ref (a 0))] [] := by
  intro n
  induction n with
  | zero =>
    intro F G h
    exact False.elim h
  | succ n ih =>
    intro F G h
    refine x_aload_n (pc' := 10) K dX7_whole_9 0 rfl rfl ?_
    refine x_callI (pc' := 13) K (mX7_look l D cI cO a) rfl gX7_whole_X7_look rfl dsX7_look (by refine ⟨rfl, rfl, ⟨?_, ?_⟩, ?_, ?_⟩ <;> simp only [xrd, rmX7_look] <;> omega) h 7 0 rfl rfl (st := []) rfl rfl (Nat.le_of_ble_eq_true rfl) dX7_whole_10 rfl (fun r10 F10 G10 h => ?_)
    refine x_bipush (pc' := 15) (v := 124) K dX7_whole_13 (by decide) rfl ?_
    refine x_icmp_ne (tgt := 47) (pc' := 18) K dX7_whole_15 rfl rfl (fun c15 => ?_) (fun c15 => ?_)
    · replace h := h.1 c15
      refine x_iconst (pc' := 48) (v := 1) K dX7_whole_47 (by decide) rfl ?_
      exact x_zret (wf := w7 cI a) K (Or.inr rfl) h dX7_whole_48
    · replace h := h.2 c15
      refine x_aload_n (pc' := 19) K dX7_whole_18 0 rfl rfl ?_
      refine x_dup (pc' := 20) K dX7_whole_19 rfl rfl ?_
      refine xw7_0g_at (pc' := 23) K hinX7_whole_X7 uX7_whole_f82 dX7_whole_20 rfl ?_
      refine x_iconst (pc' := 24) (v := 1) K dX7_whole_23 (by decide) rfl ?_
      refine x_iadd (pc' := 25) K dX7_whole_24 rfl ?_
      refine xw7_0p_at (pc' := 28) K hinX7_whole_X7 uX7_whole_f82 dX7_whole_25 rfl (fun F25 eF25 => ?_)
      replace h := h F25 eF25
      refine x_aload_n (pc' := 29) K dX7_whole_28 0 rfl rfl ?_
      refine x_callI (pc' := 32) K (hmboth) rfl gX7_whole_X7_both rfl dsX7_both (by refine ⟨rfl, rfl, ⟨?_, ?_⟩, ?_, ?_⟩ <;> simp only [xrd] <;> omega) h 7 0 rfl rfl (st := []) rfl rfl (Nat.le_of_ble_eq_true rfl) dX7_whole_29 rfl (fun r29 F29 G29 h => ?_)
      refine x_if_ne (tgt := 37) (pc' := 35) K dX7_whole_32 rfl rfl (fun c32 => ?_) (fun c32 => ?_)
      · replace h := h.1 c32
        refine x_aload_n (pc' := 38) K dX7_whole_37 0 rfl rfl ?_
        refine x_iconst (pc' := 39) (v := 3) K dX7_whole_38 (by decide) rfl ?_
        refine x_bipush (pc' := 41) (v := 124) K dX7_whole_39 (by decide) rfl ?_
        refine x_callV (pc' := 44) K (mX7_step1 l D cI cO a _ _) rfl gX7_whole_X7_step1 rfl dsX7_step1 (by refine ⟨rfl, rfl, ⟨?_, ?_⟩, ?_, ?_⟩ <;> simp only [xrd, rmX7_step1] <;> omega) h 7 0 rfl rfl (st := []) rfl rfl (Nat.le_of_ble_eq_true rfl) dX7_whole_41 rfl (fun F41 G41 h => ?_)
        refine x_goto (tgt := 9) K dX7_whole_44 rfl ?_
        exact ih _ _ h
      · replace h := h.2 c32
        refine x_iconst (pc' := 36) (v := 0) K dX7_whole_35 (by decide) rfl ?_
        exact x_zret (wf := w7 cI a) K (Or.inl rfl) h dX7_whole_36
set_option maxHeartbeats 4000000 in
set_option maxRecDepth 100000 in
theorem mX7_whole (l : Launch) (D : va_G) (cI cO : ClassId) (a : Nat → Nat) (d : Nat)  {wboth : xF → xA → (Int32 → xF → xA → Prop) → Prop} (hmboth : MI l yX7_both wsX7_both (xrd d 4) D (xtys cI cO) [.ref (a 0)] (w7 cI a) wboth)  : MI l yX7_whole wsX7_whole (xrd d 5) D (xtys cI cO) [.ref (a 0)] (w7 cI a) (qX7_whole wboth) := by
  refine MZ_of (cc := cX7_whole) (maxL := 1) (own := RX7) (by decide) rfl rfl (Nat.le_of_ble_eq_true rfl) ?_
  intro p e s m args below meth c A F G Q h K
  refine x_locals [0] (L' := [(0, .ref (a 0))]) rfl ?_
  refine x_aload_n (pc' := 1) K dX7_whole_0 0 rfl rfl ?_
  refine x_callI (pc' := 4) K (hmboth) rfl gX7_whole_X7_both rfl dsX7_both (by refine ⟨rfl, rfl, ⟨?_, ?_⟩, ?_, ?_⟩ <;> simp only [xrd] <;> omega) h 7 0 rfl rfl (st := []) rfl rfl (Nat.le_of_ble_eq_true rfl) dX7_whole_1 rfl (fun r1 F1 G1 h => ?_)
  refine x_if_ne (tgt := 9) (pc' := 7) K dX7_whole_4 rfl rfl (fun c4 => ?_) (fun c4 => ?_)
  · replace h := h.1 c4
    obtain ⟨n9, h⟩ := h
    exact tX7_whole_9 K hmboth n9 _ _ h
  · replace h := h.2 c4
    refine x_iconst (pc' := 8) (v := 0) K dX7_whole_7 (by decide) rfl ?_
    exact x_zret (wf := w7 cI a) K (Or.inl rfl) h dX7_whole_8
/-! X7_one -/
theorem uX7_one_f82 : Cond.fieldLink RX7 82 "PigNinthsModel" "at" "I" ∈ wsX7_one := nw_in nwl_X7_one nwe_562 (by decide +kernel)
theorem hinX7_one_X7 : ∀ w ∈ wsX70, w ∈ wsX7_one := nw_all nwl_X7_one nwl_X70 (by decide +kernel)
theorem uX7_one_f115 : Cond.fieldLink RX7 115 "PigNinthsModel" "open" "I" ∈ wsX7_one := nw_in nwl_X7_one nwe_568 (by decide +kernel)
set_option maxHeartbeats 4000000 in
set_option maxRecDepth 100000 in
theorem tX7_one_46 (K : XK p m c cX7_one 4 s args wsX7_one RX7 D (xtys cI cO) A meth (some .boolean)) {wone : xF → xA → (Int32 → xF → xA → Prop) → Prop} (hmone : MI l yX7_one wsX7_one (xrd d 0) D (xtys cI cO) [.ref (a 0)] (w7 cI a) wone) {wwhole : xF → xA → (Int32 → xF → xA → Prop) → Prop} (hmwhole : MI l yX7_whole wsX7_whole (xrd d 5) D (xtys cI cO) [.ref (a 0)] (w7 cI a) wwhole) {Q : Int32 → xF → xA → Prop} : ∀ (n : Nat), ∀ (x2 : Int32) (x3 : Int32) (F : xF) (G : xA), qX7_one_46 wone wwhole Q n x2 x3 F G → XJ p l e (xrd (d + 1) 0) s m args below meth c 0 0 (MQ below (xQi D (w7 cI a) A Q) args s 0 0 A) D (xtys cI cO) A 4 (w7 cI a F G) 46 [(0, .ref (a 0)), (2, .int x2), (3, .int x3)] [] := by
  intro n
  induction n with
  | zero =>
    intro x2 x3 F G h
    exact False.elim h
  | succ n ih =>
    intro x2 x3 F G h
    refine x_iload_n (pc' := 47) K dX7_one_46 2 rfl rfl ?_
    refine x_iconst (pc' := 48) (v := 4) K dX7_one_47 (by decide) rfl ?_
    refine x_icmp_ge (tgt := 94) (pc' := 51) K dX7_one_48 rfl rfl (fun c48 => ?_) (fun c48 => ?_)
    · replace h := h.1 c48
      refine x_aload_n (pc' := 95) K dX7_one_94 0 rfl rfl ?_
      refine x_iconst (pc' := 96) (v := 0) K dX7_one_95 (by decide) rfl ?_
      refine x_iload_n (pc' := 97) K dX7_one_96 1 rfl rfl ?_
      refine x_callV (pc' := 100) K (mX7_step1 l D cI cO a _ _) rfl gX7_one_X7_step1 rfl dsX7_step1 (by refine ⟨rfl, rfl, ⟨?_, ?_⟩, ?_, ?_⟩ <;> simp only [xrd, rmX7_step1] <;> omega) h 7 0 rfl rfl (st := []) rfl rfl (Nat.le_of_ble_eq_true rfl) dX7_one_97 rfl (fun F97 G97 h => ?_)
      refine x_iconst (pc' := 101) (v := 1) K dX7_one_100 (by decide) rfl ?_
      exact x_zret (wf := w7 cI a) K (Or.inr rfl) h dX7_one_101
    · replace h := h.2 c48
      refine x_aload_n (pc' := 52) K dX7_one_51 0 rfl rfl ?_
      refine x_callI (pc' := 55) K (mX7_look l D cI cO a) rfl gX7_one_X7_look rfl dsX7_look (by refine ⟨rfl, rfl, ⟨?_, ?_⟩, ?_, ?_⟩ <;> simp only [xrd, rmX7_look] <;> omega) h 7 0 rfl rfl (st := []) rfl rfl (Nat.le_of_ble_eq_true rfl) dX7_one_52 rfl (fun r52 F52 G52 h => ?_)
      refine x_bipush (pc' := 57) (v := 48) K dX7_one_55 (by decide) rfl ?_
      refine x_bipush (pc' := 59) (v := 57) K dX7_one_57 (by decide) rfl ?_
      refine x_callS (pc' := 62) K (mX7_in l D cI cO a _ _ _) rfl gX7_one_X7_in dsX7_in (by refine ⟨rfl, rfl, ⟨?_, ?_⟩, ?_, ?_⟩ <;> simp only [xrd, rmX7_in] <;> omega) h (st := []) rfl rfl (Nat.le_of_ble_eq_true rfl) dX7_one_59 rfl (fun r59 h => ?_)
      refine x_if_eq (tgt := 94) (pc' := 65) K dX7_one_62 rfl rfl (fun c62 => ?_) (fun c62 => ?_)
      · replace h := h.1 c62
        refine x_aload_n (pc' := 95) K dX7_one_94 0 rfl rfl ?_
        refine x_iconst (pc' := 96) (v := 0) K dX7_one_95 (by decide) rfl ?_
        refine x_iload_n (pc' := 97) K dX7_one_96 1 rfl rfl ?_
        refine x_callV (pc' := 100) K (mX7_step1 l D cI cO a _ _) rfl gX7_one_X7_step1 rfl dsX7_step1 (by refine ⟨rfl, rfl, ⟨?_, ?_⟩, ?_, ?_⟩ <;> simp only [xrd, rmX7_step1] <;> omega) h 7 0 rfl rfl (st := []) rfl rfl (Nat.le_of_ble_eq_true rfl) dX7_one_97 rfl (fun F97 G97 h => ?_)
        refine x_iconst (pc' := 101) (v := 1) K dX7_one_100 (by decide) rfl ?_
        exact x_zret (wf := w7 cI a) K (Or.inr rfl) h dX7_one_101
      · replace h := h.2 c62
        refine x_bipush (pc' := 67) (v := 10) K dX7_one_65 (by decide) rfl ?_
        refine x_iload_n (pc' := 68) K dX7_one_67 1 rfl rfl ?_
        refine x_imul (pc' := 69) K dX7_one_68 rfl ?_
        refine x_aload_n (pc' := 70) K dX7_one_69 0 rfl rfl ?_
        refine x_callI (pc' := 73) K (mX7_look l D cI cO a) rfl gX7_one_X7_look rfl dsX7_look (by refine ⟨rfl, rfl, ⟨?_, ?_⟩, ?_, ?_⟩ <;> simp only [xrd, rmX7_look] <;> omega) h 7 0 rfl rfl (st := [.int _]) rfl rfl (Nat.le_of_ble_eq_true rfl) dX7_one_70 rfl (fun r70 F70 G70 h => ?_)
        refine x_iadd (pc' := 74) K dX7_one_73 rfl ?_
        refine x_bipush (pc' := 76) (v := 48) K dX7_one_74 (by decide) rfl ?_
        refine x_isub (pc' := 77) K dX7_one_76 rfl ?_
        refine x_istore_n (pc' := 78) (i := 2) K dX7_one_77 rfl (by decide) [1, 0, 2] (L' := [(0, .ref (a 0)), (2, .int _), (3, .int _)]) rfl rfl ?_
        refine x_aload_n (pc' := 79) K dX7_one_78 0 rfl rfl ?_
        refine x_dup (pc' := 80) K dX7_one_79 rfl rfl ?_
        refine xw7_0g_at (pc' := 83) K hinX7_one_X7 uX7_one_f82 dX7_one_80 rfl ?_
        refine x_iconst (pc' := 84) (v := 1) K dX7_one_83 (by decide) rfl ?_
        refine x_iadd (pc' := 85) K dX7_one_84 rfl ?_
        refine xw7_0p_at (pc' := 88) K hinX7_one_X7 uX7_one_f82 dX7_one_85 rfl (fun F85 eF85 => ?_)
        replace h := h F85 eF85
        refine x_iinc (pc' := 91) (v := _ + (1 : Int32)) K dX7_one_88 2 rfl rfl (by decide) [1, 2, 0] (L' := [(0, .ref (a 0)), (2, .int _), (3, .int _)]) rfl rfl ?_
        refine x_goto (tgt := 46) K dX7_one_91 rfl ?_
        exact ih _ _ _ _ h
set_option maxHeartbeats 4000000 in
set_option maxRecDepth 100000 in
theorem mX7_one (l : Launch) (D : va_G) (cI cO : ClassId) (a : Nat → Nat) (d : Nat)  {wone : xF → xA → (Int32 → xF → xA → Prop) → Prop} (hmone : MI l yX7_one wsX7_one (xrd d 0) D (xtys cI cO) [.ref (a 0)] (w7 cI a) wone) {wwhole : xF → xA → (Int32 → xF → xA → Prop) → Prop} (hmwhole : MI l yX7_whole wsX7_whole (xrd d 5) D (xtys cI cO) [.ref (a 0)] (w7 cI a) wwhole)  : MI l yX7_one wsX7_one (xrd (d + 1) 0) D (xtys cI cO) [.ref (a 0)] (w7 cI a) (qX7_one wone wwhole) := by
  refine MZ_of (cc := cX7_one) (maxL := 4) (own := RX7) (by decide) rfl rfl (Nat.le_of_ble_eq_true rfl) ?_
  intro p e s m args below meth c A F G Q h K
  refine x_locals [0] (L' := [(0, .ref (a 0))]) rfl ?_
  refine x_aload_n (pc' := 1) K dX7_one_0 0 rfl rfl ?_
  refine x_callI (pc' := 4) K (mX7_look l D cI cO a) rfl gX7_one_X7_look rfl dsX7_look (by refine ⟨rfl, rfl, ⟨?_, ?_⟩, ?_, ?_⟩ <;> simp only [xrd, rmX7_look] <;> omega) h 7 0 rfl rfl (st := []) rfl rfl (Nat.le_of_ble_eq_true rfl) dX7_one_1 rfl (fun r1 F1 G1 h => ?_)
  refine x_istore_n (pc' := 5) (i := 1) K dX7_one_4 rfl (by decide) [1, 0] (L' := [(0, .ref (a 0)), (1, .int _)]) rfl rfl ?_
  refine x_aload_n (pc' := 6) K dX7_one_5 0 rfl rfl ?_
  refine x_iload_n (pc' := 7) K dX7_one_6 1 rfl rfl ?_
  refine x_callI (pc' := 10) K (mX7_isName l D cI cO a _) rfl gX7_one_X7_isName rfl dsX7_isName (by refine ⟨rfl, rfl, ⟨?_, ?_⟩, ?_, ?_⟩ <;> simp only [xrd, rmX7_isName] <;> omega) h 7 0 rfl rfl (st := []) rfl rfl (Nat.le_of_ble_eq_true rfl) dX7_one_7 rfl (fun r7 F7 G7 h => ?_)
  refine x_if_eq (tgt := 31) (pc' := 13) K dX7_one_10 rfl rfl (fun c10 => ?_) (fun c10 => ?_)
  · replace h := h.1 c10
    refine x_iload_n (pc' := 32) K dX7_one_31 1 rfl rfl ?_
    refine x_bipush (pc' := 34) (v := 48) K dX7_one_32 (by decide) rfl ?_
    refine x_bipush (pc' := 36) (v := 57) K dX7_one_34 (by decide) rfl ?_
    refine x_callS (pc' := 39) K (mX7_in l D cI cO a _ _ _) rfl gX7_one_X7_in dsX7_in (by refine ⟨rfl, rfl, ⟨?_, ?_⟩, ?_, ?_⟩ <;> simp only [xrd, rmX7_in] <;> omega) h (st := []) rfl rfl (Nat.le_of_ble_eq_true rfl) dX7_one_36 rfl (fun r36 h => ?_)
    refine x_if_eq (tgt := 102) (pc' := 42) K dX7_one_39 rfl rfl (fun c39 => ?_) (fun c39 => ?_)
    · replace h := h.1 c39
      refine x_iload_n (pc' := 103) K dX7_one_102 1 rfl rfl ?_
      refine x_bipush (pc' := 105) (v := 33) K dX7_one_103 (by decide) rfl ?_
      refine x_icmp_ne (tgt := 142) (pc' := 108) K dX7_one_105 rfl rfl (fun c105 => ?_) (fun c105 => ?_)
      · replace h := h.1 c105
        refine x_iload_n (pc' := 143) K dX7_one_142 1 rfl rfl ?_
        refine x_bipush (pc' := 145) (v := 40) K dX7_one_143 (by decide) rfl ?_
        refine x_icmp_ne (tgt := 171) (pc' := 148) K dX7_one_145 rfl rfl (fun c145 => ?_) (fun c145 => ?_)
        · replace h := h.1 c145
          refine x_iconst (pc' := 172) (v := 0) K dX7_one_171 (by decide) rfl ?_
          exact x_zret (wf := w7 cI a) K (Or.inl rfl) h dX7_one_172
        · replace h := h.2 c145
          refine x_aload_n (pc' := 149) K dX7_one_148 0 rfl rfl ?_
          refine x_callI (pc' := 152) K (mX7_opens l D cI cO a) rfl gX7_one_X7_opens rfl dsX7_opens (by refine ⟨rfl, rfl, ⟨?_, ?_⟩, ?_, ?_⟩ <;> simp only [xrd, rmX7_opens] <;> omega) h 7 0 rfl rfl (st := []) rfl rfl (Nat.le_of_ble_eq_true rfl) dX7_one_149 rfl (fun r149 F149 G149 h => ?_)
          refine x_if_eq (tgt := 171) (pc' := 155) K dX7_one_152 rfl rfl (fun c152 => ?_) (fun c152 => ?_)
          · replace h := h.1 c152
            refine x_iconst (pc' := 172) (v := 0) K dX7_one_171 (by decide) rfl ?_
            exact x_zret (wf := w7 cI a) K (Or.inl rfl) h dX7_one_172
          · replace h := h.2 c152
            refine x_aload_n (pc' := 156) K dX7_one_155 0 rfl rfl ?_
            refine x_callI (pc' := 159) K (hmwhole) rfl gX7_one_X7_whole rfl dsX7_whole (by refine ⟨rfl, rfl, ⟨?_, ?_⟩, ?_, ?_⟩ <;> simp only [xrd] <;> omega) h 7 0 rfl rfl (st := []) rfl rfl (Nat.le_of_ble_eq_true rfl) dX7_one_156 rfl (fun r156 F156 G156 h => ?_)
            refine x_if_eq (tgt := 171) (pc' := 162) K dX7_one_159 rfl rfl (fun c159 => ?_) (fun c159 => ?_)
            · replace h := h.1 c159
              refine x_iconst (pc' := 172) (v := 0) K dX7_one_171 (by decide) rfl ?_
              exact x_zret (wf := w7 cI a) K (Or.inl rfl) h dX7_one_172
            · replace h := h.2 c159
              refine x_aload_n (pc' := 163) K dX7_one_162 0 rfl rfl ?_
              refine x_callI (pc' := 166) K (mX7_look l D cI cO a) rfl gX7_one_X7_look rfl dsX7_look (by refine ⟨rfl, rfl, ⟨?_, ?_⟩, ?_, ?_⟩ <;> simp only [xrd, rmX7_look] <;> omega) h 7 0 rfl rfl (st := []) rfl rfl (Nat.le_of_ble_eq_true rfl) dX7_one_163 rfl (fun r163 F163 G163 h => ?_)
              refine x_bipush (pc' := 168) (v := 41) K dX7_one_166 (by decide) rfl ?_
              refine x_icmp_eq (tgt := 173) (pc' := 171) K dX7_one_168 rfl rfl (fun c168 => ?_) (fun c168 => ?_)
              · replace h := h.1 c168
                refine x_aload_n (pc' := 174) K dX7_one_173 0 rfl rfl ?_
                refine x_dup (pc' := 175) K dX7_one_174 rfl rfl ?_
                refine xw7_0g_at (pc' := 178) K hinX7_one_X7 uX7_one_f82 dX7_one_175 rfl ?_
                refine x_iconst (pc' := 179) (v := 1) K dX7_one_178 (by decide) rfl ?_
                refine x_iadd (pc' := 180) K dX7_one_179 rfl ?_
                refine xw7_0p_at (pc' := 183) K hinX7_one_X7 uX7_one_f82 dX7_one_180 rfl (fun F180 eF180 => ?_)
                replace h := h F180 eF180
                refine x_aload_n (pc' := 184) K dX7_one_183 0 rfl rfl ?_
                refine x_dup (pc' := 185) K dX7_one_184 rfl rfl ?_
                refine xw7_0g_open (pc' := 188) K hinX7_one_X7 uX7_one_f115 dX7_one_185 rfl ?_
                refine x_iconst (pc' := 189) (v := 1) K dX7_one_188 (by decide) rfl ?_
                refine x_isub (pc' := 190) K dX7_one_189 rfl ?_
                refine xw7_0p_open (pc' := 193) K hinX7_one_X7 uX7_one_f115 dX7_one_190 rfl (fun F190 eF190 => ?_)
                replace h := h F190 eF190
                refine x_iconst (pc' := 194) (v := 1) K dX7_one_193 (by decide) rfl ?_
                exact x_zret (wf := w7 cI a) K (Or.inr rfl) h dX7_one_194
              · replace h := h.2 c168
                refine x_iconst (pc' := 172) (v := 0) K dX7_one_171 (by decide) rfl ?_
                exact x_zret (wf := w7 cI a) K (Or.inl rfl) h dX7_one_172
      · replace h := h.2 c105
        refine x_aload_n (pc' := 109) K dX7_one_108 0 rfl rfl ?_
        refine x_callI (pc' := 112) K (mX7_opens l D cI cO a) rfl gX7_one_X7_opens rfl dsX7_opens (by refine ⟨rfl, rfl, ⟨?_, ?_⟩, ?_, ?_⟩ <;> simp only [xrd, rmX7_opens] <;> omega) h 7 0 rfl rfl (st := []) rfl rfl (Nat.le_of_ble_eq_true rfl) dX7_one_109 rfl (fun r109 F109 G109 h => ?_)
        refine x_if_eq (tgt := 122) (pc' := 115) K dX7_one_112 rfl rfl (fun c112 => ?_) (fun c112 => ?_)
        · replace h := h.1 c112
          refine x_iconst (pc' := 123) (v := 0) K dX7_one_122 (by decide) rfl ?_
          exact x_zret (wf := w7 cI a) K (Or.inl rfl) h dX7_one_123
        · replace h := h.2 c112
          refine x_aload_n (pc' := 116) K dX7_one_115 0 rfl rfl ?_
          refine x_callI (pc' := 119) K (hmone) rfl gX7_one_X7_one rfl dsX7_one (by refine ⟨rfl, rfl, ⟨?_, ?_⟩, ?_, ?_⟩ <;> simp only [xrd] <;> omega) h 7 0 rfl rfl (st := []) rfl rfl (Nat.le_of_ble_eq_true rfl) dX7_one_116 rfl (fun r116 F116 G116 h => ?_)
          refine x_if_ne (tgt := 124) (pc' := 122) K dX7_one_119 rfl rfl (fun c119 => ?_) (fun c119 => ?_)
          · replace h := h.1 c119
            refine x_aload_n (pc' := 125) K dX7_one_124 0 rfl rfl ?_
            refine x_dup (pc' := 126) K dX7_one_125 rfl rfl ?_
            refine xw7_0g_open (pc' := 129) K hinX7_one_X7 uX7_one_f115 dX7_one_126 rfl ?_
            refine x_iconst (pc' := 130) (v := 1) K dX7_one_129 (by decide) rfl ?_
            refine x_isub (pc' := 131) K dX7_one_130 rfl ?_
            refine xw7_0p_open (pc' := 134) K hinX7_one_X7 uX7_one_f115 dX7_one_131 rfl (fun F131 eF131 => ?_)
            replace h := h F131 eF131
            refine x_aload_n (pc' := 135) K dX7_one_134 0 rfl rfl ?_
            refine x_iconst (pc' := 136) (v := 2) K dX7_one_135 (by decide) rfl ?_
            refine x_iconst (pc' := 137) (v := 0) K dX7_one_136 (by decide) rfl ?_
            refine x_callV (pc' := 140) K (mX7_step1 l D cI cO a _ _) rfl gX7_one_X7_step1 rfl dsX7_step1 (by refine ⟨rfl, rfl, ⟨?_, ?_⟩, ?_, ?_⟩ <;> simp only [xrd, rmX7_step1] <;> omega) h 7 0 rfl rfl (st := []) rfl rfl (Nat.le_of_ble_eq_true rfl) dX7_one_137 rfl (fun F137 G137 h => ?_)
            refine x_iconst (pc' := 141) (v := 1) K dX7_one_140 (by decide) rfl ?_
            exact x_zret (wf := w7 cI a) K (Or.inr rfl) h dX7_one_141
          · replace h := h.2 c119
            refine x_iconst (pc' := 123) (v := 0) K dX7_one_122 (by decide) rfl ?_
            exact x_zret (wf := w7 cI a) K (Or.inl rfl) h dX7_one_123
    · replace h := h.2 c39
      refine x_iconst (pc' := 43) (v := 0) K dX7_one_42 (by decide) rfl ?_
      refine x_istore_n (pc' := 44) (i := 2) K dX7_one_43 rfl (by decide) [1, 2, 0] (L' := [(0, .ref (a 0)), (1, .int _), (2, .int _)]) rfl rfl ?_
      refine x_iconst (pc' := 45) (v := 0) K dX7_one_44 (by decide) rfl ?_
      refine x_istore_n (pc' := 46) (i := 3) K dX7_one_45 rfl (by decide) [1, 2, 3, 0] (L' := [(0, .ref (a 0)), (1, .int _), (2, .int _), (3, .int _)]) rfl rfl ?_
      refine x_locals [0, 2, 3] (L' := [(0, .ref (a 0)), (2, .int _), (3, .int _)]) rfl ?_
      obtain ⟨n46, h⟩ := h
      exact tX7_one_46 K hmone hmwhole n46 _ _ _ _ h
  · replace h := h.2 c10
    refine x_aload_n (pc' := 14) K dX7_one_13 0 rfl rfl ?_
    refine x_dup (pc' := 15) K dX7_one_14 rfl rfl ?_
    refine xw7_0g_at (pc' := 18) K hinX7_one_X7 uX7_one_f82 dX7_one_15 rfl ?_
    refine x_iconst (pc' := 19) (v := 1) K dX7_one_18 (by decide) rfl ?_
    refine x_iadd (pc' := 20) K dX7_one_19 rfl ?_
    refine xw7_0p_at (pc' := 23) K hinX7_one_X7 uX7_one_f82 dX7_one_20 rfl (fun F20 eF20 => ?_)
    replace h := h F20 eF20
    refine x_aload_n (pc' := 24) K dX7_one_23 0 rfl rfl ?_
    refine x_iconst (pc' := 25) (v := 1) K dX7_one_24 (by decide) rfl ?_
    refine x_iload_n (pc' := 26) K dX7_one_25 1 rfl rfl ?_
    refine x_callV (pc' := 29) K (mX7_step1 l D cI cO a _ _) rfl gX7_one_X7_step1 rfl dsX7_step1 (by refine ⟨rfl, rfl, ⟨?_, ?_⟩, ?_, ?_⟩ <;> simp only [xrd, rmX7_step1] <;> omega) h 7 0 rfl rfl (st := []) rfl rfl (Nat.le_of_ble_eq_true rfl) dX7_one_26 rfl (fun F26 G26 h => ?_)
    refine x_iconst (pc' := 30) (v := 1) K dX7_one_29 (by decide) rfl ?_
    exact x_zret (wf := w7 cI a) K (Or.inr rfl) h dX7_one_30
theorem mX7_one_d (l : Launch) (D : va_G) (cI cO : ClassId) (a : Nat → Nat) : ∀ (d : Nat), MI l yX7_one wsX7_one (xrd d 0) D (xtys cI cO) [.ref (a 0)] (w7 cI a) (qX7_one_d d) := by
  intro d
  induction d with
  | zero => exact fun F G sz Q h => False.elim h
  | succ d ih => exact mX7_one l D cI cO a d ih (mX7_whole l D cI cO a d (mX7_both l D cI cO a d (mX7_compared l D cI cO a d (mX7_sum l D cI cO a d (mX7_product l D cI cO a d ih)))))
abbrev rmX7_wholeT : Room := { frames := 63, cells := 0, slots := 0, locals := 3700 }
theorem mX7_wholeT (l : Launch) (D : va_G) (cI cO : ClassId) (a : Nat → Nat) : MI l yX7_whole wsX7_whole rmX7_wholeT D (xtys cI cO) [.ref (a 0)] (w7 cI a) qX7_wholeT := (mX7_whole l D cI cO a 6 (mX7_both l D cI cO a 6 (mX7_compared l D cI cO a 6 (mX7_sum l D cI cO a 6 (mX7_product l D cI cO a 6 (mX7_one_d l D cI cO a 6))))))
/-! X7_leadsAs -/
theorem dsX7_leadsAs : xDesc yX7_leadsAs 2 := by decide +kernel
theorem uX7_leadsAs_f230 : Cond.fieldLink RX7 230 "PigNinthsModel" "speaks" "I" ∈ wsX7_leadsAs := nw_in nwl_X7_leadsAs nwe_742 (by decide +kernel)
theorem hinX7_leadsAs_X7 : ∀ w ∈ wsX70, w ∈ wsX7_leadsAs := nw_all nwl_X7_leadsAs nwl_X70 (by decide +kernel)
set_option maxHeartbeats 4000000 in
set_option maxRecDepth 100000 in
theorem mX7_leadsAs (l : Launch) (D : va_G) (cI cO : ClassId) (a : Nat → Nat) (d : Nat)  {wleadsAs : Int32 → Int32 → xF → xA → (Int32 → xF → xA → Prop) → Prop} (hmleadsAs : ∀ (x1 : Int32) (x2 : Int32), MI l yX7_leadsAs wsX7_leadsAs (xrd d 0) D (xtys cI cO) [.ref (a 0), .int x1, .int x2] (w7 cI a) (wleadsAs x1 x2)) (x1 : Int32) (x2 : Int32) : MI l yX7_leadsAs wsX7_leadsAs (xrd (d + 1) 0) D (xtys cI cO) [.ref (a 0), .int x1, .int x2] (w7 cI a) (qX7_leadsAs wleadsAs x1 x2) := by
  refine MI_of (cc := cX7_leadsAs) (maxL := 3) (own := RX7) (by decide) rfl rfl (Nat.le_of_ble_eq_true rfl) ?_
  intro p e s m args below meth c A F G Q h K
  refine x_locals [0, 1, 2] (L' := [(0, .ref (a 0)), (1, .int _), (2, .int _)]) rfl ?_
  refine x_iload_n (pc' := 1) K dX7_leadsAs_0 1 rfl rfl ?_
  refine (Classical.em (x1 = (0 : Int32))).elim (fun e1 => ?_) (fun e1_1 => ?_)
  · replace h := h.1 e1
    refine x_tableIn (tgt := 44) (off := 43) K dX7_leadsAs_1 (by rw [e1]; decide) (by rw [e1]; decide) (by rw [e1]; rfl) rfl ?_
    refine x_aload_n (pc' := 45) K dX7_leadsAs_44 0 rfl rfl ?_
    refine x_bipush (pc' := 47) (v := 10) K dX7_leadsAs_45 (by decide) rfl ?_
    refine x_callV (pc' := 50) K (mX7_begins l D cI cO a _) rfl gX7_leadsAs_X7_begins rfl dsX7_begins (by refine ⟨rfl, rfl, ⟨?_, ?_⟩, ?_, ?_⟩ <;> simp only [xrd, rmX7_begins] <;> omega) h 7 0 rfl rfl (st := []) rfl rfl (Nat.le_of_ble_eq_true rfl) dX7_leadsAs_47 rfl (fun F47 G47 h => ?_)
    refine x_iload_n (pc' := 51) K dX7_leadsAs_50 2 rfl rfl ?_
    refine x_aload_n (pc' := 52) K dX7_leadsAs_51 0 rfl rfl ?_
    refine xw7_0g_speaks (pc' := 55) K hinX7_leadsAs_X7 uX7_leadsAs_f230 dX7_leadsAs_52 rfl ?_
    refine x_iadd (pc' := 56) K dX7_leadsAs_55 rfl ?_
    exact x_iret (wf := w7 cI a) K h dX7_leadsAs_56
  · replace h := h.2 e1_1
    refine (Classical.em (x1 = (1 : Int32))).elim (fun e1 => ?_) (fun e1_2 => ?_)
    · replace h := h.1 e1
      refine x_tableIn (tgt := 57) (off := 56) K dX7_leadsAs_1 (by rw [e1]; decide) (by rw [e1]; decide) (by rw [e1]; rfl) rfl ?_
      refine x_aload_n (pc' := 58) K dX7_leadsAs_57 0 rfl rfl ?_
      refine x_bipush (pc' := 60) (v := 20) K dX7_leadsAs_58 (by decide) rfl ?_
      refine x_callV (pc' := 63) K (mX7_begins l D cI cO a _) rfl gX7_leadsAs_X7_begins rfl dsX7_begins (by refine ⟨rfl, rfl, ⟨?_, ?_⟩, ?_, ?_⟩ <;> simp only [xrd, rmX7_begins] <;> omega) h 7 0 rfl rfl (st := []) rfl rfl (Nat.le_of_ble_eq_true rfl) dX7_leadsAs_60 rfl (fun F60 G60 h => ?_)
      refine x_aload_n (pc' := 64) K dX7_leadsAs_63 0 rfl rfl ?_
      refine x_iconst (pc' := 65) (v := 1) K dX7_leadsAs_64 (by decide) rfl ?_
      refine x_callS (pc' := 68) K (mX7_above l D cI cO a _) rfl gX7_leadsAs_X7_above dsX7_above (by refine ⟨rfl, rfl, ⟨?_, ?_⟩, ?_, ?_⟩ <;> simp only [xrd, rmX7_above] <;> omega) h (st := [.ref (a 0)]) rfl rfl (Nat.le_of_ble_eq_true rfl) dX7_leadsAs_65 rfl (fun r65 h => ?_)
      refine x_iload_n (pc' := 69) K dX7_leadsAs_68 2 rfl rfl ?_
      refine x_callI (pc' := 72) K (hmleadsAs _ _) rfl gX7_leadsAs_X7_leadsAs rfl dsX7_leadsAs (by refine ⟨rfl, rfl, ⟨?_, ?_⟩, ?_, ?_⟩ <;> simp only [xrd] <;> omega) h 7 0 rfl rfl (st := []) rfl rfl (Nat.le_of_ble_eq_true rfl) dX7_leadsAs_69 rfl (fun r69 F69 G69 h => ?_)
      refine x_iconst (pc' := 73) (v := 4) K dX7_leadsAs_72 (by decide) rfl ?_
      refine x_isub (pc' := 74) K dX7_leadsAs_73 rfl ?_
      exact x_iret (wf := w7 cI a) K h dX7_leadsAs_74
    · replace h := h.2 e1_2
      refine (Classical.em (x1 = (4 : Int32))).elim (fun e1 => ?_) (fun e1_3 => ?_)
      · replace h := h.1 e1
        refine x_tableIn (tgt := 75) (off := 74) K dX7_leadsAs_1 (by rw [e1]; decide) (by rw [e1]; decide) (by rw [e1]; rfl) rfl ?_
        refine x_aload_n (pc' := 76) K dX7_leadsAs_75 0 rfl rfl ?_
        refine x_bipush (pc' := 78) (v := 50) K dX7_leadsAs_76 (by decide) rfl ?_
        refine x_callV (pc' := 81) K (mX7_begins l D cI cO a _) rfl gX7_leadsAs_X7_begins rfl dsX7_begins (by refine ⟨rfl, rfl, ⟨?_, ?_⟩, ?_, ?_⟩ <;> simp only [xrd, rmX7_begins] <;> omega) h 7 0 rfl rfl (st := []) rfl rfl (Nat.le_of_ble_eq_true rfl) dX7_leadsAs_78 rfl (fun F78 G78 h => ?_)
        refine x_aload_n (pc' := 82) K dX7_leadsAs_81 0 rfl rfl ?_
        refine x_iconst (pc' := 83) (v := 4) K dX7_leadsAs_82 (by decide) rfl ?_
        refine x_callS (pc' := 86) K (mX7_above l D cI cO a _) rfl gX7_leadsAs_X7_above dsX7_above (by refine ⟨rfl, rfl, ⟨?_, ?_⟩, ?_, ?_⟩ <;> simp only [xrd, rmX7_above] <;> omega) h (st := [.ref (a 0)]) rfl rfl (Nat.le_of_ble_eq_true rfl) dX7_leadsAs_83 rfl (fun r83 h => ?_)
        refine x_iload_n (pc' := 87) K dX7_leadsAs_86 2 rfl rfl ?_
        refine x_callI (pc' := 90) K (hmleadsAs _ _) rfl gX7_leadsAs_X7_leadsAs rfl dsX7_leadsAs (by refine ⟨rfl, rfl, ⟨?_, ?_⟩, ?_, ?_⟩ <;> simp only [xrd] <;> omega) h 7 0 rfl rfl (st := []) rfl rfl (Nat.le_of_ble_eq_true rfl) dX7_leadsAs_87 rfl (fun r87 F87 G87 h => ?_)
        refine x_iconst (pc' := 91) (v := 3) K dX7_leadsAs_90 (by decide) rfl ?_
        refine x_imul (pc' := 92) K dX7_leadsAs_91 rfl ?_
        exact x_iret (wf := w7 cI a) K h dX7_leadsAs_92
      · replace h := h.2 e1_3
        refine (Classical.em (x1 = (6 : Int32))).elim (fun e1 => ?_) (fun e1_4 => ?_)
        · replace h := h.1 e1
          refine x_tableIn (tgt := 93) (off := 92) K dX7_leadsAs_1 (by rw [e1]; decide) (by rw [e1]; decide) (by rw [e1]; rfl) rfl ?_
          refine x_aload_n (pc' := 94) K dX7_leadsAs_93 0 rfl rfl ?_
          refine x_bipush (pc' := 96) (v := 70) K dX7_leadsAs_94 (by decide) rfl ?_
          refine x_callV (pc' := 99) K (mX7_begins l D cI cO a _) rfl gX7_leadsAs_X7_begins rfl dsX7_begins (by refine ⟨rfl, rfl, ⟨?_, ?_⟩, ?_, ?_⟩ <;> simp only [xrd, rmX7_begins] <;> omega) h 7 0 rfl rfl (st := []) rfl rfl (Nat.le_of_ble_eq_true rfl) dX7_leadsAs_96 rfl (fun F96 G96 h => ?_)
          refine x_bipush (pc' := 101) (v := 9) K dX7_leadsAs_99 (by decide) rfl ?_
          exact x_iret (wf := w7 cI a) K h dX7_leadsAs_101
        · replace h := h.2 e1_4
          have f1_1 := xtin (i := 0) e1_1 (by decide)
          have f1_2 := xtin (i := 1) e1_2 (by decide)
          have f1_3 := xtin (i := 4) e1_3 (by decide)
          have f1_4 := xtin (i := 6) e1_4 (by decide)
          refine (Classical.em (x1.toInt < 0 ∨ 6 < x1.toInt)).elim (fun g1 => ?_) (fun g1 => ?_)
          · refine x_tableOut (tgt := 102) K dX7_leadsAs_1 g1 rfl ?_
            refine x_aload_n (pc' := 103) K dX7_leadsAs_102 0 rfl rfl ?_
            refine x_iload_n (pc' := 104) K dX7_leadsAs_103 1 rfl rfl ?_
            refine x_callS (pc' := 107) K (mX7_above l D cI cO a _) rfl gX7_leadsAs_X7_above dsX7_above (by refine ⟨rfl, rfl, ⟨?_, ?_⟩, ?_, ?_⟩ <;> simp only [xrd, rmX7_above] <;> omega) h (st := [.ref (a 0)]) rfl rfl (Nat.le_of_ble_eq_true rfl) dX7_leadsAs_104 rfl (fun r104 h => ?_)
            refine x_iload_n (pc' := 108) K dX7_leadsAs_107 2 rfl rfl ?_
            refine x_callI (pc' := 111) K (hmleadsAs _ _) rfl gX7_leadsAs_X7_leadsAs rfl dsX7_leadsAs (by refine ⟨rfl, rfl, ⟨?_, ?_⟩, ?_, ?_⟩ <;> simp only [xrd] <;> omega) h 7 0 rfl rfl (st := []) rfl rfl (Nat.le_of_ble_eq_true rfl) dX7_leadsAs_108 rfl (fun r108 F108 G108 h => ?_)
            exact x_iret (wf := w7 cI a) K h dX7_leadsAs_111
          · have g := not_or.mp g1
            refine x_tableIn (tgt := 102) (off := 101) K dX7_leadsAs_1 g.1 g.2 (xtbl [0, 1, 4, 6] (0) (6) (by decide +kernel) g.1 g.2 (by intro v hv; simp only [List.mem_cons, List.not_mem_nil, or_false] at hv; omega)) rfl ?_
            refine x_aload_n (pc' := 103) K dX7_leadsAs_102 0 rfl rfl ?_
            refine x_iload_n (pc' := 104) K dX7_leadsAs_103 1 rfl rfl ?_
            refine x_callS (pc' := 107) K (mX7_above l D cI cO a _) rfl gX7_leadsAs_X7_above dsX7_above (by refine ⟨rfl, rfl, ⟨?_, ?_⟩, ?_, ?_⟩ <;> simp only [xrd, rmX7_above] <;> omega) h (st := [.ref (a 0)]) rfl rfl (Nat.le_of_ble_eq_true rfl) dX7_leadsAs_104 rfl (fun r104 h => ?_)
            refine x_iload_n (pc' := 108) K dX7_leadsAs_107 2 rfl rfl ?_
            refine x_callI (pc' := 111) K (hmleadsAs _ _) rfl gX7_leadsAs_X7_leadsAs rfl dsX7_leadsAs (by refine ⟨rfl, rfl, ⟨?_, ?_⟩, ?_, ?_⟩ <;> simp only [xrd] <;> omega) h 7 0 rfl rfl (st := []) rfl rfl (Nat.le_of_ble_eq_true rfl) dX7_leadsAs_108 rfl (fun r108 F108 G108 h => ?_)
            exact x_iret (wf := w7 cI a) K h dX7_leadsAs_111
theorem mX7_leadsAs_d (l : Launch) (D : va_G) (cI cO : ClassId) (a : Nat → Nat) : ∀ (d : Nat) (x1 x2 : Int32), MI l yX7_leadsAs wsX7_leadsAs (xrd d 0) D (xtys cI cO) [.ref (a 0), .int x1, .int x2] (w7 cI a) (qX7_leadsAs_d d x1 x2) := by
  intro d
  induction d with
  | zero => exact fun x1 x2 F G sz Q h => False.elim h
  | succ d ih => exact fun x1 x2 => mX7_leadsAs l D cI cO a d ih x1 x2
abbrev rmX7_leadsAsT : Room := { frames := 42, cells := 0, slots := 0, locals := 2300 }
theorem mX7_leadsAsT (l : Launch) (D : va_G) (cI cO : ClassId) (a : Nat → Nat) (x1 x2 : Int32) : MI l yX7_leadsAs wsX7_leadsAs rmX7_leadsAsT D (xtys cI cO) [.ref (a 0), .int x1, .int x2] (w7 cI a) (qX7_leadsAsT x1 x2) := mX7_leadsAs_d l D cI cO a 4 x1 x2
/-! X7_feedsAs -/
theorem dsX7_feedsAs : xDesc yX7_feedsAs 2 := by decide +kernel
set_option maxHeartbeats 4000000 in
set_option maxRecDepth 100000 in
theorem mX7_feedsAs (l : Launch) (D : va_G) (cI cO : ClassId) (a : Nat → Nat) (d : Nat)  {wfeedsAs : Int32 → Int32 → xF → xA → (Int32 → xF → xA → Prop) → Prop} (hmfeedsAs : ∀ (x1 : Int32) (x2 : Int32), MI l yX7_feedsAs wsX7_feedsAs (xrd (d + 6) 0) D (xtys cI cO) [.ref (a 0), .int x1, .int x2] (w7 cI a) (wfeedsAs x1 x2)) (x1 : Int32) (x2 : Int32) : MI l yX7_feedsAs wsX7_feedsAs (xrd (d + 7) 0) D (xtys cI cO) [.ref (a 0), .int x1, .int x2] (w7 cI a) (qX7_feedsAs wfeedsAs x1 x2) := by
  refine MI_of (cc := cX7_feedsAs) (maxL := 3) (own := RX7) (by decide) rfl rfl (Nat.le_of_ble_eq_true rfl) ?_
  intro p e s m args below meth c A F G Q h K
  refine x_locals [0, 1, 2] (L' := [(0, .ref (a 0)), (1, .int _), (2, .int _)]) rfl ?_
  refine x_iload_n (pc' := 1) K dX7_feedsAs_0 1 rfl rfl ?_
  refine (Classical.em (x1 = (0 : Int32))).elim (fun e1 => ?_) (fun e1_1 => ?_)
  · replace h := h.1 e1
    refine x_tableIn (tgt := 44) (off := 43) K dX7_feedsAs_1 (by rw [e1]; decide) (by rw [e1]; decide) (by rw [e1]; rfl) rfl ?_
    refine x_aload_n (pc' := 45) K dX7_feedsAs_44 0 rfl rfl ?_
    refine x_bipush (pc' := 47) (v := 11) K dX7_feedsAs_45 (by decide) rfl ?_
    refine x_callV (pc' := 50) K (mX7_begins l D cI cO a _) rfl gX7_feedsAs_X7_begins rfl dsX7_begins (by refine ⟨rfl, rfl, ⟨?_, ?_⟩, ?_, ?_⟩ <;> simp only [xrd, rmX7_begins] <;> omega) h 7 0 rfl rfl (st := []) rfl rfl (Nat.le_of_ble_eq_true rfl) dX7_feedsAs_47 rfl (fun F47 G47 h => ?_)
    refine x_aload_n (pc' := 51) K dX7_feedsAs_50 0 rfl rfl ?_
    refine x_aload_n (pc' := 52) K dX7_feedsAs_51 0 rfl rfl ?_
    refine x_callI (pc' := 55) K (mX7_kindNow l D cI cO a) rfl gX7_feedsAs_X7_kindNow rfl dsX7_kindNow (by refine ⟨rfl, rfl, ⟨?_, ?_⟩, ?_, ?_⟩ <;> simp only [xrd, rmX7_kindNow] <;> omega) h 7 0 rfl rfl (st := [.ref (a 0)]) rfl rfl (Nat.le_of_ble_eq_true rfl) dX7_feedsAs_52 rfl (fun r52 F52 G52 h => ?_)
    refine x_iload_n (pc' := 56) K dX7_feedsAs_55 2 rfl rfl ?_
    refine x_callI (pc' := 59) K (mX7_leadsAsT l D cI cO a _ _) rfl gX7_feedsAs_X7_leadsAs rfl dsX7_leadsAs (by refine ⟨rfl, rfl, ⟨?_, ?_⟩, ?_, ?_⟩ <;> simp only [xrd, rmX7_leadsAsT] <;> omega) h 7 0 rfl rfl (st := []) rfl rfl (Nat.le_of_ble_eq_true rfl) dX7_feedsAs_56 rfl (fun r56 F56 G56 h => ?_)
    refine x_iconst (pc' := 60) (v := 2) K dX7_feedsAs_59 (by decide) rfl ?_
    refine x_imul (pc' := 61) K dX7_feedsAs_60 rfl ?_
    exact x_iret (wf := w7 cI a) K h dX7_feedsAs_61
  · replace h := h.2 e1_1
    refine (Classical.em (x1 = (2 : Int32))).elim (fun e1 => ?_) (fun e1_2 => ?_)
    · replace h := h.1 e1
      refine x_tableIn (tgt := 62) (off := 61) K dX7_feedsAs_1 (by rw [e1]; decide) (by rw [e1]; decide) (by rw [e1]; rfl) rfl ?_
      refine x_aload_n (pc' := 63) K dX7_feedsAs_62 0 rfl rfl ?_
      refine x_bipush (pc' := 65) (v := 30) K dX7_feedsAs_63 (by decide) rfl ?_
      refine x_callV (pc' := 68) K (mX7_begins l D cI cO a _) rfl gX7_feedsAs_X7_begins rfl dsX7_begins (by refine ⟨rfl, rfl, ⟨?_, ?_⟩, ?_, ?_⟩ <;> simp only [xrd, rmX7_begins] <;> omega) h 7 0 rfl rfl (st := []) rfl rfl (Nat.le_of_ble_eq_true rfl) dX7_feedsAs_65 rfl (fun F65 G65 h => ?_)
      refine x_iconst (pc' := 69) (v := 0) K dX7_feedsAs_68 (by decide) rfl ?_
      refine x_aload_n (pc' := 70) K dX7_feedsAs_69 0 rfl rfl ?_
      refine x_iconst (pc' := 71) (v := 2) K dX7_feedsAs_70 (by decide) rfl ?_
      refine x_callS (pc' := 74) K (mX7_above l D cI cO a _) rfl gX7_feedsAs_X7_above dsX7_above (by refine ⟨rfl, rfl, ⟨?_, ?_⟩, ?_, ?_⟩ <;> simp only [xrd, rmX7_above] <;> omega) h (st := [.ref (a 0), .int _]) rfl rfl (Nat.le_of_ble_eq_true rfl) dX7_feedsAs_71 rfl (fun r71 h => ?_)
      refine x_iload_n (pc' := 75) K dX7_feedsAs_74 2 rfl rfl ?_
      refine x_callI (pc' := 78) K (hmfeedsAs _ _) rfl gX7_feedsAs_X7_feedsAs rfl dsX7_feedsAs (by refine ⟨rfl, rfl, ⟨?_, ?_⟩, ?_, ?_⟩ <;> simp only [xrd] <;> omega) h 7 0 rfl rfl (st := [.int _]) rfl rfl (Nat.le_of_ble_eq_true rfl) dX7_feedsAs_75 rfl (fun r75 F75 G75 h => ?_)
      refine x_isub (pc' := 79) K dX7_feedsAs_78 rfl ?_
      exact x_iret (wf := w7 cI a) K h dX7_feedsAs_79
    · replace h := h.2 e1_2
      refine (Classical.em (x1 = (5 : Int32))).elim (fun e1 => ?_) (fun e1_3 => ?_)
      · replace h := h.1 e1
        refine x_tableIn (tgt := 80) (off := 79) K dX7_feedsAs_1 (by rw [e1]; decide) (by rw [e1]; decide) (by rw [e1]; rfl) rfl ?_
        refine x_aload_n (pc' := 81) K dX7_feedsAs_80 0 rfl rfl ?_
        refine x_bipush (pc' := 83) (v := 60) K dX7_feedsAs_81 (by decide) rfl ?_
        refine x_callV (pc' := 86) K (mX7_begins l D cI cO a _) rfl gX7_feedsAs_X7_begins rfl dsX7_begins (by refine ⟨rfl, rfl, ⟨?_, ?_⟩, ?_, ?_⟩ <;> simp only [xrd, rmX7_begins] <;> omega) h 7 0 rfl rfl (st := []) rfl rfl (Nat.le_of_ble_eq_true rfl) dX7_feedsAs_83 rfl (fun F83 G83 h => ?_)
        refine x_aload_n (pc' := 87) K dX7_feedsAs_86 0 rfl rfl ?_
        refine x_iconst (pc' := 88) (v := 5) K dX7_feedsAs_87 (by decide) rfl ?_
        refine x_callS (pc' := 91) K (mX7_above l D cI cO a _) rfl gX7_feedsAs_X7_above dsX7_above (by refine ⟨rfl, rfl, ⟨?_, ?_⟩, ?_, ?_⟩ <;> simp only [xrd, rmX7_above] <;> omega) h (st := [.ref (a 0)]) rfl rfl (Nat.le_of_ble_eq_true rfl) dX7_feedsAs_88 rfl (fun r88 h => ?_)
        refine x_iload_n (pc' := 92) K dX7_feedsAs_91 2 rfl rfl ?_
        refine x_iconst (pc' := 93) (v := 1) K dX7_feedsAs_92 (by decide) rfl ?_
        refine x_iadd (pc' := 94) K dX7_feedsAs_93 rfl ?_
        refine x_callI (pc' := 97) K (hmfeedsAs _ _) rfl gX7_feedsAs_X7_feedsAs rfl dsX7_feedsAs (by refine ⟨rfl, rfl, ⟨?_, ?_⟩, ?_, ?_⟩ <;> simp only [xrd] <;> omega) h 7 0 rfl rfl (st := []) rfl rfl (Nat.le_of_ble_eq_true rfl) dX7_feedsAs_94 rfl (fun r94 F94 G94 h => ?_)
        exact x_iret (wf := w7 cI a) K h dX7_feedsAs_97
      · replace h := h.2 e1_3
        refine (Classical.em (x1 = (6 : Int32))).elim (fun e1 => ?_) (fun e1_4 => ?_)
        · replace h := h.1 e1
          refine x_tableIn (tgt := 98) (off := 97) K dX7_feedsAs_1 (by rw [e1]; decide) (by rw [e1]; decide) (by rw [e1]; rfl) rfl ?_
          refine x_aload_n (pc' := 99) K dX7_feedsAs_98 0 rfl rfl ?_
          refine x_bipush (pc' := 101) (v := 71) K dX7_feedsAs_99 (by decide) rfl ?_
          refine x_callV (pc' := 104) K (mX7_begins l D cI cO a _) rfl gX7_feedsAs_X7_begins rfl dsX7_begins (by refine ⟨rfl, rfl, ⟨?_, ?_⟩, ?_, ?_⟩ <;> simp only [xrd, rmX7_begins] <;> omega) h 7 0 rfl rfl (st := []) rfl rfl (Nat.le_of_ble_eq_true rfl) dX7_feedsAs_101 rfl (fun F101 G101 h => ?_)
          refine x_aload_n (pc' := 105) K dX7_feedsAs_104 0 rfl rfl ?_
          refine x_bipush (pc' := 107) (v := 6) K dX7_feedsAs_105 (by decide) rfl ?_
          refine x_callS (pc' := 110) K (mX7_above l D cI cO a _) rfl gX7_feedsAs_X7_above dsX7_above (by refine ⟨rfl, rfl, ⟨?_, ?_⟩, ?_, ?_⟩ <;> simp only [xrd, rmX7_above] <;> omega) h (st := [.ref (a 0)]) rfl rfl (Nat.le_of_ble_eq_true rfl) dX7_feedsAs_107 rfl (fun r107 h => ?_)
          refine x_iload_n (pc' := 111) K dX7_feedsAs_110 2 rfl rfl ?_
          refine x_callI (pc' := 114) K (hmfeedsAs _ _) rfl gX7_feedsAs_X7_feedsAs rfl dsX7_feedsAs (by refine ⟨rfl, rfl, ⟨?_, ?_⟩, ?_, ?_⟩ <;> simp only [xrd] <;> omega) h 7 0 rfl rfl (st := []) rfl rfl (Nat.le_of_ble_eq_true rfl) dX7_feedsAs_111 rfl (fun r111 F111 G111 h => ?_)
          refine x_aload_n (pc' := 115) K dX7_feedsAs_114 0 rfl rfl ?_
          refine x_callI (pc' := 118) K (mX7_mNow l D cI cO a) rfl gX7_feedsAs_X7_mNow rfl dsX7_mNow (by refine ⟨rfl, rfl, ⟨?_, ?_⟩, ?_, ?_⟩ <;> simp only [xrd, rmX7_mNow] <;> omega) h 7 0 rfl rfl (st := [.int _]) rfl rfl (Nat.le_of_ble_eq_true rfl) dX7_feedsAs_115 rfl (fun r115 F115 G115 h => ?_)
          refine x_iadd (pc' := 119) K dX7_feedsAs_118 rfl ?_
          exact x_iret (wf := w7 cI a) K h dX7_feedsAs_119
        · replace h := h.2 e1_4
          have f1_1 := xtin (i := 0) e1_1 (by decide)
          have f1_2 := xtin (i := 2) e1_2 (by decide)
          have f1_3 := xtin (i := 5) e1_3 (by decide)
          have f1_4 := xtin (i := 6) e1_4 (by decide)
          refine (Classical.em (x1.toInt < 0 ∨ 6 < x1.toInt)).elim (fun g1 => ?_) (fun g1 => ?_)
          · refine x_tableOut (tgt := 120) K dX7_feedsAs_1 g1 rfl ?_
            refine x_aload_n (pc' := 121) K dX7_feedsAs_120 0 rfl rfl ?_
            refine x_iload_n (pc' := 122) K dX7_feedsAs_121 1 rfl rfl ?_
            refine x_callS (pc' := 125) K (mX7_above l D cI cO a _) rfl gX7_feedsAs_X7_above dsX7_above (by refine ⟨rfl, rfl, ⟨?_, ?_⟩, ?_, ?_⟩ <;> simp only [xrd, rmX7_above] <;> omega) h (st := [.ref (a 0)]) rfl rfl (Nat.le_of_ble_eq_true rfl) dX7_feedsAs_122 rfl (fun r122 h => ?_)
            refine x_iload_n (pc' := 126) K dX7_feedsAs_125 2 rfl rfl ?_
            refine x_callI (pc' := 129) K (hmfeedsAs _ _) rfl gX7_feedsAs_X7_feedsAs rfl dsX7_feedsAs (by refine ⟨rfl, rfl, ⟨?_, ?_⟩, ?_, ?_⟩ <;> simp only [xrd] <;> omega) h 7 0 rfl rfl (st := []) rfl rfl (Nat.le_of_ble_eq_true rfl) dX7_feedsAs_126 rfl (fun r126 F126 G126 h => ?_)
            exact x_iret (wf := w7 cI a) K h dX7_feedsAs_129
          · have g := not_or.mp g1
            refine x_tableIn (tgt := 120) (off := 119) K dX7_feedsAs_1 g.1 g.2 (xtbl [0, 2, 5, 6] (0) (6) (by decide +kernel) g.1 g.2 (by intro v hv; simp only [List.mem_cons, List.not_mem_nil, or_false] at hv; omega)) rfl ?_
            refine x_aload_n (pc' := 121) K dX7_feedsAs_120 0 rfl rfl ?_
            refine x_iload_n (pc' := 122) K dX7_feedsAs_121 1 rfl rfl ?_
            refine x_callS (pc' := 125) K (mX7_above l D cI cO a _) rfl gX7_feedsAs_X7_above dsX7_above (by refine ⟨rfl, rfl, ⟨?_, ?_⟩, ?_, ?_⟩ <;> simp only [xrd, rmX7_above] <;> omega) h (st := [.ref (a 0)]) rfl rfl (Nat.le_of_ble_eq_true rfl) dX7_feedsAs_122 rfl (fun r122 h => ?_)
            refine x_iload_n (pc' := 126) K dX7_feedsAs_125 2 rfl rfl ?_
            refine x_callI (pc' := 129) K (hmfeedsAs _ _) rfl gX7_feedsAs_X7_feedsAs rfl dsX7_feedsAs (by refine ⟨rfl, rfl, ⟨?_, ?_⟩, ?_, ?_⟩ <;> simp only [xrd] <;> omega) h 7 0 rfl rfl (st := []) rfl rfl (Nat.le_of_ble_eq_true rfl) dX7_feedsAs_126 rfl (fun r126 F126 G126 h => ?_)
            exact x_iret (wf := w7 cI a) K h dX7_feedsAs_129
theorem mX7_feedsAs_d (l : Launch) (D : va_G) (cI cO : ClassId) (a : Nat → Nat) : ∀ (d : Nat) (x1 x2 : Int32), MI l yX7_feedsAs wsX7_feedsAs (xrd (d + 6) 0) D (xtys cI cO) [.ref (a 0), .int x1, .int x2] (w7 cI a) (qX7_feedsAs_d d x1 x2) := by
  intro d
  induction d with
  | zero => exact fun x1 x2 F G sz Q h => False.elim h
  | succ d ih => exact fun x1 x2 => mX7_feedsAs l D cI cO a d ih x1 x2
abbrev rmX7_feedsAsT : Room := { frames := 90, cells := 0, slots := 0, locals := 5300 }
theorem mX7_feedsAsT (l : Launch) (D : va_G) (cI cO : ClassId) (a : Nat → Nat) (x1 x2 : Int32) : MI l yX7_feedsAs wsX7_feedsAs rmX7_feedsAsT D (xtys cI cO) [.ref (a 0), .int x1, .int x2] (w7 cI a) (qX7_feedsAsT x1 x2) := mX7_feedsAs_d l D cI cO a 4 x1 x2
/-! X7_hidesAs -/
theorem dsX7_hidesAs : xDesc yX7_hidesAs 2 := by decide +kernel
theorem uX7_hidesAs_f230 : Cond.fieldLink RX7 230 "PigNinthsModel" "speaks" "I" ∈ wsX7_hidesAs := nw_in nwl_X7_hidesAs nwe_742 (by decide +kernel)
theorem hinX7_hidesAs_X7 : ∀ w ∈ wsX70, w ∈ wsX7_hidesAs := nw_all nwl_X7_hidesAs nwl_X70 (by decide +kernel)
set_option maxHeartbeats 4000000 in
set_option maxRecDepth 100000 in
theorem mX7_hidesAs (l : Launch) (D : va_G) (cI cO : ClassId) (a : Nat → Nat) (d : Nat)  {whidesAs : Int32 → Int32 → xF → xA → (Int32 → xF → xA → Prop) → Prop} (hmhidesAs : ∀ (x1 : Int32) (x2 : Int32), MI l yX7_hidesAs wsX7_hidesAs (xrd (d + 12) 0) D (xtys cI cO) [.ref (a 0), .int x1, .int x2] (w7 cI a) (whidesAs x1 x2)) (x1 : Int32) (x2 : Int32) : MI l yX7_hidesAs wsX7_hidesAs (xrd (d + 13) 0) D (xtys cI cO) [.ref (a 0), .int x1, .int x2] (w7 cI a) (qX7_hidesAs whidesAs x1 x2) := by
  refine MI_of (cc := cX7_hidesAs) (maxL := 3) (own := RX7) (by decide) rfl rfl (Nat.le_of_ble_eq_true rfl) ?_
  intro p e s m args below meth c A F G Q h K
  refine x_locals [0, 1, 2] (L' := [(0, .ref (a 0)), (1, .int _), (2, .int _)]) rfl ?_
  refine x_iload_n (pc' := 1) K dX7_hidesAs_0 1 rfl rfl ?_
  refine (Classical.em (x1 = (0 : Int32))).elim (fun e1 => ?_) (fun e1_1 => ?_)
  · replace h := h.1 e1
    refine x_tableIn (tgt := 36) (off := 35) K dX7_hidesAs_1 (by rw [e1]; decide) (by rw [e1]; decide) (by rw [e1]; rfl) rfl ?_
    refine x_aload_n (pc' := 37) K dX7_hidesAs_36 0 rfl rfl ?_
    refine x_bipush (pc' := 39) (v := 12) K dX7_hidesAs_37 (by decide) rfl ?_
    refine x_callV (pc' := 42) K (mX7_begins l D cI cO a _) rfl gX7_hidesAs_X7_begins rfl dsX7_begins (by refine ⟨rfl, rfl, ⟨?_, ?_⟩, ?_, ?_⟩ <;> simp only [xrd, rmX7_begins] <;> omega) h 7 0 rfl rfl (st := []) rfl rfl (Nat.le_of_ble_eq_true rfl) dX7_hidesAs_39 rfl (fun F39 G39 h => ?_)
    refine x_aload_n (pc' := 43) K dX7_hidesAs_42 0 rfl rfl ?_
    refine x_aload_n (pc' := 44) K dX7_hidesAs_43 0 rfl rfl ?_
    refine x_callI (pc' := 47) K (mX7_kindNow l D cI cO a) rfl gX7_hidesAs_X7_kindNow rfl dsX7_kindNow (by refine ⟨rfl, rfl, ⟨?_, ?_⟩, ?_, ?_⟩ <;> simp only [xrd, rmX7_kindNow] <;> omega) h 7 0 rfl rfl (st := [.ref (a 0)]) rfl rfl (Nat.le_of_ble_eq_true rfl) dX7_hidesAs_44 rfl (fun r44 F44 G44 h => ?_)
    refine x_iload_n (pc' := 48) K dX7_hidesAs_47 2 rfl rfl ?_
    refine x_callI (pc' := 51) K (mX7_feedsAsT l D cI cO a _ _) rfl gX7_hidesAs_X7_feedsAs rfl dsX7_feedsAs (by refine ⟨rfl, rfl, ⟨?_, ?_⟩, ?_, ?_⟩ <;> simp only [xrd, rmX7_feedsAsT] <;> omega) h 7 0 rfl rfl (st := []) rfl rfl (Nat.le_of_ble_eq_true rfl) dX7_hidesAs_48 rfl (fun r48 F48 G48 h => ?_)
    refine x_aload_n (pc' := 52) K dX7_hidesAs_51 0 rfl rfl ?_
    refine x_callI (pc' := 55) K (mX7_mNow l D cI cO a) rfl gX7_hidesAs_X7_mNow rfl dsX7_mNow (by refine ⟨rfl, rfl, ⟨?_, ?_⟩, ?_, ?_⟩ <;> simp only [xrd, rmX7_mNow] <;> omega) h 7 0 rfl rfl (st := [.int _]) rfl rfl (Nat.le_of_ble_eq_true rfl) dX7_hidesAs_52 rfl (fun r52 F52 G52 h => ?_)
    refine x_isub (pc' := 56) K dX7_hidesAs_55 rfl ?_
    exact x_iret (wf := w7 cI a) K h dX7_hidesAs_56
  · replace h := h.2 e1_1
    refine (Classical.em (x1 = (3 : Int32))).elim (fun e1 => ?_) (fun e1_2 => ?_)
    · replace h := h.1 e1
      refine x_tableIn (tgt := 57) (off := 56) K dX7_hidesAs_1 (by rw [e1]; decide) (by rw [e1]; decide) (by rw [e1]; rfl) rfl ?_
      refine x_aload_n (pc' := 58) K dX7_hidesAs_57 0 rfl rfl ?_
      refine x_bipush (pc' := 60) (v := 40) K dX7_hidesAs_58 (by decide) rfl ?_
      refine x_callV (pc' := 63) K (mX7_begins l D cI cO a _) rfl gX7_hidesAs_X7_begins rfl dsX7_begins (by refine ⟨rfl, rfl, ⟨?_, ?_⟩, ?_, ?_⟩ <;> simp only [xrd, rmX7_begins] <;> omega) h 7 0 rfl rfl (st := []) rfl rfl (Nat.le_of_ble_eq_true rfl) dX7_hidesAs_60 rfl (fun F60 G60 h => ?_)
      refine x_aload_n (pc' := 64) K dX7_hidesAs_63 0 rfl rfl ?_
      refine x_iconst (pc' := 65) (v := 3) K dX7_hidesAs_64 (by decide) rfl ?_
      refine x_callS (pc' := 68) K (mX7_above l D cI cO a _) rfl gX7_hidesAs_X7_above dsX7_above (by refine ⟨rfl, rfl, ⟨?_, ?_⟩, ?_, ?_⟩ <;> simp only [xrd, rmX7_above] <;> omega) h (st := [.ref (a 0)]) rfl rfl (Nat.le_of_ble_eq_true rfl) dX7_hidesAs_65 rfl (fun r65 h => ?_)
      refine x_iload_n (pc' := 69) K dX7_hidesAs_68 2 rfl rfl ?_
      refine x_iconst (pc' := 70) (v := 2) K dX7_hidesAs_69 (by decide) rfl ?_
      refine x_idiv (pc' := 71) K dX7_hidesAs_70 (by decide) rfl ?_
      refine x_callI (pc' := 74) K (hmhidesAs _ _) rfl gX7_hidesAs_X7_hidesAs rfl dsX7_hidesAs (by refine ⟨rfl, rfl, ⟨?_, ?_⟩, ?_, ?_⟩ <;> simp only [xrd] <;> omega) h 7 0 rfl rfl (st := []) rfl rfl (Nat.le_of_ble_eq_true rfl) dX7_hidesAs_71 rfl (fun r71 F71 G71 h => ?_)
      exact x_iret (wf := w7 cI a) K h dX7_hidesAs_74
    · replace h := h.2 e1_2
      refine (Classical.em (x1 = (4 : Int32))).elim (fun e1 => ?_) (fun e1_3 => ?_)
      · replace h := h.1 e1
        refine x_tableIn (tgt := 75) (off := 74) K dX7_hidesAs_1 (by rw [e1]; decide) (by rw [e1]; decide) (by rw [e1]; rfl) rfl ?_
        refine x_aload_n (pc' := 76) K dX7_hidesAs_75 0 rfl rfl ?_
        refine x_bipush (pc' := 78) (v := 51) K dX7_hidesAs_76 (by decide) rfl ?_
        refine x_callV (pc' := 81) K (mX7_begins l D cI cO a _) rfl gX7_hidesAs_X7_begins rfl dsX7_begins (by refine ⟨rfl, rfl, ⟨?_, ?_⟩, ?_, ?_⟩ <;> simp only [xrd, rmX7_begins] <;> omega) h 7 0 rfl rfl (st := []) rfl rfl (Nat.le_of_ble_eq_true rfl) dX7_hidesAs_78 rfl (fun F78 G78 h => ?_)
        refine x_aload_n (pc' := 82) K dX7_hidesAs_81 0 rfl rfl ?_
        refine x_iconst (pc' := 83) (v := 4) K dX7_hidesAs_82 (by decide) rfl ?_
        refine x_callS (pc' := 86) K (mX7_above l D cI cO a _) rfl gX7_hidesAs_X7_above dsX7_above (by refine ⟨rfl, rfl, ⟨?_, ?_⟩, ?_, ?_⟩ <;> simp only [xrd, rmX7_above] <;> omega) h (st := [.ref (a 0)]) rfl rfl (Nat.le_of_ble_eq_true rfl) dX7_hidesAs_83 rfl (fun r83 h => ?_)
        refine x_iload_n (pc' := 87) K dX7_hidesAs_86 2 rfl rfl ?_
        refine x_callI (pc' := 90) K (hmhidesAs _ _) rfl gX7_hidesAs_X7_hidesAs rfl dsX7_hidesAs (by refine ⟨rfl, rfl, ⟨?_, ?_⟩, ?_, ?_⟩ <;> simp only [xrd] <;> omega) h 7 0 rfl rfl (st := []) rfl rfl (Nat.le_of_ble_eq_true rfl) dX7_hidesAs_87 rfl (fun r87 F87 G87 h => ?_)
        refine x_aload_n (pc' := 91) K dX7_hidesAs_90 0 rfl rfl ?_
        refine xw7_0g_speaks (pc' := 94) K hinX7_hidesAs_X7 uX7_hidesAs_f230 dX7_hidesAs_91 rfl ?_
        refine x_ixor (pc' := 95) K dX7_hidesAs_94 rfl ?_
        exact x_iret (wf := w7 cI a) K h dX7_hidesAs_95
      · replace h := h.2 e1_3
        have f1_1 := xtin (i := 0) e1_1 (by decide)
        have f1_2 := xtin (i := 3) e1_2 (by decide)
        have f1_3 := xtin (i := 4) e1_3 (by decide)
        refine (Classical.em (x1.toInt < 0 ∨ 4 < x1.toInt)).elim (fun g1 => ?_) (fun g1 => ?_)
        · refine x_tableOut (tgt := 96) K dX7_hidesAs_1 g1 rfl ?_
          refine x_aload_n (pc' := 97) K dX7_hidesAs_96 0 rfl rfl ?_
          refine x_iload_n (pc' := 98) K dX7_hidesAs_97 1 rfl rfl ?_
          refine x_callS (pc' := 101) K (mX7_above l D cI cO a _) rfl gX7_hidesAs_X7_above dsX7_above (by refine ⟨rfl, rfl, ⟨?_, ?_⟩, ?_, ?_⟩ <;> simp only [xrd, rmX7_above] <;> omega) h (st := [.ref (a 0)]) rfl rfl (Nat.le_of_ble_eq_true rfl) dX7_hidesAs_98 rfl (fun r98 h => ?_)
          refine x_iload_n (pc' := 102) K dX7_hidesAs_101 2 rfl rfl ?_
          refine x_callI (pc' := 105) K (hmhidesAs _ _) rfl gX7_hidesAs_X7_hidesAs rfl dsX7_hidesAs (by refine ⟨rfl, rfl, ⟨?_, ?_⟩, ?_, ?_⟩ <;> simp only [xrd] <;> omega) h 7 0 rfl rfl (st := []) rfl rfl (Nat.le_of_ble_eq_true rfl) dX7_hidesAs_102 rfl (fun r102 F102 G102 h => ?_)
          exact x_iret (wf := w7 cI a) K h dX7_hidesAs_105
        · have g := not_or.mp g1
          refine x_tableIn (tgt := 96) (off := 95) K dX7_hidesAs_1 g.1 g.2 (xtbl [0, 3, 4] (0) (4) (by decide +kernel) g.1 g.2 (by intro v hv; simp only [List.mem_cons, List.not_mem_nil, or_false] at hv; omega)) rfl ?_
          refine x_aload_n (pc' := 97) K dX7_hidesAs_96 0 rfl rfl ?_
          refine x_iload_n (pc' := 98) K dX7_hidesAs_97 1 rfl rfl ?_
          refine x_callS (pc' := 101) K (mX7_above l D cI cO a _) rfl gX7_hidesAs_X7_above dsX7_above (by refine ⟨rfl, rfl, ⟨?_, ?_⟩, ?_, ?_⟩ <;> simp only [xrd, rmX7_above] <;> omega) h (st := [.ref (a 0)]) rfl rfl (Nat.le_of_ble_eq_true rfl) dX7_hidesAs_98 rfl (fun r98 h => ?_)
          refine x_iload_n (pc' := 102) K dX7_hidesAs_101 2 rfl rfl ?_
          refine x_callI (pc' := 105) K (hmhidesAs _ _) rfl gX7_hidesAs_X7_hidesAs rfl dsX7_hidesAs (by refine ⟨rfl, rfl, ⟨?_, ?_⟩, ?_, ?_⟩ <;> simp only [xrd] <;> omega) h 7 0 rfl rfl (st := []) rfl rfl (Nat.le_of_ble_eq_true rfl) dX7_hidesAs_102 rfl (fun r102 F102 G102 h => ?_)
          exact x_iret (wf := w7 cI a) K h dX7_hidesAs_105
theorem mX7_hidesAs_d (l : Launch) (D : va_G) (cI cO : ClassId) (a : Nat → Nat) : ∀ (d : Nat) (x1 x2 : Int32), MI l yX7_hidesAs wsX7_hidesAs (xrd (d + 12) 0) D (xtys cI cO) [.ref (a 0), .int x1, .int x2] (w7 cI a) (qX7_hidesAs_d d x1 x2) := by
  intro d
  induction d with
  | zero => exact fun x1 x2 F G sz Q h => False.elim h
  | succ d ih => exact fun x1 x2 => mX7_hidesAs l D cI cO a d ih x1 x2
abbrev rmX7_hidesAsT : Room := { frames := 138, cells := 0, slots := 0, locals := 8300 }
theorem mX7_hidesAsT (l : Launch) (D : va_G) (cI cO : ClassId) (a : Nat → Nat) (x1 x2 : Int32) : MI l yX7_hidesAs wsX7_hidesAs rmX7_hidesAsT D (xtys cI cO) [.ref (a 0), .int x1, .int x2] (w7 cI a) (qX7_hidesAsT x1 x2) := mX7_hidesAs_d l D cI cO a 4 x1 x2
/-! X7_partsAs -/
theorem dsX7_partsAs : xDesc yX7_partsAs 2 := by decide +kernel
theorem uX7_partsAs_f230 : Cond.fieldLink RX7 230 "PigNinthsModel" "speaks" "I" ∈ wsX7_partsAs := nw_in nwl_X7_partsAs nwe_742 (by decide +kernel)
theorem hinX7_partsAs_X7 : ∀ w ∈ wsX70, w ∈ wsX7_partsAs := nw_all nwl_X7_partsAs nwl_X70 (by decide +kernel)
theorem uX7_partsAs_f255 : Cond.fieldLink RX7 255 "PigNinthsModel" "isParted" "Z" ∈ wsX7_partsAs := nw_in nwl_X7_partsAs nwe_767 (by decide +kernel)
set_option maxHeartbeats 4000000 in
set_option maxRecDepth 100000 in
theorem tX7_partsAs_54 (K : XK p m c cX7_partsAs 5 s args wsX7_partsAs RX7 D (xtys cI cO) A meth (some .int)) {wpartsAs : Int32 → Int32 → xF → xA → (Int32 → xF → xA → Prop) → Prop} (hmpartsAs : ∀ (x1 : Int32) (x2 : Int32), MI l yX7_partsAs wsX7_partsAs (xrd (d + 12) 0) D (xtys cI cO) [.ref (a 0), .int x1, .int x2] (w7 cI a) (wpartsAs x1 x2)) {Q : Int32 → xF → xA → Prop} : ∀ (x2 : Int32) (x3 : Int32) (y0 : Int32) (F : xF) (G : xA), qX7_partsAs_54 wpartsAs Q x2 x3 y0 F G → XJ p l e (xrd (d + 13) 0) s m args below meth c 0 0 (MQ below (xQi D (w7 cI a) A Q) args s 0 0 A) D (xtys cI cO) A 5 (w7 cI a F G) 54 [(2, .int x2), (3, .int x3)] [.int y0, .ref (a 0)] := by
  intro x2 x3 y0 F G h
  obtain ⟨z54, h⟩ := h
  refine xw7_0p_isParted (pc' := 57) K hinX7_partsAs_X7 uX7_partsAs_f255 z54 dX7_partsAs_54 rfl (fun F54 eF54 => ?_)
  replace h := h F54 eF54
  refine x_iload_n (pc' := 58) K dX7_partsAs_57 1 rfl rfl ?_
  refine x_if_ne (tgt := 65) (pc' := 61) K dX7_partsAs_58 rfl rfl (fun c58 => ?_) (fun c58 => ?_)
  · replace h := h.1 c58
    refine x_iload_n (pc' := 66) K dX7_partsAs_65 1 rfl rfl ?_
    refine x_iconst (pc' := 67) (v := -1) K dX7_partsAs_66 (by decide) rfl ?_
    refine x_icmp_ne (tgt := 75) (pc' := 70) K dX7_partsAs_67 rfl rfl (fun c67 => ?_) (fun c67 => ?_)
    · replace h := h.1 c67
      refine x_iload_n (pc' := 76) K dX7_partsAs_75 0 rfl rfl ?_
      refine x_iload_n (pc' := 77) K dX7_partsAs_76 1 rfl rfl ?_
      obtain ⟨z77, h⟩ := h
      refine x_idiv (pc' := 78) K dX7_partsAs_77 z77 rfl ?_
      exact x_iret (wf := w7 cI a) K h dX7_partsAs_78
    · replace h := h.2 c67
      refine x_iload_n (pc' := 71) K dX7_partsAs_70 0 rfl rfl ?_
      refine x_ineg (pc' := 72) K dX7_partsAs_71 rfl ?_
      refine x_goto (tgt := 78) K dX7_partsAs_72 rfl ?_
      exact x_iret (wf := w7 cI a) K h dX7_partsAs_78
  · replace h := h.2 c58
    refine x_iconst (pc' := 62) (v := 0) K dX7_partsAs_61 (by decide) rfl ?_
    refine x_goto (tgt := 78) K dX7_partsAs_62 rfl ?_
    exact x_iret (wf := w7 cI a) K h dX7_partsAs_78
set_option maxHeartbeats 4000000 in
set_option maxRecDepth 100000 in
theorem mX7_partsAs (l : Launch) (D : va_G) (cI cO : ClassId) (a : Nat → Nat) (d : Nat)  {wpartsAs : Int32 → Int32 → xF → xA → (Int32 → xF → xA → Prop) → Prop} (hmpartsAs : ∀ (x1 : Int32) (x2 : Int32), MI l yX7_partsAs wsX7_partsAs (xrd (d + 12) 0) D (xtys cI cO) [.ref (a 0), .int x1, .int x2] (w7 cI a) (wpartsAs x1 x2)) (x1 : Int32) (x2 : Int32) : MI l yX7_partsAs wsX7_partsAs (xrd (d + 13) 0) D (xtys cI cO) [.ref (a 0), .int x1, .int x2] (w7 cI a) (qX7_partsAs wpartsAs x1 x2) := by
  refine MI_of (cc := cX7_partsAs) (maxL := 5) (own := RX7) (by decide) rfl rfl (Nat.le_of_ble_eq_true rfl) ?_
  intro p e s m args below meth c A F G Q h K
  refine x_locals [0, 1, 2] (L' := [(0, .ref (a 0)), (1, .int _), (2, .int _)]) rfl ?_
  refine x_iload_n (pc' := 1) K dX7_partsAs_0 1 rfl rfl ?_
  refine (Classical.em (x1 = (0 : Int32))).elim (fun e1 => ?_) (fun e1_1 => ?_)
  · replace h := h.1 e1
    refine x_lookup (tgt := 28) (off := 27) K dX7_partsAs_1 (by decide) (by rw [e1]; rfl) rfl ?_
    refine x_aload_n (pc' := 29) K dX7_partsAs_28 0 rfl rfl ?_
    refine x_bipush (pc' := 31) (v := 13) K dX7_partsAs_29 (by decide) rfl ?_
    refine x_callV (pc' := 34) K (mX7_begins l D cI cO a _) rfl gX7_partsAs_X7_begins rfl dsX7_begins (by refine ⟨rfl, rfl, ⟨?_, ?_⟩, ?_, ?_⟩ <;> simp only [xrd, rmX7_begins] <;> omega) h 7 0 rfl rfl (st := []) rfl rfl (Nat.le_of_ble_eq_true rfl) dX7_partsAs_31 rfl (fun F31 G31 h => ?_)
    refine x_aload_n (pc' := 35) K dX7_partsAs_34 0 rfl rfl ?_
    refine x_callI (pc' := 38) K (mX7_mNow l D cI cO a) rfl gX7_partsAs_X7_mNow rfl dsX7_mNow (by refine ⟨rfl, rfl, ⟨?_, ?_⟩, ?_, ?_⟩ <;> simp only [xrd, rmX7_mNow] <;> omega) h 7 0 rfl rfl (st := []) rfl rfl (Nat.le_of_ble_eq_true rfl) dX7_partsAs_35 rfl (fun r35 F35 G35 h => ?_)
    refine x_aload_n (pc' := 39) K dX7_partsAs_38 0 rfl rfl ?_
    refine xw7_0g_speaks (pc' := 42) K hinX7_partsAs_X7 uX7_partsAs_f230 dX7_partsAs_39 rfl ?_
    refine x_isub (pc' := 43) K dX7_partsAs_42 rfl ?_
    refine x_istore_n (pc' := 44) (i := 3) K dX7_partsAs_43 rfl (by decide) [1, 2, 3, 0] (L' := [(0, .ref (a 0)), (1, .int _), (2, .int _), (3, .int _)]) rfl rfl ?_
    refine x_aload_n (pc' := 45) K dX7_partsAs_44 0 rfl rfl ?_
    refine x_iload_n (pc' := 46) K dX7_partsAs_45 3 rfl rfl ?_
    refine x_if_ne (tgt := 53) (pc' := 49) K dX7_partsAs_46 rfl rfl (fun c46 => ?_) (fun c46 => ?_)
    · replace h := h.1 c46
      refine x_iconst (pc' := 54) (v := 0) K dX7_partsAs_53 (by decide) rfl ?_
      refine x_locals [2, 3] (L' := [(2, .int _), (3, .int _)]) rfl ?_
      exact tX7_partsAs_54 K hmpartsAs _ _ _ _ _ h
    · replace h := h.2 c46
      refine x_iconst (pc' := 50) (v := 1) K dX7_partsAs_49 (by decide) rfl ?_
      refine x_goto (tgt := 54) K dX7_partsAs_50 rfl ?_
      refine x_locals [2, 3] (L' := [(2, .int _), (3, .int _)]) rfl ?_
      exact tX7_partsAs_54 K hmpartsAs _ _ _ _ _ h
  · replace h := h.2 e1_1
    refine (Classical.em (x1 = (1 : Int32))).elim (fun e1 => ?_) (fun e1_2 => ?_)
    · replace h := h.1 e1
      refine x_lookup (tgt := 79) (off := 78) K dX7_partsAs_1 (by decide) (by rw [e1]; rfl) rfl ?_
      refine x_aload_n (pc' := 80) K dX7_partsAs_79 0 rfl rfl ?_
      refine x_bipush (pc' := 82) (v := 21) K dX7_partsAs_80 (by decide) rfl ?_
      refine x_callV (pc' := 85) K (mX7_begins l D cI cO a _) rfl gX7_partsAs_X7_begins rfl dsX7_begins (by refine ⟨rfl, rfl, ⟨?_, ?_⟩, ?_, ?_⟩ <;> simp only [xrd, rmX7_begins] <;> omega) h 7 0 rfl rfl (st := []) rfl rfl (Nat.le_of_ble_eq_true rfl) dX7_partsAs_82 rfl (fun F82 G82 h => ?_)
      refine x_aload_n (pc' := 86) K dX7_partsAs_85 0 rfl rfl ?_
      refine x_iconst (pc' := 87) (v := 1) K dX7_partsAs_86 (by decide) rfl ?_
      refine x_callS (pc' := 90) K (mX7_above l D cI cO a _) rfl gX7_partsAs_X7_above dsX7_above (by refine ⟨rfl, rfl, ⟨?_, ?_⟩, ?_, ?_⟩ <;> simp only [xrd, rmX7_above] <;> omega) h (st := [.ref (a 0)]) rfl rfl (Nat.le_of_ble_eq_true rfl) dX7_partsAs_87 rfl (fun r87 h => ?_)
      refine x_iload_n (pc' := 91) K dX7_partsAs_90 2 rfl rfl ?_
      refine x_callI (pc' := 94) K (hmpartsAs _ _) rfl gX7_partsAs_X7_partsAs rfl dsX7_partsAs (by refine ⟨rfl, rfl, ⟨?_, ?_⟩, ?_, ?_⟩ <;> simp only [xrd] <;> omega) h 7 0 rfl rfl (st := []) rfl rfl (Nat.le_of_ble_eq_true rfl) dX7_partsAs_91 rfl (fun r91 F91 G91 h => ?_)
      refine x_istore (pc' := 96) (i := 4) K dX7_partsAs_94 (by decide) [1, 2, 3, 0] (L' := [(0, .ref (a 0)), (1, .int _), (2, .int _), (4, .int _)]) rfl rfl ?_
      refine x_aload_n (pc' := 97) K dX7_partsAs_96 0 rfl rfl ?_
      refine xw7_0g_isParted (pc' := 100) K hinX7_partsAs_X7 uX7_partsAs_f255 dX7_partsAs_97 rfl ?_
      refine x_if_eq (tgt := 107) (pc' := 103) K dX7_partsAs_100 rfl rfl (fun c100 => ?_) (fun c100 => ?_)
      · replace h := h.1 c100
        refine x_iload (pc' := 109) K dX7_partsAs_107 3 rfl rfl ?_
        refine x_aload_n (pc' := 110) K dX7_partsAs_109 0 rfl rfl ?_
        refine x_aload_n (pc' := 111) K dX7_partsAs_110 0 rfl rfl ?_
        refine x_callI (pc' := 114) K (mX7_kindNow l D cI cO a) rfl gX7_partsAs_X7_kindNow rfl dsX7_kindNow (by refine ⟨rfl, rfl, ⟨?_, ?_⟩, ?_, ?_⟩ <;> simp only [xrd, rmX7_kindNow] <;> omega) h 7 0 rfl rfl (st := [.ref (a 0), .int _]) rfl rfl (Nat.le_of_ble_eq_true rfl) dX7_partsAs_111 rfl (fun r111 F111 G111 h => ?_)
        refine x_iconst (pc' := 115) (v := 1) K dX7_partsAs_114 (by decide) rfl ?_
        refine x_callI (pc' := 118) K (mX7_feedsAsT l D cI cO a _ _) rfl gX7_partsAs_X7_feedsAs rfl dsX7_feedsAs (by refine ⟨rfl, rfl, ⟨?_, ?_⟩, ?_, ?_⟩ <;> simp only [xrd, rmX7_feedsAsT] <;> omega) h 7 0 rfl rfl (st := [.int _]) rfl rfl (Nat.le_of_ble_eq_true rfl) dX7_partsAs_115 rfl (fun r115 F115 G115 h => ?_)
        refine x_iadd (pc' := 119) K dX7_partsAs_118 rfl ?_
        exact x_iret (wf := w7 cI a) K h dX7_partsAs_119
      · replace h := h.2 c100
        refine x_iconst (pc' := 104) (v := 0) K dX7_partsAs_103 (by decide) rfl ?_
        refine x_goto (tgt := 119) K dX7_partsAs_104 rfl ?_
        exact x_iret (wf := w7 cI a) K h dX7_partsAs_119
    · replace h := h.2 e1_2
      have f1_1 := xtin (i := 0) e1_1 (by decide)
      have f1_2 := xtin (i := 1) e1_2 (by decide)
      refine x_lookup (tgt := 120) (off := 119) K dX7_partsAs_1 (by decide) (by simp only [Op.lookupswitch.offset, if_neg (Ne.symm f1_1), if_neg (Ne.symm f1_2)]) rfl ?_
      refine x_aload_n (pc' := 121) K dX7_partsAs_120 0 rfl rfl ?_
      refine x_iload_n (pc' := 122) K dX7_partsAs_121 1 rfl rfl ?_
      refine x_callS (pc' := 125) K (mX7_above l D cI cO a _) rfl gX7_partsAs_X7_above dsX7_above (by refine ⟨rfl, rfl, ⟨?_, ?_⟩, ?_, ?_⟩ <;> simp only [xrd, rmX7_above] <;> omega) h (st := [.ref (a 0)]) rfl rfl (Nat.le_of_ble_eq_true rfl) dX7_partsAs_122 rfl (fun r122 h => ?_)
      refine x_iload_n (pc' := 126) K dX7_partsAs_125 2 rfl rfl ?_
      refine x_callI (pc' := 129) K (hmpartsAs _ _) rfl gX7_partsAs_X7_partsAs rfl dsX7_partsAs (by refine ⟨rfl, rfl, ⟨?_, ?_⟩, ?_, ?_⟩ <;> simp only [xrd] <;> omega) h 7 0 rfl rfl (st := []) rfl rfl (Nat.le_of_ble_eq_true rfl) dX7_partsAs_126 rfl (fun r126 F126 G126 h => ?_)
      exact x_iret (wf := w7 cI a) K h dX7_partsAs_129
theorem mX7_partsAs_d (l : Launch) (D : va_G) (cI cO : ClassId) (a : Nat → Nat) : ∀ (d : Nat) (x1 x2 : Int32), MI l yX7_partsAs wsX7_partsAs (xrd (d + 12) 0) D (xtys cI cO) [.ref (a 0), .int x1, .int x2] (w7 cI a) (qX7_partsAs_d d x1 x2) := by
  intro d
  induction d with
  | zero => exact fun x1 x2 F G sz Q h => False.elim h
  | succ d ih => exact fun x1 x2 => mX7_partsAs l D cI cO a d ih x1 x2
abbrev rmX7_partsAsT : Room := { frames := 138, cells := 0, slots := 0, locals := 8300 }
theorem mX7_partsAsT (l : Launch) (D : va_G) (cI cO : ClassId) (a : Nat → Nat) (x1 x2 : Int32) : MI l yX7_partsAs wsX7_partsAs rmX7_partsAsT D (xtys cI cO) [.ref (a 0), .int x1, .int x2] (w7 cI a) (qX7_partsAsT x1 x2) := mX7_partsAs_d l D cI cO a 4 x1 x2
/-! X7_text -/
abbrev rmX7_text : Room := { frames := 64, cells := 0, slots := 0, locals := 3720 }
theorem dsX7_text : xDesc yX7_text 1 := by decide +kernel
theorem uX7_text_f85 : Cond.fieldLink RX7 85 "PigNinthsModel" "use" "I" ∈ wsX7_text := nw_in nwl_X7_text nwe_564 (by decide +kernel)
theorem hinX7_text_X7 : ∀ w ∈ wsX70, w ∈ wsX7_text := nw_all nwl_X7_text nwl_X70 (by decide +kernel)
theorem uX7_text_f82 : Cond.fieldLink RX7 82 "PigNinthsModel" "at" "I" ∈ wsX7_text := nw_in nwl_X7_text nwe_562 (by decide +kernel)
theorem uX7_text_f115 : Cond.fieldLink RX7 115 "PigNinthsModel" "open" "I" ∈ wsX7_text := nw_in nwl_X7_text nwe_568 (by decide +kernel)
theorem uX7_text_f88 : Cond.fieldLink RX7 88 "PigNinthsModel" "steps" "I" ∈ wsX7_text := nw_in nwl_X7_text nwe_566 (by decide +kernel)
theorem uX7_text_f7 : Cond.fieldLink RX7 7 "PigNinthsModel" "s" "[I" ∈ wsX7_text := nw_in nwl_X7_text nwe_514 (by decide +kernel)
theorem uX7_text_f22 : Cond.fieldLink RX7 22 "PigNinthsModel" "step" "[I" ∈ wsX7_text := nw_in nwl_X7_text nwe_519 (by decide +kernel)
set_option maxHeartbeats 4000000 in
set_option maxRecDepth 100000 in
theorem tX7_text_101 (K : XK p m c cX7_text 5 s args wsX7_text RX7 D (xtys cI cO) A meth (some .int)) {Q : Int32 → xF → xA → Prop} : ∀ (n : Nat), ∀ (x3 : Int32) (x4 : Int32) (F : xF) (G : xA), qX7_text_101 Q n x3 x4 F G → XJ p l e rmX7_text s m args below meth c 0 0 (MQ below (xQi D (w7 cI a) A Q) args s 0 0 A) D (xtys cI cO) A 5 (w7 cI a F G) 101 [(0, .ref (a 0)), (3, .int x3), (4, .int x4)] [] := by
  intro n
  induction n with
  | zero =>
    intro x3 x4 F G h
    exact False.elim h
  | succ n ih =>
    intro x3 x4 F G h
    refine x_iload (pc' := 103) K dX7_text_101 2 rfl rfl ?_
    refine x_iconst (pc' := 104) (v := 2) K dX7_text_103 (by decide) rfl ?_
    refine x_aload_n (pc' := 105) K dX7_text_104 0 rfl rfl ?_
    refine xw7_0g_steps (pc' := 108) K hinX7_text_X7 uX7_text_f88 dX7_text_105 rfl ?_
    refine x_imul (pc' := 109) K dX7_text_108 rfl ?_
    refine x_icmp_ge (tgt := 136) (pc' := 112) K dX7_text_109 rfl rfl (fun c109 => ?_) (fun c109 => ?_)
    · replace h := h.1 c109
      refine x_iconst (pc' := 137) (v := 1) K dX7_text_136 (by decide) rfl ?_
      exact x_iret (wf := w7 cI a) K h dX7_text_137
    · replace h := h.2 c109
      refine x_aload_n (pc' := 113) K dX7_text_112 0 rfl rfl ?_
      refine xw7_0g_s (pc' := 116) K hinX7_text_X7 uX7_text_f7 dX7_text_113 rfl ?_
      refine x_iload_n (pc' := 117) K dX7_text_116 1 rfl rfl ?_
      refine x_iconst (pc' := 118) (v := 1) K dX7_text_117 (by decide) rfl ?_
      refine x_iadd (pc' := 119) K dX7_text_118 rfl ?_
      refine x_iload (pc' := 121) K dX7_text_119 2 rfl rfl ?_
      refine x_iadd (pc' := 122) K dX7_text_121 rfl ?_
      refine x_aload_n (pc' := 123) K dX7_text_122 0 rfl rfl ?_
      refine xw7_0g_step (pc' := 126) K hinX7_text_X7 uX7_text_f22 dX7_text_123 rfl ?_
      refine x_iload (pc' := 128) K dX7_text_126 2 rfl rfl ?_
      obtain ⟨i128, h⟩ := h
      refine xw7_5l (pc' := 129) K i128 rfl dX7_text_128 rfl ?_
      obtain ⟨i129, h⟩ := h
      refine xw7_1s (pc' := 130) K i129 rfl dX7_text_129 rfl (fun G129 eG129 => ?_)
      replace h := h G129 eG129
      refine x_iinc (pc' := 133) (v := _ + (1 : Int32)) K dX7_text_130 2 rfl rfl (by decide) [1, 2, 0] (L' := [(0, .ref (a 0)), (3, .int _), (4, .int _)]) rfl rfl ?_
      refine x_goto (tgt := 101) K dX7_text_133 rfl ?_
      exact ih _ _ _ _ h
set_option maxHeartbeats 4000000 in
set_option maxRecDepth 100000 in
theorem tX7_text_60 (K : XK p m c cX7_text 5 s args wsX7_text RX7 D (xtys cI cO) A meth (some .int)) {Q : Int32 → xF → xA → Prop} : ∀ (x1 : Int32) (y0 : Int32) (F : xF) (G : xA), qX7_text_60 Q x1 y0 F G → XJ p l e rmX7_text s m args below meth c 0 0 (MQ below (xQi D (w7 cI a) A Q) args s 0 0 A) D (xtys cI cO) A 5 (w7 cI a F G) 60 [(0, .ref (a 0)), (1, .int x1)] [.int y0] := by
  intro x1 y0 F G h
  refine x_istore_n (pc' := 61) (i := 2) K dX7_text_60 rfl (by decide) [1, 2, 0] (L' := [(0, .ref (a 0)), (1, .int _), (2, .int _)]) rfl rfl ?_
  refine x_aload_n (pc' := 62) K dX7_text_61 0 rfl rfl ?_
  refine xw7_0g_s (pc' := 65) K hinX7_text_X7 uX7_text_f7 dX7_text_62 rfl ?_
  refine x_iconst (pc' := 66) (v := 4) K dX7_text_65 (by decide) rfl ?_
  refine x_iconst (pc' := 67) (v := 0) K dX7_text_66 (by decide) rfl ?_
  refine xw7_1s (pc' := 68) K (j := 4) (xin_of (by decide +kernel)) (by decide +kernel) dX7_text_67 rfl (fun G67 eG67 => ?_)
  replace h := h G67 eG67
  refine x_iload_n (pc' := 69) K dX7_text_68 2 rfl rfl ?_
  refine x_if_ne (tgt := 80) (pc' := 72) K dX7_text_69 rfl rfl (fun c69 => ?_) (fun c69 => ?_)
  · replace h := h.1 c69
    refine x_bipush (pc' := 82) (v := 121) K dX7_text_80 (by decide) rfl ?_
    refine x_bipush (pc' := 84) (v := 125) K dX7_text_82 (by decide) rfl ?_
    refine x_iload_n (pc' := 85) K dX7_text_84 1 rfl rfl ?_
    refine x_imul (pc' := 86) K dX7_text_85 rfl ?_
    refine x_iadd (pc' := 87) K dX7_text_86 rfl ?_
    refine x_istore_n (pc' := 88) (i := 3) K dX7_text_87 rfl (by decide) [1, 2, 3, 0] (L' := [(0, .ref (a 0)), (1, .int _), (2, .int _), (3, .int _)]) rfl rfl ?_
    refine x_aload_n (pc' := 89) K dX7_text_88 0 rfl rfl ?_
    refine xw7_0g_s (pc' := 92) K hinX7_text_X7 uX7_text_f7 dX7_text_89 rfl ?_
    refine x_iload_n (pc' := 93) K dX7_text_92 3 rfl rfl ?_
    refine x_aload_n (pc' := 94) K dX7_text_93 0 rfl rfl ?_
    refine xw7_0g_steps (pc' := 97) K hinX7_text_X7 uX7_text_f88 dX7_text_94 rfl ?_
    obtain ⟨i97, h⟩ := h
    refine xw7_1s (pc' := 98) K i97 rfl dX7_text_97 rfl (fun G97 eG97 => ?_)
    replace h := h G97 eG97
    refine x_iconst (pc' := 99) (v := 0) K dX7_text_98 (by decide) rfl ?_
    refine x_istore (pc' := 101) (i := 4) K dX7_text_99 (by decide) [1, 2, 3, 4, 0] (L' := [(0, .ref (a 0)), (1, .int _), (2, .int _), (3, .int _), (4, .int _)]) rfl rfl ?_
    refine x_locals [0, 3, 4] (L' := [(0, .ref (a 0)), (3, .int _), (4, .int _)]) rfl ?_
    obtain ⟨n101, h⟩ := h
    exact tX7_text_101 K n101 _ _ _ _ h
  · replace h := h.2 c69
    refine x_bipush (pc' := 74) (v := -10) K dX7_text_72 (by decide) rfl ?_
    refine x_aload_n (pc' := 75) K dX7_text_74 0 rfl rfl ?_
    refine xw7_0g_at (pc' := 78) K hinX7_text_X7 uX7_text_f82 dX7_text_75 rfl ?_
    refine x_isub (pc' := 79) K dX7_text_78 rfl ?_
    exact x_iret (wf := w7 cI a) K h dX7_text_79
set_option maxHeartbeats 4000000 in
set_option maxRecDepth 100000 in
theorem mX7_text (l : Launch) (D : va_G) (cI cO : ClassId) (a : Nat → Nat)  (x1 : Int32) : MI l yX7_text wsX7_text rmX7_text D (xtys cI cO) [.ref (a 0), .int x1] (w7 cI a) (qX7_text x1) := by
  refine MI_of (cc := cX7_text) (maxL := 5) (own := RX7) (by decide) rfl rfl (Nat.le_of_ble_eq_true rfl) ?_
  intro p e s m args below meth c A F G Q h K
  refine x_locals [0, 1] (L' := [(0, .ref (a 0)), (1, .int _)]) rfl ?_
  refine x_iload_n (pc' := 1) K dX7_text_0 1 rfl rfl ?_
  refine x_iconst (pc' := 2) (v := 0) K dX7_text_1 (by decide) rfl ?_
  refine x_iconst (pc' := 3) (v := 1) K dX7_text_2 (by decide) rfl ?_
  refine x_callS (pc' := 6) K (mX7_in l D cI cO a _ _ _) rfl gX7_text_X7_in dsX7_in ⟨rfl, rfl, ⟨Nat.le_of_ble_eq_true rfl, Nat.le_of_ble_eq_true rfl⟩, Nat.le_of_ble_eq_true rfl, Nat.le_of_ble_eq_true rfl⟩ h (st := []) rfl rfl (Nat.le_of_ble_eq_true rfl) dX7_text_3 rfl (fun r3 h => ?_)
  refine x_if_ne (tgt := 15) (pc' := 9) K dX7_text_6 rfl rfl (fun c6 => ?_) (fun c6 => ?_)
  · replace h := h.1 c6
    refine x_aload_n (pc' := 16) K dX7_text_15 0 rfl rfl ?_
    refine x_iload_n (pc' := 17) K dX7_text_16 1 rfl rfl ?_
    refine xw7_0p_use (pc' := 20) K hinX7_text_X7 uX7_text_f85 dX7_text_17 rfl (fun F17 eF17 => ?_)
    replace h := h F17 eF17
    refine x_aload_n (pc' := 21) K dX7_text_20 0 rfl rfl ?_
    refine x_iconst (pc' := 22) (v := 0) K dX7_text_21 (by decide) rfl ?_
    refine xw7_0p_at (pc' := 25) K hinX7_text_X7 uX7_text_f82 dX7_text_22 rfl (fun F22 eF22 => ?_)
    replace h := h F22 eF22
    refine x_aload_n (pc' := 26) K dX7_text_25 0 rfl rfl ?_
    refine x_iconst (pc' := 27) (v := 0) K dX7_text_26 (by decide) rfl ?_
    refine xw7_0p_open (pc' := 30) K hinX7_text_X7 uX7_text_f115 dX7_text_27 rfl (fun F27 eF27 => ?_)
    replace h := h F27 eF27
    refine x_aload_n (pc' := 31) K dX7_text_30 0 rfl rfl ?_
    refine x_iconst (pc' := 32) (v := 0) K dX7_text_31 (by decide) rfl ?_
    refine xw7_0p_steps (pc' := 35) K hinX7_text_X7 uX7_text_f88 dX7_text_32 rfl (fun F32 eF32 => ?_)
    replace h := h F32 eF32
    refine x_aload_n (pc' := 36) K dX7_text_35 0 rfl rfl ?_
    refine x_callI (pc' := 39) K (mX7_wholeT l D cI cO a) rfl gX7_text_X7_whole rfl dsX7_whole ⟨rfl, rfl, ⟨Nat.le_of_ble_eq_true rfl, Nat.le_of_ble_eq_true rfl⟩, Nat.le_of_ble_eq_true rfl, Nat.le_of_ble_eq_true rfl⟩ h 7 0 rfl rfl (st := []) rfl rfl (Nat.le_of_ble_eq_true rfl) dX7_text_36 rfl (fun r36 F36 G36 h => ?_)
    refine x_if_eq (tgt := 59) (pc' := 42) K dX7_text_39 rfl rfl (fun c39 => ?_) (fun c39 => ?_)
    · replace h := h.1 c39
      refine x_iconst (pc' := 60) (v := 0) K dX7_text_59 (by decide) rfl ?_
      exact tX7_text_60 K _ _ _ _ h
    · replace h := h.2 c39
      refine x_aload_n (pc' := 43) K dX7_text_42 0 rfl rfl ?_
      refine xw7_0g_at (pc' := 46) K hinX7_text_X7 uX7_text_f82 dX7_text_43 rfl ?_
      refine x_aload_n (pc' := 47) K dX7_text_46 0 rfl rfl ?_
      refine xw7_0g_s (pc' := 50) K hinX7_text_X7 uX7_text_f7 dX7_text_47 rfl ?_
      refine x_iconst (pc' := 51) (v := 4) K dX7_text_50 (by decide) rfl ?_
      refine xw7_1l (pc' := 52) K (j := 4) (xin_of (by decide +kernel)) (by decide +kernel) dX7_text_51 rfl ?_
      refine x_icmp_ne (tgt := 59) (pc' := 55) K dX7_text_52 rfl rfl (fun c52 => ?_) (fun c52 => ?_)
      · replace h := h.1 c52
        refine x_iconst (pc' := 60) (v := 0) K dX7_text_59 (by decide) rfl ?_
        exact tX7_text_60 K _ _ _ _ h
      · replace h := h.2 c52
        refine x_iconst (pc' := 56) (v := 1) K dX7_text_55 (by decide) rfl ?_
        refine x_goto (tgt := 60) K dX7_text_56 rfl ?_
        exact tX7_text_60 K _ _ _ _ h
  · replace h := h.2 c6
    refine x_aload_n (pc' := 10) K dX7_text_9 0 rfl rfl ?_
    refine x_iconst (pc' := 11) (v := 1) K dX7_text_10 (by decide) rfl ?_
    refine x_callI (pc' := 14) K (mX7_error l D cI cO a _) rfl gX7_text_X7_error rfl dsX7_error ⟨rfl, rfl, ⟨Nat.le_of_ble_eq_true rfl, Nat.le_of_ble_eq_true rfl⟩, Nat.le_of_ble_eq_true rfl, Nat.le_of_ble_eq_true rfl⟩ h 7 0 rfl rfl (st := []) rfl rfl (Nat.le_of_ble_eq_true rfl) dX7_text_11 rfl (fun r11 F11 G11 h => ?_)
    exact x_iret (wf := w7 cI a) K h dX7_text_14
/-! X7_voice -/
abbrev rmX7_voice : Room := { frames := 139, cells := 0, slots := 0, locals := 8324 }
theorem dsX7_voice : xDesc yX7_voice 3 := by decide +kernel
theorem uX7_voice_f227 : Cond.fieldLink RX7 227 "PigNinthsModel" "traced" "I" ∈ wsX7_voice := nw_in nwl_X7_voice nwe_739 (by decide +kernel)
theorem hinX7_voice_X7 : ∀ w ∈ wsX70, w ∈ wsX7_voice := nw_all nwl_X7_voice nwl_X70 (by decide +kernel)
theorem uX7_voice_f230 : Cond.fieldLink RX7 230 "PigNinthsModel" "speaks" "I" ∈ wsX7_voice := nw_in nwl_X7_voice nwe_742 (by decide +kernel)
theorem uX7_voice_f255 : Cond.fieldLink RX7 255 "PigNinthsModel" "isParted" "Z" ∈ wsX7_voice := nw_in nwl_X7_voice nwe_767 (by decide +kernel)
set_option maxHeartbeats 4000000 in
set_option maxRecDepth 100000 in
theorem mX7_voice (l : Launch) (D : va_G) (cI cO : ClassId) (a : Nat → Nat)  (x1 : Int32) (x2 : Int32) (x3 : Int32) : MI l yX7_voice wsX7_voice rmX7_voice D (xtys cI cO) [.ref (a 0), .int x1, .int x2, .int x3] (w7 cI a) (qX7_voice x1 x2 x3) := by
  refine MI_of (cc := cX7_voice) (maxL := 6) (own := RX7) (by decide) rfl rfl (Nat.le_of_ble_eq_true rfl) ?_
  intro p e s m args below meth c A F G Q h K
  refine x_locals [0, 1, 2, 3] (L' := [(0, .ref (a 0)), (1, .int _), (2, .int _), (3, .int _)]) rfl ?_
  refine x_iload_n (pc' := 1) K dX7_voice_0 1 rfl rfl ?_
  refine x_callS (pc' := 4) K (mX7_isFarmer l D cI cO a _) rfl gX7_voice_X7_isFarmer dsX7_isFarmer ⟨rfl, rfl, ⟨Nat.le_of_ble_eq_true rfl, Nat.le_of_ble_eq_true rfl⟩, Nat.le_of_ble_eq_true rfl, Nat.le_of_ble_eq_true rfl⟩ h (st := []) rfl rfl (Nat.le_of_ble_eq_true rfl) dX7_voice_1 rfl (fun r1 h => ?_)
  refine x_if_eq (tgt := 16) (pc' := 7) K dX7_voice_4 rfl rfl (fun c4 => ?_) (fun c4 => ?_)
  · replace h := h.1 c4
    refine x_aload_n (pc' := 17) K dX7_voice_16 0 rfl rfl ?_
    refine x_iconst (pc' := 18) (v := 1) K dX7_voice_17 (by decide) rfl ?_
    refine x_callI (pc' := 21) K (mX7_error l D cI cO a _) rfl gX7_voice_X7_error rfl dsX7_error ⟨rfl, rfl, ⟨Nat.le_of_ble_eq_true rfl, Nat.le_of_ble_eq_true rfl⟩, Nat.le_of_ble_eq_true rfl, Nat.le_of_ble_eq_true rfl⟩ h 7 0 rfl rfl (st := []) rfl rfl (Nat.le_of_ble_eq_true rfl) dX7_voice_18 rfl (fun r18 F18 G18 h => ?_)
    exact x_iret (wf := w7 cI a) K h dX7_voice_21
  · replace h := h.2 c4
    refine x_iload_n (pc' := 8) K dX7_voice_7 2 rfl rfl ?_
    refine x_iconst (pc' := 9) (v := 0) K dX7_voice_8 (by decide) rfl ?_
    refine x_iconst (pc' := 10) (v := 3) K dX7_voice_9 (by decide) rfl ?_
    refine x_callS (pc' := 13) K (mX7_in l D cI cO a _ _ _) rfl gX7_voice_X7_in dsX7_in ⟨rfl, rfl, ⟨Nat.le_of_ble_eq_true rfl, Nat.le_of_ble_eq_true rfl⟩, Nat.le_of_ble_eq_true rfl, Nat.le_of_ble_eq_true rfl⟩ h (st := []) rfl rfl (Nat.le_of_ble_eq_true rfl) dX7_voice_10 rfl (fun r10 h => ?_)
    refine x_if_ne (tgt := 22) (pc' := 16) K dX7_voice_13 rfl rfl (fun c13 => ?_) (fun c13 => ?_)
    · replace h := h.1 c13
      refine x_aload_n (pc' := 23) K dX7_voice_22 0 rfl rfl ?_
      refine x_iconst (pc' := 24) (v := 0) K dX7_voice_23 (by decide) rfl ?_
      refine xw7_0p_traced (pc' := 27) K hinX7_voice_X7 uX7_voice_f227 dX7_voice_24 rfl (fun F24 eF24 => ?_)
      replace h := h F24 eF24
      refine x_aload_n (pc' := 28) K dX7_voice_27 0 rfl rfl ?_
      refine x_iload_n (pc' := 29) K dX7_voice_28 1 rfl rfl ?_
      refine xw7_0p_speaks (pc' := 32) K hinX7_voice_X7 uX7_voice_f230 dX7_voice_29 rfl (fun F29 eF29 => ?_)
      replace h := h F29 eF29
      refine x_aload_n (pc' := 33) K dX7_voice_32 0 rfl rfl ?_
      refine x_iconst (pc' := 34) (v := 0) K dX7_voice_33 (by decide) rfl ?_
      refine xw7_0p_isParted (pc' := 37) K hinX7_voice_X7 uX7_voice_f255 (Or.inl rfl) dX7_voice_34 rfl (fun F34 eF34 => ?_)
      replace h := h F34 eF34
      refine x_aload_n (pc' := 38) K dX7_voice_37 0 rfl rfl ?_
      refine x_callI (pc' := 41) K (mX7_kindNow l D cI cO a) rfl gX7_voice_X7_kindNow rfl dsX7_kindNow ⟨rfl, rfl, ⟨Nat.le_of_ble_eq_true rfl, Nat.le_of_ble_eq_true rfl⟩, Nat.le_of_ble_eq_true rfl, Nat.le_of_ble_eq_true rfl⟩ h 7 0 rfl rfl (st := []) rfl rfl (Nat.le_of_ble_eq_true rfl) dX7_voice_38 rfl (fun r38 F38 G38 h => ?_)
      refine x_istore (pc' := 43) (i := 4) K dX7_voice_41 (by decide) [1, 2, 3, 4, 0] (L' := [(0, .ref (a 0)), (1, .int _), (2, .int _), (3, .int _), (4, .int _)]) rfl rfl ?_
      refine x_iload_n (pc' := 44) K dX7_voice_43 2 rfl rfl ?_
      refine x_if_ne (tgt := 57) (pc' := 47) K dX7_voice_44 rfl rfl (fun c44 => ?_) (fun c44 => ?_)
      · replace h := h.1 c44
        refine x_iload_n (pc' := 58) K dX7_voice_57 2 rfl rfl ?_
        refine x_iconst (pc' := 59) (v := 1) K dX7_voice_58 (by decide) rfl ?_
        refine x_icmp_ne (tgt := 72) (pc' := 62) K dX7_voice_59 rfl rfl (fun c59 => ?_) (fun c59 => ?_)
        · replace h := h.1 c59
          refine x_iload_n (pc' := 73) K dX7_voice_72 2 rfl rfl ?_
          refine x_iconst (pc' := 74) (v := 2) K dX7_voice_73 (by decide) rfl ?_
          refine x_icmp_ne (tgt := 87) (pc' := 77) K dX7_voice_74 rfl rfl (fun c74 => ?_) (fun c74 => ?_)
          · replace h := h.1 c74
            refine x_aload_n (pc' := 88) K dX7_voice_87 0 rfl rfl ?_
            refine x_iload (pc' := 90) K dX7_voice_88 4 rfl rfl ?_
            refine x_iload_n (pc' := 91) K dX7_voice_90 3 rfl rfl ?_
            refine x_callI (pc' := 94) K (mX7_partsAsT l D cI cO a _ _) rfl gX7_voice_X7_partsAs rfl dsX7_partsAs ⟨rfl, rfl, ⟨Nat.le_of_ble_eq_true rfl, Nat.le_of_ble_eq_true rfl⟩, Nat.le_of_ble_eq_true rfl, Nat.le_of_ble_eq_true rfl⟩ h 7 0 rfl rfl (st := []) rfl rfl (Nat.le_of_ble_eq_true rfl) dX7_voice_91 rfl (fun r91 F91 G91 h => ?_)
            refine x_istore (pc' := 96) (i := 5) K dX7_voice_94 (by decide) [1, 2, 3, 4, 5, 0] (L' := [(0, .ref (a 0)), (1, .int _), (2, .int _), (3, .int _), (4, .int _), (5, .int _)]) rfl rfl ?_
            refine x_aload_n (pc' := 97) K dX7_voice_96 0 rfl rfl ?_
            refine xw7_0g_isParted (pc' := 100) K hinX7_voice_X7 uX7_voice_f255 dX7_voice_97 rfl ?_
            refine x_if_eq (tgt := 112) (pc' := 103) K dX7_voice_100 rfl rfl (fun c100 => ?_) (fun c100 => ?_)
            · replace h := h.1 c100
              refine x_iload (pc' := 114) K dX7_voice_112 5 rfl rfl ?_
              exact x_iret (wf := w7 cI a) K h dX7_voice_114
            · replace h := h.2 c100
              refine x_aload_n (pc' := 104) K dX7_voice_103 0 rfl rfl ?_
              refine x_bipush (pc' := 106) (v := 6) K dX7_voice_104 (by decide) rfl ?_
              refine x_callI (pc' := 109) K (mX7_error l D cI cO a _) rfl gX7_voice_X7_error rfl dsX7_error ⟨rfl, rfl, ⟨Nat.le_of_ble_eq_true rfl, Nat.le_of_ble_eq_true rfl⟩, Nat.le_of_ble_eq_true rfl, Nat.le_of_ble_eq_true rfl⟩ h 7 0 rfl rfl (st := []) rfl rfl (Nat.le_of_ble_eq_true rfl) dX7_voice_106 rfl (fun r106 F106 G106 h => ?_)
              refine x_goto (tgt := 114) K dX7_voice_109 rfl ?_
              exact x_iret (wf := w7 cI a) K h dX7_voice_114
          · replace h := h.2 c74
            refine x_aload_n (pc' := 78) K dX7_voice_77 0 rfl rfl ?_
            refine x_iload (pc' := 80) K dX7_voice_78 4 rfl rfl ?_
            refine x_iload_n (pc' := 81) K dX7_voice_80 3 rfl rfl ?_
            refine x_callI (pc' := 84) K (mX7_hidesAsT l D cI cO a _ _) rfl gX7_voice_X7_hidesAs rfl dsX7_hidesAs ⟨rfl, rfl, ⟨Nat.le_of_ble_eq_true rfl, Nat.le_of_ble_eq_true rfl⟩, Nat.le_of_ble_eq_true rfl, Nat.le_of_ble_eq_true rfl⟩ h 7 0 rfl rfl (st := []) rfl rfl (Nat.le_of_ble_eq_true rfl) dX7_voice_81 rfl (fun r81 F81 G81 h => ?_)
            refine x_goto (tgt := 94) K dX7_voice_84 rfl ?_
            refine x_istore (pc' := 96) (i := 5) K dX7_voice_94 (by decide) [1, 2, 3, 4, 5, 0] (L' := [(0, .ref (a 0)), (1, .int _), (2, .int _), (3, .int _), (4, .int _), (5, .int _)]) rfl rfl ?_
            refine x_aload_n (pc' := 97) K dX7_voice_96 0 rfl rfl ?_
            refine xw7_0g_isParted (pc' := 100) K hinX7_voice_X7 uX7_voice_f255 dX7_voice_97 rfl ?_
            refine x_if_eq (tgt := 112) (pc' := 103) K dX7_voice_100 rfl rfl (fun c100 => ?_) (fun c100 => ?_)
            · replace h := h.1 c100
              refine x_iload (pc' := 114) K dX7_voice_112 5 rfl rfl ?_
              exact x_iret (wf := w7 cI a) K h dX7_voice_114
            · replace h := h.2 c100
              refine x_aload_n (pc' := 104) K dX7_voice_103 0 rfl rfl ?_
              refine x_bipush (pc' := 106) (v := 6) K dX7_voice_104 (by decide) rfl ?_
              refine x_callI (pc' := 109) K (mX7_error l D cI cO a _) rfl gX7_voice_X7_error rfl dsX7_error ⟨rfl, rfl, ⟨Nat.le_of_ble_eq_true rfl, Nat.le_of_ble_eq_true rfl⟩, Nat.le_of_ble_eq_true rfl, Nat.le_of_ble_eq_true rfl⟩ h 7 0 rfl rfl (st := []) rfl rfl (Nat.le_of_ble_eq_true rfl) dX7_voice_106 rfl (fun r106 F106 G106 h => ?_)
              refine x_goto (tgt := 114) K dX7_voice_109 rfl ?_
              exact x_iret (wf := w7 cI a) K h dX7_voice_114
        · replace h := h.2 c59
          refine x_aload_n (pc' := 63) K dX7_voice_62 0 rfl rfl ?_
          refine x_iload (pc' := 65) K dX7_voice_63 4 rfl rfl ?_
          refine x_iload_n (pc' := 66) K dX7_voice_65 3 rfl rfl ?_
          refine x_callI (pc' := 69) K (mX7_feedsAsT l D cI cO a _ _) rfl gX7_voice_X7_feedsAs rfl dsX7_feedsAs ⟨rfl, rfl, ⟨Nat.le_of_ble_eq_true rfl, Nat.le_of_ble_eq_true rfl⟩, Nat.le_of_ble_eq_true rfl, Nat.le_of_ble_eq_true rfl⟩ h 7 0 rfl rfl (st := []) rfl rfl (Nat.le_of_ble_eq_true rfl) dX7_voice_66 rfl (fun r66 F66 G66 h => ?_)
          refine x_goto (tgt := 94) K dX7_voice_69 rfl ?_
          refine x_istore (pc' := 96) (i := 5) K dX7_voice_94 (by decide) [1, 2, 3, 4, 5, 0] (L' := [(0, .ref (a 0)), (1, .int _), (2, .int _), (3, .int _), (4, .int _), (5, .int _)]) rfl rfl ?_
          refine x_aload_n (pc' := 97) K dX7_voice_96 0 rfl rfl ?_
          refine xw7_0g_isParted (pc' := 100) K hinX7_voice_X7 uX7_voice_f255 dX7_voice_97 rfl ?_
          refine x_if_eq (tgt := 112) (pc' := 103) K dX7_voice_100 rfl rfl (fun c100 => ?_) (fun c100 => ?_)
          · replace h := h.1 c100
            refine x_iload (pc' := 114) K dX7_voice_112 5 rfl rfl ?_
            exact x_iret (wf := w7 cI a) K h dX7_voice_114
          · replace h := h.2 c100
            refine x_aload_n (pc' := 104) K dX7_voice_103 0 rfl rfl ?_
            refine x_bipush (pc' := 106) (v := 6) K dX7_voice_104 (by decide) rfl ?_
            refine x_callI (pc' := 109) K (mX7_error l D cI cO a _) rfl gX7_voice_X7_error rfl dsX7_error ⟨rfl, rfl, ⟨Nat.le_of_ble_eq_true rfl, Nat.le_of_ble_eq_true rfl⟩, Nat.le_of_ble_eq_true rfl, Nat.le_of_ble_eq_true rfl⟩ h 7 0 rfl rfl (st := []) rfl rfl (Nat.le_of_ble_eq_true rfl) dX7_voice_106 rfl (fun r106 F106 G106 h => ?_)
            refine x_goto (tgt := 114) K dX7_voice_109 rfl ?_
            exact x_iret (wf := w7 cI a) K h dX7_voice_114
      · replace h := h.2 c44
        refine x_aload_n (pc' := 48) K dX7_voice_47 0 rfl rfl ?_
        refine x_iload (pc' := 50) K dX7_voice_48 4 rfl rfl ?_
        refine x_iload_n (pc' := 51) K dX7_voice_50 3 rfl rfl ?_
        refine x_callI (pc' := 54) K (mX7_leadsAsT l D cI cO a _ _) rfl gX7_voice_X7_leadsAs rfl dsX7_leadsAs ⟨rfl, rfl, ⟨Nat.le_of_ble_eq_true rfl, Nat.le_of_ble_eq_true rfl⟩, Nat.le_of_ble_eq_true rfl, Nat.le_of_ble_eq_true rfl⟩ h 7 0 rfl rfl (st := []) rfl rfl (Nat.le_of_ble_eq_true rfl) dX7_voice_51 rfl (fun r51 F51 G51 h => ?_)
        refine x_goto (tgt := 94) K dX7_voice_54 rfl ?_
        refine x_istore (pc' := 96) (i := 5) K dX7_voice_94 (by decide) [1, 2, 3, 4, 5, 0] (L' := [(0, .ref (a 0)), (1, .int _), (2, .int _), (3, .int _), (4, .int _), (5, .int _)]) rfl rfl ?_
        refine x_aload_n (pc' := 97) K dX7_voice_96 0 rfl rfl ?_
        refine xw7_0g_isParted (pc' := 100) K hinX7_voice_X7 uX7_voice_f255 dX7_voice_97 rfl ?_
        refine x_if_eq (tgt := 112) (pc' := 103) K dX7_voice_100 rfl rfl (fun c100 => ?_) (fun c100 => ?_)
        · replace h := h.1 c100
          refine x_iload (pc' := 114) K dX7_voice_112 5 rfl rfl ?_
          exact x_iret (wf := w7 cI a) K h dX7_voice_114
        · replace h := h.2 c100
          refine x_aload_n (pc' := 104) K dX7_voice_103 0 rfl rfl ?_
          refine x_bipush (pc' := 106) (v := 6) K dX7_voice_104 (by decide) rfl ?_
          refine x_callI (pc' := 109) K (mX7_error l D cI cO a _) rfl gX7_voice_X7_error rfl dsX7_error ⟨rfl, rfl, ⟨Nat.le_of_ble_eq_true rfl, Nat.le_of_ble_eq_true rfl⟩, Nat.le_of_ble_eq_true rfl, Nat.le_of_ble_eq_true rfl⟩ h 7 0 rfl rfl (st := []) rfl rfl (Nat.le_of_ble_eq_true rfl) dX7_voice_106 rfl (fun r106 F106 G106 h => ?_)
          refine x_goto (tgt := 114) K dX7_voice_109 rfl ?_
          exact x_iret (wf := w7 cI a) K h dX7_voice_114
    · replace h := h.2 c13
      refine x_aload_n (pc' := 17) K dX7_voice_16 0 rfl rfl ?_
      refine x_iconst (pc' := 18) (v := 1) K dX7_voice_17 (by decide) rfl ?_
      refine x_callI (pc' := 21) K (mX7_error l D cI cO a _) rfl gX7_voice_X7_error rfl dsX7_error ⟨rfl, rfl, ⟨Nat.le_of_ble_eq_true rfl, Nat.le_of_ble_eq_true rfl⟩, Nat.le_of_ble_eq_true rfl, Nat.le_of_ble_eq_true rfl⟩ h 7 0 rfl rfl (st := []) rfl rfl (Nat.le_of_ble_eq_true rfl) dX7_voice_18 rfl (fun r18 F18 G18 h => ?_)
      exact x_iret (wf := w7 cI a) K h dX7_voice_21
end
