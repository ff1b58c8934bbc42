section
variable {p : Program} {l : Launch} {e : Env} {s : State} {m : MethodId} {args : Array Value} {below : List Frame} {meth : Method} {c : Code} {D : va_G} {cI cO : ClassId} {A : Nat → Prop} {a : Nat → Nat} {d : Nat}
/-! X7_kindNow -/
abbrev rmX7_kindNow : Room := { frames := 3, cells := 0, slots := 0, locals := 82 }
theorem dsX7_kindNow : xDesc yX7_kindNow 0 := by decide +kernel
theorem uX7_kindNow_f230 : Cond.fieldLink RX7 230 "PigNinthsModel" "speaks" "I" ∈ wsX7_kindNow := by decide +kernel
theorem hinX7_kindNow_X7 : ∀ w ∈ wsX70, w ∈ wsX7_kindNow := by decide +kernel
def qX7_kindNow  (F : xF) (G : xA) (Q : Int32 → xF → xA → Prop) : Prop := qX7_its (F 7) (0 : Int32) F G (fun r6 F6 G6 => Q r6 F6 G6)
set_option maxHeartbeats 4000000 in
set_option maxRecDepth 100000 in
theorem mX7_kindNow (l : Launch) (D : va_G) (cI cO : ClassId) (a : Nat → Nat)   : MI l yX7_kindNow wsX7_kindNow rmX7_kindNow D (xtys cI cO) [.ref (a 0)] (w7 cI a) qX7_kindNow := by
  refine MI_of (cc := cX7_kindNow) (maxL := 1) (own := RX7) (by decide) rfl rfl (Nat.le_of_ble_eq_true rfl) ?_
  intro p e s m args below meth c A F G Q h K
  refine x_locals [0] (L' := [(0, .ref (a 0))]) rfl ?_
  refine x_aload_n (pc' := 1) K dX7_kindNow_0 0 rfl rfl ?_
  refine x_aload_n (pc' := 2) K dX7_kindNow_1 0 rfl rfl ?_
  refine xw7_0g_speaks (pc' := 5) K hinX7_kindNow_X7 uX7_kindNow_f230 dX7_kindNow_2 rfl ?_
  refine x_iconst (pc' := 6) (v := 0) K dX7_kindNow_5 (by decide) rfl ?_
  refine x_callI (pc' := 9) K (mX7_its l D cI cO a _ _) rfl gX7_kindNow_X7_its rfl dsX7_its ⟨rfl, rfl, ⟨Nat.le_of_ble_eq_true rfl, Nat.le_of_ble_eq_true rfl⟩, Nat.le_of_ble_eq_true rfl, Nat.le_of_ble_eq_true rfl⟩ h 7 0 rfl rfl (st := []) rfl rfl (Nat.le_of_ble_eq_true rfl) dX7_kindNow_6 rfl (fun r6 F6 G6 h => ?_)
  exact x_iret (wf := w7 cI a) K h dX7_kindNow_9
/-! X7_mNow -/
abbrev rmX7_mNow : Room := { frames := 3, cells := 0, slots := 0, locals := 82 }
theorem dsX7_mNow : xDesc yX7_mNow 0 := by decide +kernel
theorem uX7_mNow_f230 : Cond.fieldLink RX7 230 "PigNinthsModel" "speaks" "I" ∈ wsX7_mNow := by decide +kernel
theorem hinX7_mNow_X7 : ∀ w ∈ wsX70, w ∈ wsX7_mNow := by decide +kernel
def qX7_mNow  (F : xF) (G : xA) (Q : Int32 → xF → xA → Prop) : Prop := qX7_its (F 7) (1 : Int32) F G (fun r6 F6 G6 => Q r6 F6 G6)
set_option maxHeartbeats 4000000 in
set_option maxRecDepth 100000 in
theorem mX7_mNow (l : Launch) (D : va_G) (cI cO : ClassId) (a : Nat → Nat)   : MI l yX7_mNow wsX7_mNow rmX7_mNow D (xtys cI cO) [.ref (a 0)] (w7 cI a) qX7_mNow := by
  refine MI_of (cc := cX7_mNow) (maxL := 1) (own := RX7) (by decide) rfl rfl (Nat.le_of_ble_eq_true rfl) ?_
  intro p e s m args below meth c A F G Q h K
  refine x_locals [0] (L' := [(0, .ref (a 0))]) rfl ?_
  refine x_aload_n (pc' := 1) K dX7_mNow_0 0 rfl rfl ?_
  refine x_aload_n (pc' := 2) K dX7_mNow_1 0 rfl rfl ?_
  refine xw7_0g_speaks (pc' := 5) K hinX7_mNow_X7 uX7_mNow_f230 dX7_mNow_2 rfl ?_
  refine x_iconst (pc' := 6) (v := 1) K dX7_mNow_5 (by decide) rfl ?_
  refine x_callI (pc' := 9) K (mX7_its l D cI cO a _ _) rfl gX7_mNow_X7_its rfl dsX7_its ⟨rfl, rfl, ⟨Nat.le_of_ble_eq_true rfl, Nat.le_of_ble_eq_true rfl⟩, Nat.le_of_ble_eq_true rfl, Nat.le_of_ble_eq_true rfl⟩ h 7 0 rfl rfl (st := []) rfl rfl (Nat.le_of_ble_eq_true rfl) dX7_mNow_6 rfl (fun r6 F6 G6 h => ?_)
  exact x_iret (wf := w7 cI a) K h dX7_mNow_9
/-! X7_body -/
abbrev rmX7_body : Room := { frames := 3, cells := 0, slots := 0, locals := 82 }
theorem dsX7_body : xDesc yX7_body 1 := by decide +kernel
theorem uX7_body_f227 : Cond.fieldLink RX7 227 "PigNinthsModel" "traced" "I" ∈ wsX7_body := by decide +kernel
theorem hinX7_body_X7 : ∀ w ∈ wsX70, w ∈ wsX7_body := by decide +kernel
theorem uX7_body_f44 : Cond.fieldLink RX7 44 "PigNinthsModel" "trace" "[I" ∈ wsX7_body := by decide +kernel
def qX7_body (x1 : Int32) (F : xF) (G : xA) (Q : Int32 → xF → xA → Prop) : Prop := qX7_in x1 (0 : Int32) ((F 6) - (1 : Int32)) (fun r8 => ((r8 = 0 → qX7_error (2 : Int32) F G (fun r25 F25 G25 => Q r25 F25 G25)) ∧ (¬ r8 = 0 → (vp_in x1 30) ∧ Q (G 10 x1.toNatClampNeg) F G)))
set_option maxHeartbeats 4000000 in
set_option maxRecDepth 100000 in
theorem mX7_body (l : Launch) (D : va_G) (cI cO : ClassId) (a : Nat → Nat)  (x1 : Int32) : MI l yX7_body wsX7_body rmX7_body D (xtys cI cO) [.ref (a 0), .int x1] (w7 cI a) (qX7_body x1) := by
  refine MI_of (cc := cX7_body) (maxL := 2) (own := RX7) (by decide) rfl rfl (Nat.le_of_ble_eq_true rfl) ?_
  intro p e s m args below meth c A F G Q h K
  refine x_locals [0, 1] (L' := [(0, .ref (a 0)), (1, .int _)]) rfl ?_
  refine x_iload_n (pc' := 1) K dX7_body_0 1 rfl rfl ?_
  refine x_iconst (pc' := 2) (v := 0) K dX7_body_1 (by decide) rfl ?_
  refine x_aload_n (pc' := 3) K dX7_body_2 0 rfl rfl ?_
  refine xw7_0g_traced (pc' := 6) K hinX7_body_X7 uX7_body_f227 dX7_body_3 rfl ?_
  refine x_iconst (pc' := 7) (v := 1) K dX7_body_6 (by decide) rfl ?_
  refine x_isub (pc' := 8) K dX7_body_7 rfl ?_
  refine x_callS (pc' := 11) K (mX7_in l D cI cO a _ _ _) rfl gX7_body_X7_in dsX7_in ⟨rfl, rfl, ⟨Nat.le_of_ble_eq_true rfl, Nat.le_of_ble_eq_true rfl⟩, Nat.le_of_ble_eq_true rfl, Nat.le_of_ble_eq_true rfl⟩ h (st := []) rfl rfl (Nat.le_of_ble_eq_true rfl) dX7_body_8 rfl (fun r8 h => ?_)
  refine x_if_eq (tgt := 23) (pc' := 14) K dX7_body_11 rfl rfl (fun c11 => ?_) (fun c11 => ?_)
  · replace h := h.1 c11
    refine x_aload_n (pc' := 24) K dX7_body_23 0 rfl rfl ?_
    refine x_iconst (pc' := 25) (v := 2) K dX7_body_24 (by decide) rfl ?_
    refine x_callI (pc' := 28) K (mX7_error l D cI cO a _) rfl gX7_body_X7_error rfl dsX7_error ⟨rfl, rfl, ⟨Nat.le_of_ble_eq_true rfl, Nat.le_of_ble_eq_true rfl⟩, Nat.le_of_ble_eq_true rfl, Nat.le_of_ble_eq_true rfl⟩ h 7 0 rfl rfl (st := []) rfl rfl (Nat.le_of_ble_eq_true rfl) dX7_body_25 rfl (fun r25 F25 G25 h => ?_)
    exact x_iret (wf := w7 cI a) K h dX7_body_28
  · replace h := h.2 c11
    refine x_aload_n (pc' := 15) K dX7_body_14 0 rfl rfl ?_
    refine xw7_0g_trace (pc' := 18) K hinX7_body_X7 uX7_body_f44 dX7_body_15 rfl ?_
    refine x_iload_n (pc' := 19) K dX7_body_18 1 rfl rfl ?_
    obtain ⟨i19, h⟩ := h
    refine xw7_11l (pc' := 20) K i19 rfl dX7_body_19 rfl ?_
    refine x_goto (tgt := 28) K dX7_body_20 rfl ?_
    exact x_iret (wf := w7 cI a) K h dX7_body_28
/-! X7_isSheet -/
abbrev rmX7_isSheet : Room := { frames := 3, cells := 0, slots := 0, locals := 82 }
theorem dsX7_isSheet : xDesc yX7_isSheet 1 := by decide +kernel
def qX7_isSheet (x0 : Int32) (Q : Int32 → Prop) : Prop := qX7_in x0 (0 : Int32) (3 : Int32) (fun r3 => (r3 = 0 ∨ r3 = 1) ∧ Q r3)
set_option maxHeartbeats 4000000 in
set_option maxRecDepth 100000 in
theorem mX7_isSheet (l : Launch) (D : va_G) (cI cO : ClassId) (a : Nat → Nat)  (x0 : Int32) : MS l yX7_isSheet wsX7_isSheet rmX7_isSheet D (xtys cI cO) [.int x0] (qX7_isSheet x0) := by
  refine MSZ_of (cc := cX7_isSheet) (maxL := 1) (own := RX7) (by decide) rfl rfl (Nat.le_of_ble_eq_true rfl) ?_
  intro p e s m args below meth c A Q h K
  refine x_locals [0] (L' := [(0, .int _)]) rfl ?_
  refine x_iload_n (pc' := 1) K dX7_isSheet_0 0 rfl rfl ?_
  refine x_iconst (pc' := 2) (v := 0) K dX7_isSheet_1 (by decide) rfl ?_
  refine x_iconst (pc' := 3) (v := 3) K dX7_isSheet_2 (by decide) rfl ?_
  refine x_callS (pc' := 6) K (mX7_in l D cI cO a _ _ _) rfl gX7_isSheet_X7_in dsX7_in ⟨rfl, rfl, ⟨Nat.le_of_ble_eq_true rfl, Nat.le_of_ble_eq_true rfl⟩, Nat.le_of_ble_eq_true rfl, Nat.le_of_ble_eq_true rfl⟩ h (st := []) rfl rfl (Nat.le_of_ble_eq_true rfl) dX7_isSheet_3 rfl (fun r3 h => ?_)
  obtain ⟨z6, h⟩ := h
  exact x_szret K z6 h dX7_isSheet_6
/-! X7_sheet -/
abbrev rmX7_sheet : Room := { frames := 4, cells := 0, slots := 0, locals := 102 }
theorem dsX7_sheet : xDesc yX7_sheet 3 := by decide +kernel
theorem uX7_sheet_f47 : Cond.fieldLink RX7 47 "PigNinthsModel" "bits" "[I" ∈ wsX7_sheet := by decide +kernel
theorem hinX7_sheet_X7 : ∀ w ∈ wsX70, w ∈ wsX7_sheet := by decide +kernel
theorem uX7_sheet_f50 : Cond.fieldLink RX7 50 "PigNinthsModel" "sizes" "[I" ∈ wsX7_sheet := by decide +kernel
theorem uX7_sheet_f53 : Cond.fieldLink RX7 53 "PigNinthsModel" "number" "[I" ∈ wsX7_sheet := by decide +kernel
def qX7_sheet_90 (Q : Int32 → xF → xA → Prop) : Nat → Int32 → Int32 → xF → xA → Prop
  | 0, _, _, _, _ => False
  | n + 1, x1, x4, F, G => (((24 : Int32) ≤ x4 → Q (1 : Int32) F G) ∧ (¬ (24 : Int32) ≤ x4 → (vp_in (((24 : Int32) * x1) + x4) 96) ∧ (∀ G109 : xA, G109 = xst G 13 (((24 : Int32) * x1) + x4).toNatClampNeg (0 : Int32) → qX7_sheet_90 Q n x1 (x4 + (1 : Int32)) F G109)))
def qX7_sheet_65 (Q : Int32 → xF → xA → Prop) (x1 : Int32) (x2 : Int32) (x3 : Int32) (F : xF) (G : xA) : Prop := (vp_in x1 4) ∧ (∀ G71 : xA, G71 = xst G 11 x1.toNatClampNeg x2 → ((¬ x2 = 0 → (vp_in x1 4) ∧ (∀ G86 : xA, G86 = xst G71 12 x1.toNatClampNeg x3 → ∃ j90, qX7_sheet_90 Q j90 x1 (0 : Int32) F G86)) ∧ (x2 = 0 → (vp_in x1 4) ∧ (∀ G86 : xA, G86 = xst G71 12 x1.toNatClampNeg (0 : Int32) → ∃ j90, qX7_sheet_90 Q j90 x1 (0 : Int32) F G86))))
def qX7_sheet_35 (Q : Int32 → xF → xA → Prop) (x1 : Int32) (x2 : Int32) (x3 : Int32) (F : xF) (G : xA) : Prop := ((x2 = 0 → ((x2 = 0 → qX7_sheet_65 Q x1 x2 x3 F G) ∧ (¬ x2 = 0 → ((x3 ≤ (24 : Int32) → qX7_sheet_65 Q x1 x2 x3 F G) ∧ (¬ x3 ≤ (24 : Int32) → qX7_error (1 : Int32) F G (fun r61 F61 G61 => Q r61 F61 G61)))))) ∧ (¬ x2 = 0 → ((0 ≤ x3 → ((x2 = 0 → qX7_sheet_65 Q x1 x2 x3 F G) ∧ (¬ x2 = 0 → ((x3 ≤ (24 : Int32) → qX7_sheet_65 Q x1 x2 x3 F G) ∧ (¬ x3 ≤ (24 : Int32) → qX7_error (1 : Int32) F G (fun r61 F61 G61 => Q r61 F61 G61)))))) ∧ (¬ 0 ≤ x3 → qX7_error (3 : Int32) F G (fun r45 F45 G45 => Q r45 F45 G45)))))
def qX7_sheet (x1 : Int32) (x2 : Int32) (x3 : Int32) (F : xF) (G : xA) (Q : Int32 → xF → xA → Prop) : Prop := qX7_isSheet x1 (fun r1 => ((r1 = 0 → qX7_error (1 : Int32) F G (fun r31 F31 G31 => Q r31 F31 G31)) ∧ (¬ r1 = 0 → ((x2 = 0 → qX7_sheet_35 Q x1 x2 x3 F G) ∧ (¬ x2 = 0 → ((x2 = (8 : Int32) → qX7_sheet_35 Q x1 x2 x3 F G) ∧ (¬ x2 = (8 : Int32) → ((x2 = (16 : Int32) → qX7_sheet_35 Q x1 x2 x3 F G) ∧ (¬ x2 = (16 : Int32) → ((x2 = (32 : Int32) → qX7_sheet_35 Q x1 x2 x3 F G) ∧ (¬ x2 = (32 : Int32) → qX7_error (1 : Int32) F G (fun r31 F31 G31 => Q r31 F31 G31))))))))))))
set_option maxHeartbeats 4000000 in
set_option maxRecDepth 100000 in
theorem tX7_sheet_90 (K : XK p m c cX7_sheet 5 s args wsX7_sheet RX7 D (xtys cI cO) A meth (some .int)) {Q : Int32 → xF → xA → Prop} : ∀ (n : Nat), ∀ (x1 : Int32) (x4 : Int32) (F : xF) (G : xA), qX7_sheet_90 Q n x1 x4 F G → XJ p l e rmX7_sheet s m args below meth c 0 0 (MQ below (xQi D (w7 cI a) A Q) args s 0 0 A) D (xtys cI cO) A 5 (w7 cI a F G) 90 [(0, .ref (a 0)), (1, .int x1), (4, .int x4)] [] := by
  intro n
  induction n with
  | zero =>
    intro x1 x4 F G h
    exact False.elim h
  | succ n ih =>
    intro x1 x4 F G h
    refine x_iload (pc' := 92) K dX7_sheet_90 2 rfl rfl ?_
    refine x_bipush (pc' := 94) (v := 24) K dX7_sheet_92 (by decide) rfl ?_
    refine x_icmp_ge (tgt := 116) (pc' := 97) K dX7_sheet_94 rfl rfl (fun c94 => ?_) (fun c94 => ?_)
    · replace h := h.1 c94
      refine x_iconst (pc' := 117) (v := 1) K dX7_sheet_116 (by decide) rfl ?_
      exact x_iret (wf := w7 cI a) K h dX7_sheet_117
    · replace h := h.2 c94
      refine x_aload_n (pc' := 98) K dX7_sheet_97 0 rfl rfl ?_
      refine xw7_0g_number (pc' := 101) K hinX7_sheet_X7 uX7_sheet_f53 dX7_sheet_98 rfl ?_
      refine x_bipush (pc' := 103) (v := 24) K dX7_sheet_101 (by decide) rfl ?_
      refine x_iload_n (pc' := 104) K dX7_sheet_103 1 rfl rfl ?_
      refine x_imul (pc' := 105) K dX7_sheet_104 rfl ?_
      refine x_iload (pc' := 107) K dX7_sheet_105 2 rfl rfl ?_
      refine x_iadd (pc' := 108) K dX7_sheet_107 rfl ?_
      refine x_iconst (pc' := 109) (v := 0) K dX7_sheet_108 (by decide) rfl ?_
      obtain ⟨i109, h⟩ := h
      refine xw7_14s (pc' := 110) K i109 rfl dX7_sheet_109 rfl (fun G109 eG109 => ?_)
      replace h := h G109 eG109
      refine x_iinc (pc' := 113) (v := _ + (1 : Int32)) K dX7_sheet_110 2 rfl rfl (by decide) [1, 2, 0] (L' := [(0, .ref (a 0)), (1, .int _), (4, .int _)]) rfl rfl ?_
      refine x_goto (tgt := 90) K dX7_sheet_113 rfl ?_
      exact ih _ _ _ _ h
set_option maxHeartbeats 4000000 in
set_option maxRecDepth 100000 in
theorem tX7_sheet_65 (K : XK p m c cX7_sheet 5 s args wsX7_sheet RX7 D (xtys cI cO) A meth (some .int)) {Q : Int32 → xF → xA → Prop} : ∀ (x1 : Int32) (x2 : Int32) (x3 : Int32) (F : xF) (G : xA), qX7_sheet_65 Q x1 x2 x3 F G → XJ p l e rmX7_sheet s m args below meth c 0 0 (MQ below (xQi D (w7 cI a) A Q) args s 0 0 A) D (xtys cI cO) A 5 (w7 cI a F G) 65 [(0, .ref (a 0)), (1, .int x1), (2, .int x2), (3, .int x3)] [] := by
  intro x1 x2 x3 F G h
  refine x_aload_n (pc' := 66) K dX7_sheet_65 0 rfl rfl ?_
  refine xw7_0g_bits (pc' := 69) K hinX7_sheet_X7 uX7_sheet_f47 dX7_sheet_66 rfl ?_
  refine x_iload_n (pc' := 70) K dX7_sheet_69 1 rfl rfl ?_
  refine x_iload_n (pc' := 71) K dX7_sheet_70 2 rfl rfl ?_
  obtain ⟨i71, h⟩ := h
  refine xw7_12s (pc' := 72) K i71 rfl dX7_sheet_71 rfl (fun G71 eG71 => ?_)
  replace h := h G71 eG71
  refine x_aload_n (pc' := 73) K dX7_sheet_72 0 rfl rfl ?_
  refine xw7_0g_sizes (pc' := 76) K hinX7_sheet_X7 uX7_sheet_f50 dX7_sheet_73 rfl ?_
  refine x_iload_n (pc' := 77) K dX7_sheet_76 1 rfl rfl ?_
  refine x_iload_n (pc' := 78) K dX7_sheet_77 2 rfl rfl ?_
  refine x_if_ne (tgt := 85) (pc' := 81) K dX7_sheet_78 rfl rfl (fun c78 => ?_) (fun c78 => ?_)
  · replace h := h.1 c78
    refine x_iload_n (pc' := 86) K dX7_sheet_85 3 rfl rfl ?_
    obtain ⟨i86, h⟩ := h
    refine xw7_13s (pc' := 87) K i86 rfl dX7_sheet_86 rfl (fun G86 eG86 => ?_)
    replace h := h G86 eG86
    refine x_iconst (pc' := 88) (v := 0) K dX7_sheet_87 (by decide) rfl ?_
    refine x_istore (pc' := 90) (i := 4) K dX7_sheet_88 (by decide) [1, 2, 3, 4, 0] (L' := [(0, .ref (a 0)), (1, .int _), (2, .int _), (3, .int _), (4, .int _)]) rfl rfl ?_
    refine x_locals [0, 1, 4] (L' := [(0, .ref (a 0)), (1, .int _), (4, .int _)]) rfl ?_
    obtain ⟨n90, h⟩ := h
    exact tX7_sheet_90 K n90 _ _ _ _ h
  · replace h := h.2 c78
    refine x_iconst (pc' := 82) (v := 0) K dX7_sheet_81 (by decide) rfl ?_
    refine x_goto (tgt := 86) K dX7_sheet_82 rfl ?_
    obtain ⟨i86, h⟩ := h
    refine xw7_13s (pc' := 87) K i86 rfl dX7_sheet_86 rfl (fun G86 eG86 => ?_)
    replace h := h G86 eG86
    refine x_iconst (pc' := 88) (v := 0) K dX7_sheet_87 (by decide) rfl ?_
    refine x_istore (pc' := 90) (i := 4) K dX7_sheet_88 (by decide) [1, 2, 3, 4, 0] (L' := [(0, .ref (a 0)), (1, .int _), (2, .int _), (3, .int _), (4, .int _)]) rfl rfl ?_
    refine x_locals [0, 1, 4] (L' := [(0, .ref (a 0)), (1, .int _), (4, .int _)]) rfl ?_
    obtain ⟨n90, h⟩ := h
    exact tX7_sheet_90 K n90 _ _ _ _ h
set_option maxHeartbeats 4000000 in
set_option maxRecDepth 100000 in
theorem tX7_sheet_35 (K : XK p m c cX7_sheet 5 s args wsX7_sheet RX7 D (xtys cI cO) A meth (some .int)) {Q : Int32 → xF → xA → Prop} : ∀ (x1 : Int32) (x2 : Int32) (x3 : Int32) (F : xF) (G : xA), qX7_sheet_35 Q x1 x2 x3 F G → XJ p l e rmX7_sheet s m args below meth c 0 0 (MQ below (xQi D (w7 cI a) A Q) args s 0 0 A) D (xtys cI cO) A 5 (w7 cI a F G) 35 [(0, .ref (a 0)), (1, .int x1), (2, .int x2), (3, .int x3)] [] := by
  intro x1 x2 x3 F G h
  refine x_iload_n (pc' := 36) K dX7_sheet_35 2 rfl rfl ?_
  refine x_if_eq (tgt := 49) (pc' := 39) K dX7_sheet_36 rfl rfl (fun c36 => ?_) (fun c36 => ?_)
  · replace h := h.1 c36
    refine x_iload_n (pc' := 50) K dX7_sheet_49 2 rfl rfl ?_
    refine x_if_eq (tgt := 65) (pc' := 53) K dX7_sheet_50 rfl rfl (fun c50 => ?_) (fun c50 => ?_)
    · replace h := h.1 c50
      exact tX7_sheet_65 K _ _ _ _ _ h
    · replace h := h.2 c50
      refine x_iload_n (pc' := 54) K dX7_sheet_53 3 rfl rfl ?_
      refine x_bipush (pc' := 56) (v := 24) K dX7_sheet_54 (by decide) rfl ?_
      refine x_icmp_le (tgt := 65) (pc' := 59) K dX7_sheet_56 rfl rfl (fun c56 => ?_) (fun c56 => ?_)
      · replace h := h.1 c56
        exact tX7_sheet_65 K _ _ _ _ _ h
      · replace h := h.2 c56
        refine x_aload_n (pc' := 60) K dX7_sheet_59 0 rfl rfl ?_
        refine x_iconst (pc' := 61) (v := 1) K dX7_sheet_60 (by decide) rfl ?_
        refine x_callI (pc' := 64) K (mX7_error l D cI cO a _) rfl gX7_sheet_X7_error rfl dsX7_error ⟨rfl, rfl, ⟨Nat.le_of_ble_eq_true rfl, Nat.le_of_ble_eq_true rfl⟩, Nat.le_of_ble_eq_true rfl, Nat.le_of_ble_eq_true rfl⟩ h 7 0 rfl rfl (st := []) rfl rfl (Nat.le_of_ble_eq_true rfl) dX7_sheet_61 rfl (fun r61 F61 G61 h => ?_)
        exact x_iret (wf := w7 cI a) K h dX7_sheet_64
  · replace h := h.2 c36
    refine x_iload_n (pc' := 40) K dX7_sheet_39 3 rfl rfl ?_
    refine x_if_ge (tgt := 49) (pc' := 43) K dX7_sheet_40 rfl rfl (fun c40 => ?_) (fun c40 => ?_)
    · replace h := h.1 c40
      refine x_iload_n (pc' := 50) K dX7_sheet_49 2 rfl rfl ?_
      refine x_if_eq (tgt := 65) (pc' := 53) K dX7_sheet_50 rfl rfl (fun c50 => ?_) (fun c50 => ?_)
      · replace h := h.1 c50
        exact tX7_sheet_65 K _ _ _ _ _ h
      · replace h := h.2 c50
        refine x_iload_n (pc' := 54) K dX7_sheet_53 3 rfl rfl ?_
        refine x_bipush (pc' := 56) (v := 24) K dX7_sheet_54 (by decide) rfl ?_
        refine x_icmp_le (tgt := 65) (pc' := 59) K dX7_sheet_56 rfl rfl (fun c56 => ?_) (fun c56 => ?_)
        · replace h := h.1 c56
          exact tX7_sheet_65 K _ _ _ _ _ h
        · replace h := h.2 c56
          refine x_aload_n (pc' := 60) K dX7_sheet_59 0 rfl rfl ?_
          refine x_iconst (pc' := 61) (v := 1) K dX7_sheet_60 (by decide) rfl ?_
          refine x_callI (pc' := 64) K (mX7_error l D cI cO a _) rfl gX7_sheet_X7_error rfl dsX7_error ⟨rfl, rfl, ⟨Nat.le_of_ble_eq_true rfl, Nat.le_of_ble_eq_true rfl⟩, Nat.le_of_ble_eq_true rfl, Nat.le_of_ble_eq_true rfl⟩ h 7 0 rfl rfl (st := []) rfl rfl (Nat.le_of_ble_eq_true rfl) dX7_sheet_61 rfl (fun r61 F61 G61 h => ?_)
          exact x_iret (wf := w7 cI a) K h dX7_sheet_64
    · replace h := h.2 c40
      refine x_aload_n (pc' := 44) K dX7_sheet_43 0 rfl rfl ?_
      refine x_iconst (pc' := 45) (v := 3) K dX7_sheet_44 (by decide) rfl ?_
      refine x_callI (pc' := 48) K (mX7_error l D cI cO a _) rfl gX7_sheet_X7_error rfl dsX7_error ⟨rfl, rfl, ⟨Nat.le_of_ble_eq_true rfl, Nat.le_of_ble_eq_true rfl⟩, Nat.le_of_ble_eq_true rfl, Nat.le_of_ble_eq_true rfl⟩ h 7 0 rfl rfl (st := []) rfl rfl (Nat.le_of_ble_eq_true rfl) dX7_sheet_45 rfl (fun r45 F45 G45 h => ?_)
      exact x_iret (wf := w7 cI a) K h dX7_sheet_48
set_option maxHeartbeats 4000000 in
set_option maxRecDepth 100000 in
theorem mX7_sheet (l : Launch) (D : va_G) (cI cO : ClassId) (a : Nat → Nat)  (x1 : Int32) (x2 : Int32) (x3 : Int32) : MI l yX7_sheet wsX7_sheet rmX7_sheet D (xtys cI cO) [.ref (a 0), .int x1, .int x2, .int x3] (w7 cI a) (qX7_sheet x1 x2 x3) := by
  refine MI_of (cc := cX7_sheet) (maxL := 5) (own := RX7) (by decide) rfl rfl (Nat.le_of_ble_eq_true rfl) ?_
  intro p e s m args below meth c A F G Q h K
  refine x_locals [0, 1, 2, 3] (L' := [(0, .ref (a 0)), (1, .int _), (2, .int _), (3, .int _)]) rfl ?_
  refine x_iload_n (pc' := 1) K dX7_sheet_0 1 rfl rfl ?_
  refine x_callS (pc' := 4) K (mX7_isSheet l D cI cO a _) rfl gX7_sheet_X7_isSheet dsX7_isSheet ⟨rfl, rfl, ⟨Nat.le_of_ble_eq_true rfl, Nat.le_of_ble_eq_true rfl⟩, Nat.le_of_ble_eq_true rfl, Nat.le_of_ble_eq_true rfl⟩ h (st := []) rfl rfl (Nat.le_of_ble_eq_true rfl) dX7_sheet_1 rfl (fun r1 h => ?_)
  refine x_if_eq (tgt := 29) (pc' := 7) K dX7_sheet_4 rfl rfl (fun c4 => ?_) (fun c4 => ?_)
  · replace h := h.1 c4
    refine x_aload_n (pc' := 30) K dX7_sheet_29 0 rfl rfl ?_
    refine x_iconst (pc' := 31) (v := 1) K dX7_sheet_30 (by decide) rfl ?_
    refine x_callI (pc' := 34) K (mX7_error l D cI cO a _) rfl gX7_sheet_X7_error rfl dsX7_error ⟨rfl, rfl, ⟨Nat.le_of_ble_eq_true rfl, Nat.le_of_ble_eq_true rfl⟩, Nat.le_of_ble_eq_true rfl, Nat.le_of_ble_eq_true rfl⟩ h 7 0 rfl rfl (st := []) rfl rfl (Nat.le_of_ble_eq_true rfl) dX7_sheet_31 rfl (fun r31 F31 G31 h => ?_)
    exact x_iret (wf := w7 cI a) K h dX7_sheet_34
  · replace h := h.2 c4
    refine x_iload_n (pc' := 8) K dX7_sheet_7 2 rfl rfl ?_
    refine x_if_eq (tgt := 35) (pc' := 11) K dX7_sheet_8 rfl rfl (fun c8 => ?_) (fun c8 => ?_)
    · replace h := h.1 c8
      exact tX7_sheet_35 K _ _ _ _ _ h
    · replace h := h.2 c8
      refine x_iload_n (pc' := 12) K dX7_sheet_11 2 rfl rfl ?_
      refine x_bipush (pc' := 14) (v := 8) K dX7_sheet_12 (by decide) rfl ?_
      refine x_icmp_eq (tgt := 35) (pc' := 17) K dX7_sheet_14 rfl rfl (fun c14 => ?_) (fun c14 => ?_)
      · replace h := h.1 c14
        exact tX7_sheet_35 K _ _ _ _ _ h
      · replace h := h.2 c14
        refine x_iload_n (pc' := 18) K dX7_sheet_17 2 rfl rfl ?_
        refine x_bipush (pc' := 20) (v := 16) K dX7_sheet_18 (by decide) rfl ?_
        refine x_icmp_eq (tgt := 35) (pc' := 23) K dX7_sheet_20 rfl rfl (fun c20 => ?_) (fun c20 => ?_)
        · replace h := h.1 c20
          exact tX7_sheet_35 K _ _ _ _ _ h
        · replace h := h.2 c20
          refine x_iload_n (pc' := 24) K dX7_sheet_23 2 rfl rfl ?_
          refine x_bipush (pc' := 26) (v := 32) K dX7_sheet_24 (by decide) rfl ?_
          refine x_icmp_eq (tgt := 35) (pc' := 29) K dX7_sheet_26 rfl rfl (fun c26 => ?_) (fun c26 => ?_)
          · replace h := h.1 c26
            exact tX7_sheet_35 K _ _ _ _ _ h
          · replace h := h.2 c26
            refine x_aload_n (pc' := 30) K dX7_sheet_29 0 rfl rfl ?_
            refine x_iconst (pc' := 31) (v := 1) K dX7_sheet_30 (by decide) rfl ?_
            refine x_callI (pc' := 34) K (mX7_error l D cI cO a _) rfl gX7_sheet_X7_error rfl dsX7_error ⟨rfl, rfl, ⟨Nat.le_of_ble_eq_true rfl, Nat.le_of_ble_eq_true rfl⟩, Nat.le_of_ble_eq_true rfl, Nat.le_of_ble_eq_true rfl⟩ h 7 0 rfl rfl (st := []) rfl rfl (Nat.le_of_ble_eq_true rfl) dX7_sheet_31 rfl (fun r31 F31 G31 h => ?_)
            exact x_iret (wf := w7 cI a) K h dX7_sheet_34
/-! X7_put -/
abbrev rmX7_put : Room := { frames := 4, cells := 0, slots := 0, locals := 102 }
theorem dsX7_put : xDesc yX7_put 3 := by decide +kernel
theorem uX7_put_f47 : Cond.fieldLink RX7 47 "PigNinthsModel" "bits" "[I" ∈ wsX7_put := by decide +kernel
theorem hinX7_put_X7 : ∀ w ∈ wsX70, w ∈ wsX7_put := by decide +kernel
theorem uX7_put_f50 : Cond.fieldLink RX7 50 "PigNinthsModel" "sizes" "[I" ∈ wsX7_put := by decide +kernel
theorem uX7_put_f53 : Cond.fieldLink RX7 53 "PigNinthsModel" "number" "[I" ∈ wsX7_put := by decide +kernel
def qX7_put (x1 : Int32) (x2 : Int32) (x3 : Int32) (F : xF) (G : xA) (Q : Int32 → xF → xA → Prop) : Prop := qX7_isSheet x1 (fun r1 => ((¬ r1 = 0 → (vp_in x1 4) ∧ ((¬ (G 11 x1.toNatClampNeg) = 0 → (vp_in x1 4) ∧ qX7_in x2 (0 : Int32) ((G 12 x1.toNatClampNeg) - (1 : Int32)) (fun r38 => ((¬ r38 = 0 → (vp_in x1 4) ∧ (vp_in (((24 : Int32) * x1) + x2) 96) ∧ (∀ G78 : xA, G78 = xst G 13 (((24 : Int32) * x1) + x2).toNatClampNeg ((x3 <<< (((32 : Int32) - (G 11 x1.toNatClampNeg)) &&& 31)) >>> (((32 : Int32) - (G 11 x1.toNatClampNeg)) &&& 31)) → Q (1 : Int32) F G78)) ∧ (r38 = 0 → qX7_error (1 : Int32) F G (fun r46 F46 G46 => Q r46 F46 G46))))) ∧ ((G 11 x1.toNatClampNeg) = 0 → qX7_error (2 : Int32) F G (fun r24 F24 G24 => Q r24 F24 G24)))) ∧ (r1 = 0 → qX7_error (1 : Int32) F G (fun r9 F9 G9 => Q r9 F9 G9))))
set_option maxHeartbeats 4000000 in
set_option maxRecDepth 100000 in
theorem mX7_put (l : Launch) (D : va_G) (cI cO : ClassId) (a : Nat → Nat)  (x1 : Int32) (x2 : Int32) (x3 : Int32) : MI l yX7_put wsX7_put rmX7_put D (xtys cI cO) [.ref (a 0), .int x1, .int x2, .int x3] (w7 cI a) (qX7_put x1 x2 x3) := by
  refine MI_of (cc := cX7_put) (maxL := 5) (own := RX7) (by decide) rfl rfl (Nat.le_of_ble_eq_true rfl) ?_
  intro p e s m args below meth c A F G Q h K
  refine x_locals [0, 1, 2, 3] (L' := [(0, .ref (a 0)), (1, .int _), (2, .int _), (3, .int _)]) rfl ?_
  refine x_iload_n (pc' := 1) K dX7_put_0 1 rfl rfl ?_
  refine x_callS (pc' := 4) K (mX7_isSheet l D cI cO a _) rfl gX7_put_X7_isSheet dsX7_isSheet ⟨rfl, rfl, ⟨Nat.le_of_ble_eq_true rfl, Nat.le_of_ble_eq_true rfl⟩, Nat.le_of_ble_eq_true rfl, Nat.le_of_ble_eq_true rfl⟩ h (st := []) rfl rfl (Nat.le_of_ble_eq_true rfl) dX7_put_1 rfl (fun r1 h => ?_)
  refine x_if_ne (tgt := 13) (pc' := 7) K dX7_put_4 rfl rfl (fun c4 => ?_) (fun c4 => ?_)
  · replace h := h.1 c4
    refine x_aload_n (pc' := 14) K dX7_put_13 0 rfl rfl ?_
    refine xw7_0g_bits (pc' := 17) K hinX7_put_X7 uX7_put_f47 dX7_put_14 rfl ?_
    refine x_iload_n (pc' := 18) K dX7_put_17 1 rfl rfl ?_
    obtain ⟨i18, h⟩ := h
    refine xw7_12l (pc' := 19) K i18 rfl dX7_put_18 rfl ?_
    refine x_if_ne (tgt := 28) (pc' := 22) K dX7_put_19 rfl rfl (fun c19 => ?_) (fun c19 => ?_)
    · replace h := h.1 c19
      refine x_iload_n (pc' := 29) K dX7_put_28 2 rfl rfl ?_
      refine x_iconst (pc' := 30) (v := 0) K dX7_put_29 (by decide) rfl ?_
      refine x_aload_n (pc' := 31) K dX7_put_30 0 rfl rfl ?_
      refine xw7_0g_sizes (pc' := 34) K hinX7_put_X7 uX7_put_f50 dX7_put_31 rfl ?_
      refine x_iload_n (pc' := 35) K dX7_put_34 1 rfl rfl ?_
      obtain ⟨i35, h⟩ := h
      refine xw7_13l (pc' := 36) K i35 rfl dX7_put_35 rfl ?_
      refine x_iconst (pc' := 37) (v := 1) K dX7_put_36 (by decide) rfl ?_
      refine x_isub (pc' := 38) K dX7_put_37 rfl ?_
      refine x_callS (pc' := 41) K (mX7_in l D cI cO a _ _ _) rfl gX7_put_X7_in dsX7_in ⟨rfl, rfl, ⟨Nat.le_of_ble_eq_true rfl, Nat.le_of_ble_eq_true rfl⟩, Nat.le_of_ble_eq_true rfl, Nat.le_of_ble_eq_true rfl⟩ h (st := []) rfl rfl (Nat.le_of_ble_eq_true rfl) dX7_put_38 rfl (fun r38 h => ?_)
      refine x_if_ne (tgt := 50) (pc' := 44) K dX7_put_41 rfl rfl (fun c41 => ?_) (fun c41 => ?_)
      · replace h := h.1 c41
        refine x_bipush (pc' := 52) (v := 32) K dX7_put_50 (by decide) rfl ?_
        refine x_aload_n (pc' := 53) K dX7_put_52 0 rfl rfl ?_
        refine xw7_0g_bits (pc' := 56) K hinX7_put_X7 uX7_put_f47 dX7_put_53 rfl ?_
        refine x_iload_n (pc' := 57) K dX7_put_56 1 rfl rfl ?_
        obtain ⟨i57, h⟩ := h
        refine xw7_12l (pc' := 58) K i57 rfl dX7_put_57 rfl ?_
        refine x_isub (pc' := 59) K dX7_put_58 rfl ?_
        refine x_istore (pc' := 61) (i := 4) K dX7_put_59 (by decide) [1, 2, 3, 4, 0] (L' := [(0, .ref (a 0)), (1, .int _), (2, .int _), (3, .int _), (4, .int _)]) rfl rfl ?_
        refine x_aload_n (pc' := 62) K dX7_put_61 0 rfl rfl ?_
        refine xw7_0g_number (pc' := 65) K hinX7_put_X7 uX7_put_f53 dX7_put_62 rfl ?_
        refine x_bipush (pc' := 67) (v := 24) K dX7_put_65 (by decide) rfl ?_
        refine x_iload_n (pc' := 68) K dX7_put_67 1 rfl rfl ?_
        refine x_imul (pc' := 69) K dX7_put_68 rfl ?_
        refine x_iload_n (pc' := 70) K dX7_put_69 2 rfl rfl ?_
        refine x_iadd (pc' := 71) K dX7_put_70 rfl ?_
        refine x_iload_n (pc' := 72) K dX7_put_71 3 rfl rfl ?_
        refine x_iload (pc' := 74) K dX7_put_72 4 rfl rfl ?_
        refine x_ishl (pc' := 75) K dX7_put_74 rfl ?_
        refine x_iload (pc' := 77) K dX7_put_75 4 rfl rfl ?_
        refine x_ishr (pc' := 78) K dX7_put_77 rfl ?_
        obtain ⟨i78, h⟩ := h
        refine xw7_14s (pc' := 79) K i78 rfl dX7_put_78 rfl (fun G78 eG78 => ?_)
        replace h := h G78 eG78
        refine x_iconst (pc' := 80) (v := 1) K dX7_put_79 (by decide) rfl ?_
        exact x_iret (wf := w7 cI a) K h dX7_put_80
      · replace h := h.2 c41
        refine x_aload_n (pc' := 45) K dX7_put_44 0 rfl rfl ?_
        refine x_iconst (pc' := 46) (v := 1) K dX7_put_45 (by decide) rfl ?_
        refine x_callI (pc' := 49) K (mX7_error l D cI cO a _) rfl gX7_put_X7_error rfl dsX7_error ⟨rfl, rfl, ⟨Nat.le_of_ble_eq_true rfl, Nat.le_of_ble_eq_true rfl⟩, Nat.le_of_ble_eq_true rfl, Nat.le_of_ble_eq_true rfl⟩ h 7 0 rfl rfl (st := []) rfl rfl (Nat.le_of_ble_eq_true rfl) dX7_put_46 rfl (fun r46 F46 G46 h => ?_)
        exact x_iret (wf := w7 cI a) K h dX7_put_49
    · replace h := h.2 c19
      refine x_aload_n (pc' := 23) K dX7_put_22 0 rfl rfl ?_
      refine x_iconst (pc' := 24) (v := 2) K dX7_put_23 (by decide) rfl ?_
      refine x_callI (pc' := 27) K (mX7_error l D cI cO a _) rfl gX7_put_X7_error rfl dsX7_error ⟨rfl, rfl, ⟨Nat.le_of_ble_eq_true rfl, Nat.le_of_ble_eq_true rfl⟩, Nat.le_of_ble_eq_true rfl, Nat.le_of_ble_eq_true rfl⟩ h 7 0 rfl rfl (st := []) rfl rfl (Nat.le_of_ble_eq_true rfl) dX7_put_24 rfl (fun r24 F24 G24 h => ?_)
      exact x_iret (wf := w7 cI a) K h dX7_put_27
  · replace h := h.2 c4
    refine x_aload_n (pc' := 8) K dX7_put_7 0 rfl rfl ?_
    refine x_iconst (pc' := 9) (v := 1) K dX7_put_8 (by decide) rfl ?_
    refine x_callI (pc' := 12) K (mX7_error l D cI cO a _) rfl gX7_put_X7_error rfl dsX7_error ⟨rfl, rfl, ⟨Nat.le_of_ble_eq_true rfl, Nat.le_of_ble_eq_true rfl⟩, Nat.le_of_ble_eq_true rfl, Nat.le_of_ble_eq_true rfl⟩ h 7 0 rfl rfl (st := []) rfl rfl (Nat.le_of_ble_eq_true rfl) dX7_put_9 rfl (fun r9 F9 G9 h => ?_)
    exact x_iret (wf := w7 cI a) K h dX7_put_12
/-! X7_move -/
abbrev rmX7_move : Room := { frames := 4, cells := 0, slots := 0, locals := 102 }
theorem dsX7_move : xDesc yX7_move 5 := by decide +kernel
theorem uX7_move_f47 : Cond.fieldLink RX7 47 "PigNinthsModel" "bits" "[I" ∈ wsX7_move := by decide +kernel
theorem hinX7_move_X7 : ∀ w ∈ wsX70, w ∈ wsX7_move := by decide +kernel
theorem uX7_move_f50 : Cond.fieldLink RX7 50 "PigNinthsModel" "sizes" "[I" ∈ wsX7_move := by decide +kernel
theorem uX7_move_f56 : Cond.fieldLink RX7 56 "PigNinthsModel" "aside" "[I" ∈ wsX7_move := by decide +kernel
theorem uX7_move_f53 : Cond.fieldLink RX7 53 "PigNinthsModel" "number" "[I" ∈ wsX7_move := by decide +kernel
def qX7_move_152 (Q : Int32 → xF → xA → Prop) : Nat → Int32 → Int32 → Int32 → Int32 → xF → xA → Prop
  | 0, _, _, _, _, _, _ => False
  | n + 1, x3, x4, x5, x6, F, G => ((x5 ≤ x6 → Q x5 F G) ∧ (¬ x5 ≤ x6 → (vp_in x6 24) ∧ (vp_in ((((24 : Int32) * x3) + x4) + x6) 96) ∧ (∀ G180 : xA, G180 = xst G 13 ((((24 : Int32) * x3) + x4) + x6).toNatClampNeg (G 14 x6.toNatClampNeg) → qX7_move_152 Q n x3 x4 x5 (x6 + (1 : Int32)) F G180)))
def qX7_move_115 (Q : Int32 → xF → xA → Prop) : Nat → Int32 → Int32 → Int32 → Int32 → Int32 → Int32 → xF → xA → Prop
  | 0, _, _, _, _, _, _, _, _ => False
  | n + 1, x1, x2, x3, x4, x5, x6, F, G => ((x5 ≤ x6 → ∃ j152, qX7_move_152 Q j152 x3 x4 x5 (0 : Int32) F G) ∧ (¬ x5 ≤ x6 → (vp_in ((((24 : Int32) * x1) + x2) + x6) 96) ∧ (vp_in x6 24) ∧ (∀ G142 : xA, G142 = xst G 14 x6.toNatClampNeg (G 13 ((((24 : Int32) * x1) + x2) + x6).toNatClampNeg) → qX7_move_115 Q n x1 x2 x3 x4 x5 (x6 + (1 : Int32)) F G142)))
def qX7_move (x1 : Int32) (x2 : Int32) (x3 : Int32) (x4 : Int32) (x5 : Int32) (F : xF) (G : xA) (Q : Int32 → xF → xA → Prop) : Prop := qX7_isSheet x1 (fun r1 => ((r1 = 0 → qX7_error (1 : Int32) F G (fun r16 F16 G16 => Q r16 F16 G16)) ∧ (¬ r1 = 0 → qX7_isSheet x3 (fun r8 => ((¬ r8 = 0 → (vp_in x1 4) ∧ (((G 11 x1.toNatClampNeg) = 0 → qX7_error (2 : Int32) F G (fun r40 F40 G40 => Q r40 F40 G40)) ∧ (¬ (G 11 x1.toNatClampNeg) = 0 → (vp_in x3 4) ∧ ((¬ (G 11 x3.toNatClampNeg) = 0 → (vp_in x1 4) ∧ (vp_in x3 4) ∧ (((G 11 x1.toNatClampNeg) = (G 11 x3.toNatClampNeg) → ((x5 < 0 → qX7_error (1 : Int32) F G (fun r108 F108 G108 => Q r108 F108 G108)) ∧ (¬ x5 < 0 → ((x2 < 0 → qX7_error (1 : Int32) F G (fun r108 F108 G108 => Q r108 F108 G108)) ∧ (¬ x2 < 0 → ((x4 < 0 → qX7_error (1 : Int32) F G (fun r108 F108 G108 => Q r108 F108 G108)) ∧ (¬ x4 < 0 → (vp_in x1 4) ∧ ((((G 12 x1.toNatClampNeg) - x5) < x2 → qX7_error (1 : Int32) F G (fun r108 F108 G108 => Q r108 F108 G108)) ∧ (¬ ((G 12 x1.toNatClampNeg) - x5) < x2 → (vp_in x3 4) ∧ ((x4 ≤ ((G 12 x3.toNatClampNeg) - x5) → ∃ j115, qX7_move_115 Q j115 x1 x2 x3 x4 x5 (0 : Int32) F G) ∧ (¬ x4 ≤ ((G 12 x3.toNatClampNeg) - x5) → qX7_error (1 : Int32) F G (fun r108 F108 G108 => Q r108 F108 G108)))))))))))) ∧ (¬ (G 11 x1.toNatClampNeg) = (G 11 x3.toNatClampNeg) → qX7_error (5 : Int32) F G (fun r61 F61 G61 => Q r61 F61 G61)))) ∧ ((G 11 x3.toNatClampNeg) = 0 → qX7_error (2 : Int32) F G (fun r40 F40 G40 => Q r40 F40 G40)))))) ∧ (r8 = 0 → qX7_error (1 : Int32) F G (fun r16 F16 G16 => Q r16 F16 G16)))))))
set_option maxHeartbeats 4000000 in
set_option maxRecDepth 100000 in
theorem tX7_move_152 (K : XK p m c cX7_move 7 s args wsX7_move RX7 D (xtys cI cO) A meth (some .int)) {Q : Int32 → xF → xA → Prop} : ∀ (n : Nat), ∀ (x3 : Int32) (x4 : Int32) (x5 : Int32) (x6 : Int32) (F : xF) (G : xA), qX7_move_152 Q n x3 x4 x5 x6 F G → XJ p l e rmX7_move s m args below meth c 0 0 (MQ below (xQi D (w7 cI a) A Q) args s 0 0 A) D (xtys cI cO) A 7 (w7 cI a F G) 152 [(0, .ref (a 0)), (3, .int x3), (4, .int x4), (5, .int x5), (6, .int x6)] [] := by
  intro n
  induction n with
  | zero =>
    intro x3 x4 x5 x6 F G h
    exact False.elim h
  | succ n ih =>
    intro x3 x4 x5 x6 F G h
    refine x_iload (pc' := 154) K dX7_move_152 4 rfl rfl ?_
    refine x_iload (pc' := 156) K dX7_move_154 3 rfl rfl ?_
    refine x_icmp_ge (tgt := 187) (pc' := 159) K dX7_move_156 rfl rfl (fun c156 => ?_) (fun c156 => ?_)
    · replace h := h.1 c156
      refine x_iload (pc' := 189) K dX7_move_187 3 rfl rfl ?_
      exact x_iret (wf := w7 cI a) K h dX7_move_189
    · replace h := h.2 c156
      refine x_aload_n (pc' := 160) K dX7_move_159 0 rfl rfl ?_
      refine xw7_0g_number (pc' := 163) K hinX7_move_X7 uX7_move_f53 dX7_move_160 rfl ?_
      refine x_bipush (pc' := 165) (v := 24) K dX7_move_163 (by decide) rfl ?_
      refine x_iload_n (pc' := 166) K dX7_move_165 1 rfl rfl ?_
      refine x_imul (pc' := 167) K dX7_move_166 rfl ?_
      refine x_iload (pc' := 169) K dX7_move_167 2 rfl rfl ?_
      refine x_iadd (pc' := 170) K dX7_move_169 rfl ?_
      refine x_iload (pc' := 172) K dX7_move_170 4 rfl rfl ?_
      refine x_iadd (pc' := 173) K dX7_move_172 rfl ?_
      refine x_aload_n (pc' := 174) K dX7_move_173 0 rfl rfl ?_
      refine xw7_0g_aside (pc' := 177) K hinX7_move_X7 uX7_move_f56 dX7_move_174 rfl ?_
      refine x_iload (pc' := 179) K dX7_move_177 4 rfl rfl ?_
      obtain ⟨i179, h⟩ := h
      refine xw7_15l (pc' := 180) K i179 rfl dX7_move_179 rfl ?_
      obtain ⟨i180, h⟩ := h
      refine xw7_14s (pc' := 181) K i180 rfl dX7_move_180 rfl (fun G180 eG180 => ?_)
      replace h := h G180 eG180
      refine x_iinc (pc' := 184) (v := _ + (1 : Int32)) K dX7_move_181 4 rfl rfl (by decide) [1, 2, 3, 4, 0] (L' := [(0, .ref (a 0)), (3, .int _), (4, .int _), (5, .int _), (6, .int _)]) rfl rfl ?_
      refine x_goto (tgt := 152) K dX7_move_184 rfl ?_
      exact ih _ _ _ _ _ _ h
set_option maxHeartbeats 4000000 in
set_option maxRecDepth 100000 in
theorem tX7_move_115 (K : XK p m c cX7_move 7 s args wsX7_move RX7 D (xtys cI cO) A meth (some .int)) {Q : Int32 → xF → xA → Prop} : ∀ (n : Nat), ∀ (x1 : Int32) (x2 : Int32) (x3 : Int32) (x4 : Int32) (x5 : Int32) (x6 : Int32) (F : xF) (G : xA), qX7_move_115 Q n x1 x2 x3 x4 x5 x6 F G → XJ p l e rmX7_move s m args below meth c 0 0 (MQ below (xQi D (w7 cI a) A Q) args s 0 0 A) D (xtys cI cO) A 7 (w7 cI a F G) 115 [(0, .ref (a 0)), (1, .int x1), (2, .int x2), (3, .int x3), (4, .int x4), (5, .int x5), (6, .int x6)] [] := by
  intro n
  induction n with
  | zero =>
    intro x1 x2 x3 x4 x5 x6 F G h
    exact False.elim h
  | succ n ih =>
    intro x1 x2 x3 x4 x5 x6 F G h
    refine x_iload (pc' := 117) K dX7_move_115 6 rfl rfl ?_
    refine x_iload (pc' := 119) K dX7_move_117 5 rfl rfl ?_
    refine x_icmp_ge (tgt := 149) (pc' := 122) K dX7_move_119 rfl rfl (fun c119 => ?_) (fun c119 => ?_)
    · replace h := h.1 c119
      refine x_iconst (pc' := 150) (v := 0) K dX7_move_149 (by decide) rfl ?_
      refine x_istore (pc' := 152) (i := 6) K dX7_move_150 (by decide) [1, 2, 3, 4, 5, 6, 0] (L' := [(0, .ref (a 0)), (1, .int _), (2, .int _), (3, .int _), (4, .int _), (5, .int _), (6, .int _)]) rfl rfl ?_
      refine x_locals [0, 3, 4, 5, 6] (L' := [(0, .ref (a 0)), (3, .int _), (4, .int _), (5, .int _), (6, .int _)]) rfl ?_
      obtain ⟨n152, h⟩ := h
      exact tX7_move_152 K n152 _ _ _ _ _ _ h
    · replace h := h.2 c119
      refine x_aload_n (pc' := 123) K dX7_move_122 0 rfl rfl ?_
      refine xw7_0g_aside (pc' := 126) K hinX7_move_X7 uX7_move_f56 dX7_move_123 rfl ?_
      refine x_iload (pc' := 128) K dX7_move_126 6 rfl rfl ?_
      refine x_aload_n (pc' := 129) K dX7_move_128 0 rfl rfl ?_
      refine xw7_0g_number (pc' := 132) K hinX7_move_X7 uX7_move_f53 dX7_move_129 rfl ?_
      refine x_bipush (pc' := 134) (v := 24) K dX7_move_132 (by decide) rfl ?_
      refine x_iload_n (pc' := 135) K dX7_move_134 1 rfl rfl ?_
      refine x_imul (pc' := 136) K dX7_move_135 rfl ?_
      refine x_iload_n (pc' := 137) K dX7_move_136 2 rfl rfl ?_
      refine x_iadd (pc' := 138) K dX7_move_137 rfl ?_
      refine x_iload (pc' := 140) K dX7_move_138 6 rfl rfl ?_
      refine x_iadd (pc' := 141) K dX7_move_140 rfl ?_
      obtain ⟨i141, h⟩ := h
      refine xw7_14l (pc' := 142) K i141 rfl dX7_move_141 rfl ?_
      obtain ⟨i142, h⟩ := h
      refine xw7_15s (pc' := 143) K i142 rfl dX7_move_142 rfl (fun G142 eG142 => ?_)
      replace h := h G142 eG142
      refine x_iinc (pc' := 146) (v := _ + (1 : Int32)) K dX7_move_143 6 rfl rfl (by decide) [1, 2, 3, 4, 5, 6, 0] (L' := [(0, .ref (a 0)), (1, .int _), (2, .int _), (3, .int _), (4, .int _), (5, .int _), (6, .int _)]) rfl rfl ?_
      refine x_goto (tgt := 115) K dX7_move_146 rfl ?_
      exact ih _ _ _ _ _ _ _ _ h
set_option maxHeartbeats 4000000 in
set_option maxRecDepth 100000 in
theorem mX7_move (l : Launch) (D : va_G) (cI cO : ClassId) (a : Nat → Nat)  (x1 : Int32) (x2 : Int32) (x3 : Int32) (x4 : Int32) (x5 : Int32) : MI l yX7_move wsX7_move rmX7_move D (xtys cI cO) [.ref (a 0), .int x1, .int x2, .int x3, .int x4, .int x5] (w7 cI a) (qX7_move x1 x2 x3 x4 x5) := by
  refine MI_of (cc := cX7_move) (maxL := 7) (own := RX7) (by decide) rfl rfl (Nat.le_of_ble_eq_true rfl) ?_
  intro p e s m args below meth c A F G Q h K
  refine x_locals [0, 1, 2, 3, 4, 5] (L' := [(0, .ref (a 0)), (1, .int _), (2, .int _), (3, .int _), (4, .int _), (5, .int _)]) rfl ?_
  refine x_iload_n (pc' := 1) K dX7_move_0 1 rfl rfl ?_
  refine x_callS (pc' := 4) K (mX7_isSheet l D cI cO a _) rfl gX7_move_X7_isSheet dsX7_isSheet ⟨rfl, rfl, ⟨Nat.le_of_ble_eq_true rfl, Nat.le_of_ble_eq_true rfl⟩, Nat.le_of_ble_eq_true rfl, Nat.le_of_ble_eq_true rfl⟩ h (st := []) rfl rfl (Nat.le_of_ble_eq_true rfl) dX7_move_1 rfl (fun r1 h => ?_)
  refine x_if_eq (tgt := 14) (pc' := 7) K dX7_move_4 rfl rfl (fun c4 => ?_) (fun c4 => ?_)
  · replace h := h.1 c4
    refine x_aload_n (pc' := 15) K dX7_move_14 0 rfl rfl ?_
    refine x_iconst (pc' := 16) (v := 1) K dX7_move_15 (by decide) rfl ?_
    refine x_callI (pc' := 19) K (mX7_error l D cI cO a _) rfl gX7_move_X7_error rfl dsX7_error ⟨rfl, rfl, ⟨Nat.le_of_ble_eq_true rfl, Nat.le_of_ble_eq_true rfl⟩, Nat.le_of_ble_eq_true rfl, Nat.le_of_ble_eq_true rfl⟩ h 7 0 rfl rfl (st := []) rfl rfl (Nat.le_of_ble_eq_true rfl) dX7_move_16 rfl (fun r16 F16 G16 h => ?_)
    exact x_iret (wf := w7 cI a) K h dX7_move_19
  · replace h := h.2 c4
    refine x_iload_n (pc' := 8) K dX7_move_7 3 rfl rfl ?_
    refine x_callS (pc' := 11) K (mX7_isSheet l D cI cO a _) rfl gX7_move_X7_isSheet dsX7_isSheet ⟨rfl, rfl, ⟨Nat.le_of_ble_eq_true rfl, Nat.le_of_ble_eq_true rfl⟩, Nat.le_of_ble_eq_true rfl, Nat.le_of_ble_eq_true rfl⟩ h (st := []) rfl rfl (Nat.le_of_ble_eq_true rfl) dX7_move_8 rfl (fun r8 h => ?_)
    refine x_if_ne (tgt := 20) (pc' := 14) K dX7_move_11 rfl rfl (fun c11 => ?_) (fun c11 => ?_)
    · replace h := h.1 c11
      refine x_aload_n (pc' := 21) K dX7_move_20 0 rfl rfl ?_
      refine xw7_0g_bits (pc' := 24) K hinX7_move_X7 uX7_move_f47 dX7_move_21 rfl ?_
      refine x_iload_n (pc' := 25) K dX7_move_24 1 rfl rfl ?_
      obtain ⟨i25, h⟩ := h
      refine xw7_12l (pc' := 26) K i25 rfl dX7_move_25 rfl ?_
      refine x_if_eq (tgt := 38) (pc' := 29) K dX7_move_26 rfl rfl (fun c26 => ?_) (fun c26 => ?_)
      · replace h := h.1 c26
        refine x_aload_n (pc' := 39) K dX7_move_38 0 rfl rfl ?_
        refine x_iconst (pc' := 40) (v := 2) K dX7_move_39 (by decide) rfl ?_
        refine x_callI (pc' := 43) K (mX7_error l D cI cO a _) rfl gX7_move_X7_error rfl dsX7_error ⟨rfl, rfl, ⟨Nat.le_of_ble_eq_true rfl, Nat.le_of_ble_eq_true rfl⟩, Nat.le_of_ble_eq_true rfl, Nat.le_of_ble_eq_true rfl⟩ h 7 0 rfl rfl (st := []) rfl rfl (Nat.le_of_ble_eq_true rfl) dX7_move_40 rfl (fun r40 F40 G40 h => ?_)
        exact x_iret (wf := w7 cI a) K h dX7_move_43
      · replace h := h.2 c26
        refine x_aload_n (pc' := 30) K dX7_move_29 0 rfl rfl ?_
        refine xw7_0g_bits (pc' := 33) K hinX7_move_X7 uX7_move_f47 dX7_move_30 rfl ?_
        refine x_iload_n (pc' := 34) K dX7_move_33 3 rfl rfl ?_
        obtain ⟨i34, h⟩ := h
        refine xw7_12l (pc' := 35) K i34 rfl dX7_move_34 rfl ?_
        refine x_if_ne (tgt := 44) (pc' := 38) K dX7_move_35 rfl rfl (fun c35 => ?_) (fun c35 => ?_)
        · replace h := h.1 c35
          refine x_aload_n (pc' := 45) K dX7_move_44 0 rfl rfl ?_
          refine xw7_0g_bits (pc' := 48) K hinX7_move_X7 uX7_move_f47 dX7_move_45 rfl ?_
          refine x_iload_n (pc' := 49) K dX7_move_48 1 rfl rfl ?_
          obtain ⟨i49, h⟩ := h
          refine xw7_12l (pc' := 50) K i49 rfl dX7_move_49 rfl ?_
          refine x_aload_n (pc' := 51) K dX7_move_50 0 rfl rfl ?_
          refine xw7_0g_bits (pc' := 54) K hinX7_move_X7 uX7_move_f47 dX7_move_51 rfl ?_
          refine x_iload_n (pc' := 55) K dX7_move_54 3 rfl rfl ?_
          obtain ⟨i55, h⟩ := h
          refine xw7_12l (pc' := 56) K i55 rfl dX7_move_55 rfl ?_
          refine x_icmp_eq (tgt := 65) (pc' := 59) K dX7_move_56 rfl rfl (fun c56 => ?_) (fun c56 => ?_)
          · replace h := h.1 c56
            refine x_iload (pc' := 67) K dX7_move_65 5 rfl rfl ?_
            refine x_if_lt (tgt := 106) (pc' := 70) K dX7_move_67 rfl rfl (fun c67 => ?_) (fun c67 => ?_)
            · replace h := h.1 c67
              refine x_aload_n (pc' := 107) K dX7_move_106 0 rfl rfl ?_
              refine x_iconst (pc' := 108) (v := 1) K dX7_move_107 (by decide) rfl ?_
              refine x_callI (pc' := 111) K (mX7_error l D cI cO a _) rfl gX7_move_X7_error rfl dsX7_error ⟨rfl, rfl, ⟨Nat.le_of_ble_eq_true rfl, Nat.le_of_ble_eq_true rfl⟩, Nat.le_of_ble_eq_true rfl, Nat.le_of_ble_eq_true rfl⟩ h 7 0 rfl rfl (st := []) rfl rfl (Nat.le_of_ble_eq_true rfl) dX7_move_108 rfl (fun r108 F108 G108 h => ?_)
              exact x_iret (wf := w7 cI a) K h dX7_move_111
            · replace h := h.2 c67
              refine x_iload_n (pc' := 71) K dX7_move_70 2 rfl rfl ?_
              refine x_if_lt (tgt := 106) (pc' := 74) K dX7_move_71 rfl rfl (fun c71 => ?_) (fun c71 => ?_)
              · replace h := h.1 c71
                refine x_aload_n (pc' := 107) K dX7_move_106 0 rfl rfl ?_
                refine x_iconst (pc' := 108) (v := 1) K dX7_move_107 (by decide) rfl ?_
                refine x_callI (pc' := 111) K (mX7_error l D cI cO a _) rfl gX7_move_X7_error rfl dsX7_error ⟨rfl, rfl, ⟨Nat.le_of_ble_eq_true rfl, Nat.le_of_ble_eq_true rfl⟩, Nat.le_of_ble_eq_true rfl, Nat.le_of_ble_eq_true rfl⟩ h 7 0 rfl rfl (st := []) rfl rfl (Nat.le_of_ble_eq_true rfl) dX7_move_108 rfl (fun r108 F108 G108 h => ?_)
                exact x_iret (wf := w7 cI a) K h dX7_move_111
              · replace h := h.2 c71
                refine x_iload (pc' := 76) K dX7_move_74 4 rfl rfl ?_
                refine x_if_lt (tgt := 106) (pc' := 79) K dX7_move_76 rfl rfl (fun c76 => ?_) (fun c76 => ?_)
                · replace h := h.1 c76
                  refine x_aload_n (pc' := 107) K dX7_move_106 0 rfl rfl ?_
                  refine x_iconst (pc' := 108) (v := 1) K dX7_move_107 (by decide) rfl ?_
                  refine x_callI (pc' := 111) K (mX7_error l D cI cO a _) rfl gX7_move_X7_error rfl dsX7_error ⟨rfl, rfl, ⟨Nat.le_of_ble_eq_true rfl, Nat.le_of_ble_eq_true rfl⟩, Nat.le_of_ble_eq_true rfl, Nat.le_of_ble_eq_true rfl⟩ h 7 0 rfl rfl (st := []) rfl rfl (Nat.le_of_ble_eq_true rfl) dX7_move_108 rfl (fun r108 F108 G108 h => ?_)
                  exact x_iret (wf := w7 cI a) K h dX7_move_111
                · replace h := h.2 c76
                  refine x_iload_n (pc' := 80) K dX7_move_79 2 rfl rfl ?_
                  refine x_aload_n (pc' := 81) K dX7_move_80 0 rfl rfl ?_
                  refine xw7_0g_sizes (pc' := 84) K hinX7_move_X7 uX7_move_f50 dX7_move_81 rfl ?_
                  refine x_iload_n (pc' := 85) K dX7_move_84 1 rfl rfl ?_
                  obtain ⟨i85, h⟩ := h
                  refine xw7_13l (pc' := 86) K i85 rfl dX7_move_85 rfl ?_
                  refine x_iload (pc' := 88) K dX7_move_86 5 rfl rfl ?_
                  refine x_isub (pc' := 89) K dX7_move_88 rfl ?_
                  refine x_icmp_gt (tgt := 106) (pc' := 92) K dX7_move_89 rfl rfl (fun c89 => ?_) (fun c89 => ?_)
                  · replace h := h.1 c89
                    refine x_aload_n (pc' := 107) K dX7_move_106 0 rfl rfl ?_
                    refine x_iconst (pc' := 108) (v := 1) K dX7_move_107 (by decide) rfl ?_
                    refine x_callI (pc' := 111) K (mX7_error l D cI cO a _) rfl gX7_move_X7_error rfl dsX7_error ⟨rfl, rfl, ⟨Nat.le_of_ble_eq_true rfl, Nat.le_of_ble_eq_true rfl⟩, Nat.le_of_ble_eq_true rfl, Nat.le_of_ble_eq_true rfl⟩ h 7 0 rfl rfl (st := []) rfl rfl (Nat.le_of_ble_eq_true rfl) dX7_move_108 rfl (fun r108 F108 G108 h => ?_)
                    exact x_iret (wf := w7 cI a) K h dX7_move_111
                  · replace h := h.2 c89
                    refine x_iload (pc' := 94) K dX7_move_92 4 rfl rfl ?_
                    refine x_aload_n (pc' := 95) K dX7_move_94 0 rfl rfl ?_
                    refine xw7_0g_sizes (pc' := 98) K hinX7_move_X7 uX7_move_f50 dX7_move_95 rfl ?_
                    refine x_iload_n (pc' := 99) K dX7_move_98 3 rfl rfl ?_
                    obtain ⟨i99, h⟩ := h
                    refine xw7_13l (pc' := 100) K i99 rfl dX7_move_99 rfl ?_
                    refine x_iload (pc' := 102) K dX7_move_100 5 rfl rfl ?_
                    refine x_isub (pc' := 103) K dX7_move_102 rfl ?_
                    refine x_icmp_le (tgt := 112) (pc' := 106) K dX7_move_103 rfl rfl (fun c103 => ?_) (fun c103 => ?_)
                    · replace h := h.1 c103
                      refine x_iconst (pc' := 113) (v := 0) K dX7_move_112 (by decide) rfl ?_
                      refine x_istore (pc' := 115) (i := 6) K dX7_move_113 (by decide) [1, 2, 3, 4, 5, 6, 0] (L' := [(0, .ref (a 0)), (1, .int _), (2, .int _), (3, .int _), (4, .int _), (5, .int _), (6, .int _)]) rfl rfl ?_
                      obtain ⟨n115, h⟩ := h
                      exact tX7_move_115 K n115 _ _ _ _ _ _ _ _ h
                    · replace h := h.2 c103
                      refine x_aload_n (pc' := 107) K dX7_move_106 0 rfl rfl ?_
                      refine x_iconst (pc' := 108) (v := 1) K dX7_move_107 (by decide) rfl ?_
                      refine x_callI (pc' := 111) K (mX7_error l D cI cO a _) rfl gX7_move_X7_error rfl dsX7_error ⟨rfl, rfl, ⟨Nat.le_of_ble_eq_true rfl, Nat.le_of_ble_eq_true rfl⟩, Nat.le_of_ble_eq_true rfl, Nat.le_of_ble_eq_true rfl⟩ h 7 0 rfl rfl (st := []) rfl rfl (Nat.le_of_ble_eq_true rfl) dX7_move_108 rfl (fun r108 F108 G108 h => ?_)
                      exact x_iret (wf := w7 cI a) K h dX7_move_111
          · replace h := h.2 c56
            refine x_aload_n (pc' := 60) K dX7_move_59 0 rfl rfl ?_
            refine x_iconst (pc' := 61) (v := 5) K dX7_move_60 (by decide) rfl ?_
            refine x_callI (pc' := 64) K (mX7_error l D cI cO a _) rfl gX7_move_X7_error rfl dsX7_error ⟨rfl, rfl, ⟨Nat.le_of_ble_eq_true rfl, Nat.le_of_ble_eq_true rfl⟩, Nat.le_of_ble_eq_true rfl, Nat.le_of_ble_eq_true rfl⟩ h 7 0 rfl rfl (st := []) rfl rfl (Nat.le_of_ble_eq_true rfl) dX7_move_61 rfl (fun r61 F61 G61 h => ?_)
            exact x_iret (wf := w7 cI a) K h dX7_move_64
        · replace h := h.2 c35
          refine x_aload_n (pc' := 39) K dX7_move_38 0 rfl rfl ?_
          refine x_iconst (pc' := 40) (v := 2) K dX7_move_39 (by decide) rfl ?_
          refine x_callI (pc' := 43) K (mX7_error l D cI cO a _) rfl gX7_move_X7_error rfl dsX7_error ⟨rfl, rfl, ⟨Nat.le_of_ble_eq_true rfl, Nat.le_of_ble_eq_true rfl⟩, Nat.le_of_ble_eq_true rfl, Nat.le_of_ble_eq_true rfl⟩ h 7 0 rfl rfl (st := []) rfl rfl (Nat.le_of_ble_eq_true rfl) dX7_move_40 rfl (fun r40 F40 G40 h => ?_)
          exact x_iret (wf := w7 cI a) K h dX7_move_43
    · replace h := h.2 c11
      refine x_aload_n (pc' := 15) K dX7_move_14 0 rfl rfl ?_
      refine x_iconst (pc' := 16) (v := 1) K dX7_move_15 (by decide) rfl ?_
      refine x_callI (pc' := 19) K (mX7_error l D cI cO a _) rfl gX7_move_X7_error rfl dsX7_error ⟨rfl, rfl, ⟨Nat.le_of_ble_eq_true rfl, Nat.le_of_ble_eq_true rfl⟩, Nat.le_of_ble_eq_true rfl, Nat.le_of_ble_eq_true rfl⟩ h 7 0 rfl rfl (st := []) rfl rfl (Nat.le_of_ble_eq_true rfl) dX7_move_16 rfl (fun r16 F16 G16 h => ?_)
      exact x_iret (wf := w7 cI a) K h dX7_move_19
/-! X7_lacks -/
abbrev rmX7_lacks : Room := { frames := 4, cells := 0, slots := 0, locals := 102 }
theorem dsX7_lacks : xDesc yX7_lacks 1 := by decide +kernel
theorem uX7_lacks_f47 : Cond.fieldLink RX7 47 "PigNinthsModel" "bits" "[I" ∈ wsX7_lacks := by decide +kernel
theorem hinX7_lacks_X7 : ∀ w ∈ wsX70, w ∈ wsX7_lacks := by decide +kernel
def qX7_lacks (x1 : Int32) (F : xF) (G : xA) (Q : Int32 → xF → xA → Prop) : Prop := qX7_isSheet x1 (fun r1 => ((¬ r1 = 0 → (vp_in x1 4) ∧ ((¬ (G 11 x1.toNatClampNeg) = 0 → Q (0 : Int32) F G) ∧ ((G 11 x1.toNatClampNeg) = 0 → Q (2 : Int32) F G))) ∧ (r1 = 0 → Q (1 : Int32) F G)))
set_option maxHeartbeats 4000000 in
set_option maxRecDepth 100000 in
theorem mX7_lacks (l : Launch) (D : va_G) (cI cO : ClassId) (a : Nat → Nat)  (x1 : Int32) : MI l yX7_lacks wsX7_lacks rmX7_lacks D (xtys cI cO) [.ref (a 0), .int x1] (w7 cI a) (qX7_lacks x1) := by
  refine MI_of (cc := cX7_lacks) (maxL := 2) (own := RX7) (by decide) rfl rfl (Nat.le_of_ble_eq_true rfl) ?_
  intro p e s m args below meth c A F G Q h K
  refine x_locals [0, 1] (L' := [(0, .ref (a 0)), (1, .int _)]) rfl ?_
  refine x_iload_n (pc' := 1) K dX7_lacks_0 1 rfl rfl ?_
  refine x_callS (pc' := 4) K (mX7_isSheet l D cI cO a _) rfl gX7_lacks_X7_isSheet dsX7_isSheet ⟨rfl, rfl, ⟨Nat.le_of_ble_eq_true rfl, Nat.le_of_ble_eq_true rfl⟩, Nat.le_of_ble_eq_true rfl, Nat.le_of_ble_eq_true rfl⟩ h (st := []) rfl rfl (Nat.le_of_ble_eq_true rfl) dX7_lacks_1 rfl (fun r1 h => ?_)
  refine x_if_ne (tgt := 11) (pc' := 7) K dX7_lacks_4 rfl rfl (fun c4 => ?_) (fun c4 => ?_)
  · replace h := h.1 c4
    refine x_aload_n (pc' := 12) K dX7_lacks_11 0 rfl rfl ?_
    refine xw7_0g_bits (pc' := 15) K hinX7_lacks_X7 uX7_lacks_f47 dX7_lacks_12 rfl ?_
    refine x_iload_n (pc' := 16) K dX7_lacks_15 1 rfl rfl ?_
    obtain ⟨i16, h⟩ := h
    refine xw7_12l (pc' := 17) K i16 rfl dX7_lacks_16 rfl ?_
    refine x_if_ne (tgt := 24) (pc' := 20) K dX7_lacks_17 rfl rfl (fun c17 => ?_) (fun c17 => ?_)
    · replace h := h.1 c17
      refine x_iconst (pc' := 25) (v := 0) K dX7_lacks_24 (by decide) rfl ?_
      exact x_iret (wf := w7 cI a) K h dX7_lacks_25
    · replace h := h.2 c17
      refine x_iconst (pc' := 21) (v := 2) K dX7_lacks_20 (by decide) rfl ?_
      refine x_goto (tgt := 25) K dX7_lacks_21 rfl ?_
      exact x_iret (wf := w7 cI a) K h dX7_lacks_25
  · replace h := h.2 c4
    refine x_iconst (pc' := 8) (v := 1) K dX7_lacks_7 (by decide) rfl ?_
    refine x_goto (tgt := 25) K dX7_lacks_8 rfl ?_
    exact x_iret (wf := w7 cI a) K h dX7_lacks_25
/-! X7_unders -/
abbrev rmX7_unders : Room := { frames := 5, cells := 0, slots := 0, locals := 123 }
theorem dsX7_unders : xDesc yX7_unders 1 := by decide +kernel
theorem uX7_unders_f50 : Cond.fieldLink RX7 50 "PigNinthsModel" "sizes" "[I" ∈ wsX7_unders := by decide +kernel
theorem hinX7_unders_X7 : ∀ w ∈ wsX70, w ∈ wsX7_unders := by decide +kernel
theorem uX7_unders_f53 : Cond.fieldLink RX7 53 "PigNinthsModel" "number" "[I" ∈ wsX7_unders := by decide +kernel
theorem uX7_unders_f7 : Cond.fieldLink RX7 7 "PigNinthsModel" "s" "[I" ∈ wsX7_unders := by decide +kernel
def qX7_unders_18 (Q : Int32 → xF → xA → Prop) : Nat → Int32 → Int32 → xF → xA → Prop
  | 0, _, _, _, _ => False
  | n + 1, x1, x3, F, G => (vp_in x1 4) ∧ (((G 12 x1.toNatClampNeg) ≤ x3 → Q x3 F G) ∧ (¬ (G 12 x1.toNatClampNeg) ≤ x3 → (((16 : Int32) ≤ x3 → Q x3 F G) ∧ (¬ (16 : Int32) ≤ x3 → (vp_in (((24 : Int32) * x1) + x3) 96) ∧ qX7_in (G 13 (((24 : Int32) * x1) + x3).toNatClampNeg) (0 : Int32) (999 : Int32) (fun r49 => ((r49 = 0 → Q x3 F G) ∧ (¬ r49 = 0 → (vp_in (((24 : Int32) * x1) + x3) 96) ∧ (vp_in ((24 : Int32) + x3) 455) ∧ (∀ G74 : xA, G74 = xst G 0 ((24 : Int32) + x3).toNatClampNeg (G 13 (((24 : Int32) * x1) + x3).toNatClampNeg) → qX7_unders_18 Q n x1 (x3 + (1 : Int32)) F G74))))))))
def qX7_unders (x1 : Int32) (F : xF) (G : xA) (Q : Int32 → xF → xA → Prop) : Prop := qX7_lacks x1 F G (fun r2 F2 G2 => ((r2 ≤ 0 → ∃ j18, qX7_unders_18 Q j18 x1 (0 : Int32) F2 G2) ∧ (¬ r2 ≤ 0 → qX7_error r2 F2 G2 (fun r12 F12 G12 => Q r12 F12 G12))))
set_option maxHeartbeats 4000000 in
set_option maxRecDepth 100000 in
theorem tX7_unders_18 (K : XK p m c cX7_unders 4 s args wsX7_unders RX7 D (xtys cI cO) A meth (some .int)) {Q : Int32 → xF → xA → Prop} : ∀ (n : Nat), ∀ (x1 : Int32) (x3 : Int32) (F : xF) (G : xA), qX7_unders_18 Q n x1 x3 F G → XJ p l e rmX7_unders s m args below meth c 0 0 (MQ below (xQi D (w7 cI a) A Q) args s 0 0 A) D (xtys cI cO) A 4 (w7 cI a F G) 18 [(0, .ref (a 0)), (1, .int x1), (3, .int x3)] [] := by
  intro n
  induction n with
  | zero =>
    intro x1 x3 F G h
    exact False.elim h
  | succ n ih =>
    intro x1 x3 F G h
    refine x_iload_n (pc' := 19) K dX7_unders_18 2 rfl rfl ?_
    refine x_aload_n (pc' := 20) K dX7_unders_19 0 rfl rfl ?_
    refine xw7_0g_sizes (pc' := 23) K hinX7_unders_X7 uX7_unders_f50 dX7_unders_20 rfl ?_
    refine x_iload_n (pc' := 24) K dX7_unders_23 1 rfl rfl ?_
    obtain ⟨i24, h⟩ := h
    refine xw7_13l (pc' := 25) K i24 rfl dX7_unders_24 rfl ?_
    refine x_icmp_ge (tgt := 81) (pc' := 28) K dX7_unders_25 rfl rfl (fun c25 => ?_) (fun c25 => ?_)
    · replace h := h.1 c25
      refine x_iload_n (pc' := 82) K dX7_unders_81 2 rfl rfl ?_
      exact x_iret (wf := w7 cI a) K h dX7_unders_82
    · replace h := h.2 c25
      refine x_iload_n (pc' := 29) K dX7_unders_28 2 rfl rfl ?_
      refine x_bipush (pc' := 31) (v := 16) K dX7_unders_29 (by decide) rfl ?_
      refine x_icmp_ge (tgt := 81) (pc' := 34) K dX7_unders_31 rfl rfl (fun c31 => ?_) (fun c31 => ?_)
      · replace h := h.1 c31
        refine x_iload_n (pc' := 82) K dX7_unders_81 2 rfl rfl ?_
        exact x_iret (wf := w7 cI a) K h dX7_unders_82
      · replace h := h.2 c31
        refine x_aload_n (pc' := 35) K dX7_unders_34 0 rfl rfl ?_
        refine xw7_0g_number (pc' := 38) K hinX7_unders_X7 uX7_unders_f53 dX7_unders_35 rfl ?_
        refine x_bipush (pc' := 40) (v := 24) K dX7_unders_38 (by decide) rfl ?_
        refine x_iload_n (pc' := 41) K dX7_unders_40 1 rfl rfl ?_
        refine x_imul (pc' := 42) K dX7_unders_41 rfl ?_
        refine x_iload_n (pc' := 43) K dX7_unders_42 2 rfl rfl ?_
        refine x_iadd (pc' := 44) K dX7_unders_43 rfl ?_
        obtain ⟨i44, h⟩ := h
        refine xw7_14l (pc' := 45) K i44 rfl dX7_unders_44 rfl ?_
        refine x_iconst (pc' := 46) (v := 0) K dX7_unders_45 (by decide) rfl ?_
        refine x_sipush (pc' := 49) (v := 999) K dX7_unders_46 (by decide) rfl ?_
        refine x_callS (pc' := 52) K (mX7_in l D cI cO a _ _ _) rfl gX7_unders_X7_in dsX7_in ⟨rfl, rfl, ⟨Nat.le_of_ble_eq_true rfl, Nat.le_of_ble_eq_true rfl⟩, Nat.le_of_ble_eq_true rfl, Nat.le_of_ble_eq_true rfl⟩ h (st := []) rfl rfl (Nat.le_of_ble_eq_true rfl) dX7_unders_49 rfl (fun r49 h => ?_)
        refine x_if_eq (tgt := 81) (pc' := 55) K dX7_unders_52 rfl rfl (fun c52 => ?_) (fun c52 => ?_)
        · replace h := h.1 c52
          refine x_iload_n (pc' := 82) K dX7_unders_81 2 rfl rfl ?_
          exact x_iret (wf := w7 cI a) K h dX7_unders_82
        · replace h := h.2 c52
          refine x_aload_n (pc' := 56) K dX7_unders_55 0 rfl rfl ?_
          refine xw7_0g_s (pc' := 59) K hinX7_unders_X7 uX7_unders_f7 dX7_unders_56 rfl ?_
          refine x_bipush (pc' := 61) (v := 24) K dX7_unders_59 (by decide) rfl ?_
          refine x_iload_n (pc' := 62) K dX7_unders_61 2 rfl rfl ?_
          refine x_iadd (pc' := 63) K dX7_unders_62 rfl ?_
          refine x_aload_n (pc' := 64) K dX7_unders_63 0 rfl rfl ?_
          refine xw7_0g_number (pc' := 67) K hinX7_unders_X7 uX7_unders_f53 dX7_unders_64 rfl ?_
          refine x_bipush (pc' := 69) (v := 24) K dX7_unders_67 (by decide) rfl ?_
          refine x_iload_n (pc' := 70) K dX7_unders_69 1 rfl rfl ?_
          refine x_imul (pc' := 71) K dX7_unders_70 rfl ?_
          refine x_iload_n (pc' := 72) K dX7_unders_71 2 rfl rfl ?_
          refine x_iadd (pc' := 73) K dX7_unders_72 rfl ?_
          obtain ⟨i73, h⟩ := h
          refine xw7_14l (pc' := 74) K i73 rfl dX7_unders_73 rfl ?_
          obtain ⟨i74, h⟩ := h
          refine xw7_1s (pc' := 75) K i74 rfl dX7_unders_74 rfl (fun G74 eG74 => ?_)
          replace h := h G74 eG74
          refine x_iinc (pc' := 78) (v := _ + (1 : Int32)) K dX7_unders_75 2 rfl rfl (by decide) [1, 2, 0] (L' := [(0, .ref (a 0)), (1, .int _), (3, .int _)]) rfl rfl ?_
          refine x_goto (tgt := 18) K dX7_unders_78 rfl ?_
          exact ih _ _ _ _ h
set_option maxHeartbeats 4000000 in
set_option maxRecDepth 100000 in
theorem mX7_unders (l : Launch) (D : va_G) (cI cO : ClassId) (a : Nat → Nat)  (x1 : Int32) : MI l yX7_unders wsX7_unders rmX7_unders D (xtys cI cO) [.ref (a 0), .int x1] (w7 cI a) (qX7_unders x1) := by
  refine MI_of (cc := cX7_unders) (maxL := 4) (own := RX7) (by decide) rfl rfl (Nat.le_of_ble_eq_true rfl) ?_
  intro p e s m args below meth c A F G Q h K
  refine x_locals [0, 1] (L' := [(0, .ref (a 0)), (1, .int _)]) rfl ?_
  refine x_aload_n (pc' := 1) K dX7_unders_0 0 rfl rfl ?_
  refine x_iload_n (pc' := 2) K dX7_unders_1 1 rfl rfl ?_
  refine x_callI (pc' := 5) K (mX7_lacks l D cI cO a _) rfl gX7_unders_X7_lacks rfl dsX7_lacks ⟨rfl, rfl, ⟨Nat.le_of_ble_eq_true rfl, Nat.le_of_ble_eq_true rfl⟩, Nat.le_of_ble_eq_true rfl, Nat.le_of_ble_eq_true rfl⟩ h 7 0 rfl rfl (st := []) rfl rfl (Nat.le_of_ble_eq_true rfl) dX7_unders_2 rfl (fun r2 F2 G2 h => ?_)
  refine x_istore_n (pc' := 6) (i := 2) K dX7_unders_5 rfl (by decide) [1, 2, 0] (L' := [(0, .ref (a 0)), (1, .int _), (2, .int _)]) rfl rfl ?_
  refine x_iload_n (pc' := 7) K dX7_unders_6 2 rfl rfl ?_
  refine x_if_le (tgt := 16) (pc' := 10) K dX7_unders_7 rfl rfl (fun c7 => ?_) (fun c7 => ?_)
  · replace h := h.1 c7
    refine x_iconst (pc' := 17) (v := 0) K dX7_unders_16 (by decide) rfl ?_
    refine x_istore_n (pc' := 18) (i := 3) K dX7_unders_17 rfl (by decide) [1, 2, 3, 0] (L' := [(0, .ref (a 0)), (1, .int _), (2, .int _), (3, .int _)]) rfl rfl ?_
    refine x_locals [0, 1, 3] (L' := [(0, .ref (a 0)), (1, .int _), (3, .int _)]) rfl ?_
    obtain ⟨n18, h⟩ := h
    exact tX7_unders_18 K n18 _ _ _ _ h
  · replace h := h.2 c7
    refine x_aload_n (pc' := 11) K dX7_unders_10 0 rfl rfl ?_
    refine x_iload_n (pc' := 12) K dX7_unders_11 2 rfl rfl ?_
    refine x_callI (pc' := 15) K (mX7_error l D cI cO a _) rfl gX7_unders_X7_error rfl dsX7_error ⟨rfl, rfl, ⟨Nat.le_of_ble_eq_true rfl, Nat.le_of_ble_eq_true rfl⟩, Nat.le_of_ble_eq_true rfl, Nat.le_of_ble_eq_true rfl⟩ h 7 0 rfl rfl (st := []) rfl rfl (Nat.le_of_ble_eq_true rfl) dX7_unders_12 rfl (fun r12 F12 G12 h => ?_)
    exact x_iret (wf := w7 cI a) K h dX7_unders_15
/-! X7_judge -/
abbrev rmX7_judge : Room := { frames := 8, cells := 0, slots := 0, locals := 205 }
theorem dsX7_judge : xDesc yX7_judge 1 := by decide +kernel
theorem uX7_judge_f50 : Cond.fieldLink RX7 50 "PigNinthsModel" "sizes" "[I" ∈ wsX7_judge := by decide +kernel
theorem hinX7_judge_X7 : ∀ w ∈ wsX70, w ∈ wsX7_judge := by decide +kernel
theorem uX7_judge_f53 : Cond.fieldLink RX7 53 "PigNinthsModel" "number" "[I" ∈ wsX7_judge := by decide +kernel
theorem uX7_judge_f7 : Cond.fieldLink RX7 7 "PigNinthsModel" "s" "[I" ∈ wsX7_judge := by decide +kernel
def qX7_judge_22 (Q : Int32 → xF → xA → Prop) : Nat → Int32 → Int32 → xF → xA → Prop
  | 0, _, _, _, _ => False
  | n + 1, x1, x3, F, G => (vp_in x1 4) ∧ (((G 12 x1.toNatClampNeg) ≤ x3 → qX7_layBack  F G (fun F65 G65 => Q x3 F65 G65)) ∧ (¬ (G 12 x1.toNatClampNeg) ≤ x3 → (vp_in (((24 : Int32) * x1) + x3) 96) ∧ ((¬ (G 13 (((24 : Int32) * x1) + x3).toNatClampNeg) = (G 0 2) → qX7_layBack  F G (fun F65 G65 => Q x3 F65 G65)) ∧ ((G 13 (((24 : Int32) * x1) + x3).toNatClampNeg) = (G 0 2) → qX7_day  F G (fun r53 F53 G53 => qX7_judge_22 Q n x1 (x3 + (1 : Int32)) F53 G53)))))
def qX7_judge (x1 : Int32) (F : xF) (G : xA) (Q : Int32 → xF → xA → Prop) : Prop := qX7_lacks x1 F G (fun r2 F2 G2 => ((r2 ≤ 0 → qX7_layDown  F2 G2 (fun F17 G17 => ∃ j22, qX7_judge_22 Q j22 x1 (0 : Int32) F17 G17)) ∧ (¬ r2 ≤ 0 → qX7_error r2 F2 G2 (fun r12 F12 G12 => Q r12 F12 G12))))
set_option maxHeartbeats 4000000 in
set_option maxRecDepth 100000 in
theorem tX7_judge_22 (K : XK p m c cX7_judge 5 s args wsX7_judge RX7 D (xtys cI cO) A meth (some .int)) {Q : Int32 → xF → xA → Prop} : ∀ (n : Nat), ∀ (x1 : Int32) (x3 : Int32) (F : xF) (G : xA), qX7_judge_22 Q n x1 x3 F G → XJ p l e rmX7_judge s m args below meth c 0 0 (MQ below (xQi D (w7 cI a) A Q) args s 0 0 A) D (xtys cI cO) A 5 (w7 cI a F G) 22 [(0, .ref (a 0)), (1, .int x1), (3, .int x3)] [] := by
  intro n
  induction n with
  | zero =>
    intro x1 x3 F G h
    exact False.elim h
  | succ n ih =>
    intro x1 x3 F G h
    refine x_iload_n (pc' := 23) K dX7_judge_22 2 rfl rfl ?_
    refine x_aload_n (pc' := 24) K dX7_judge_23 0 rfl rfl ?_
    refine xw7_0g_sizes (pc' := 27) K hinX7_judge_X7 uX7_judge_f50 dX7_judge_24 rfl ?_
    refine x_iload_n (pc' := 28) K dX7_judge_27 1 rfl rfl ?_
    obtain ⟨i28, h⟩ := h
    refine xw7_13l (pc' := 29) K i28 rfl dX7_judge_28 rfl ?_
    refine x_icmp_ge (tgt := 64) (pc' := 32) K dX7_judge_29 rfl rfl (fun c29 => ?_) (fun c29 => ?_)
    · replace h := h.1 c29
      refine x_aload_n (pc' := 65) K dX7_judge_64 0 rfl rfl ?_
      refine x_callV (pc' := 68) K (mX7_layBack l D cI cO a) rfl gX7_judge_X7_layBack rfl dsX7_layBack ⟨rfl, rfl, ⟨Nat.le_of_ble_eq_true rfl, Nat.le_of_ble_eq_true rfl⟩, Nat.le_of_ble_eq_true rfl, Nat.le_of_ble_eq_true rfl⟩ h 7 0 rfl rfl (st := []) rfl rfl (Nat.le_of_ble_eq_true rfl) dX7_judge_65 rfl (fun F65 G65 h => ?_)
      refine x_iload_n (pc' := 69) K dX7_judge_68 2 rfl rfl ?_
      exact x_iret (wf := w7 cI a) K h dX7_judge_69
    · replace h := h.2 c29
      refine x_aload_n (pc' := 33) K dX7_judge_32 0 rfl rfl ?_
      refine xw7_0g_number (pc' := 36) K hinX7_judge_X7 uX7_judge_f53 dX7_judge_33 rfl ?_
      refine x_bipush (pc' := 38) (v := 24) K dX7_judge_36 (by decide) rfl ?_
      refine x_iload_n (pc' := 39) K dX7_judge_38 1 rfl rfl ?_
      refine x_imul (pc' := 40) K dX7_judge_39 rfl ?_
      refine x_iload_n (pc' := 41) K dX7_judge_40 2 rfl rfl ?_
      refine x_iadd (pc' := 42) K dX7_judge_41 rfl ?_
      obtain ⟨i42, h⟩ := h
      refine xw7_14l (pc' := 43) K i42 rfl dX7_judge_42 rfl ?_
      refine x_aload_n (pc' := 44) K dX7_judge_43 0 rfl rfl ?_
      refine xw7_0g_s (pc' := 47) K hinX7_judge_X7 uX7_judge_f7 dX7_judge_44 rfl ?_
      refine x_iconst (pc' := 48) (v := 2) K dX7_judge_47 (by decide) rfl ?_
      refine xw7_1l (pc' := 49) K (j := 2) (xin_of (by decide +kernel)) (by decide +kernel) dX7_judge_48 rfl ?_
      refine x_icmp_ne (tgt := 64) (pc' := 52) K dX7_judge_49 rfl rfl (fun c49 => ?_) (fun c49 => ?_)
      · replace h := h.1 c49
        refine x_aload_n (pc' := 65) K dX7_judge_64 0 rfl rfl ?_
        refine x_callV (pc' := 68) K (mX7_layBack l D cI cO a) rfl gX7_judge_X7_layBack rfl dsX7_layBack ⟨rfl, rfl, ⟨Nat.le_of_ble_eq_true rfl, Nat.le_of_ble_eq_true rfl⟩, Nat.le_of_ble_eq_true rfl, Nat.le_of_ble_eq_true rfl⟩ h 7 0 rfl rfl (st := []) rfl rfl (Nat.le_of_ble_eq_true rfl) dX7_judge_65 rfl (fun F65 G65 h => ?_)
        refine x_iload_n (pc' := 69) K dX7_judge_68 2 rfl rfl ?_
        exact x_iret (wf := w7 cI a) K h dX7_judge_69
      · replace h := h.2 c49
        refine x_aload_n (pc' := 53) K dX7_judge_52 0 rfl rfl ?_
        refine x_callI (pc' := 56) K (mX7_day l D cI cO a) rfl gX7_judge_X7_day rfl dsX7_day ⟨rfl, rfl, ⟨Nat.le_of_ble_eq_true rfl, Nat.le_of_ble_eq_true rfl⟩, Nat.le_of_ble_eq_true rfl, Nat.le_of_ble_eq_true rfl⟩ h 7 0 rfl rfl (st := []) rfl rfl (Nat.le_of_ble_eq_true rfl) dX7_judge_53 rfl (fun r53 F53 G53 h => ?_)
        refine x_istore (pc' := 58) (i := 4) K dX7_judge_56 (by decide) [1, 2, 3, 0] (L' := [(0, .ref (a 0)), (1, .int _), (3, .int _), (4, .int _)]) rfl rfl ?_
        refine x_iinc (pc' := 61) (v := _ + (1 : Int32)) K dX7_judge_58 2 rfl rfl (by decide) [1, 2, 0, 3] (L' := [(0, .ref (a 0)), (1, .int _), (3, .int _), (4, .int _)]) rfl rfl ?_
        refine x_goto (tgt := 22) K dX7_judge_61 rfl ?_
        refine x_locals [0, 1, 2] (L' := [(0, .ref (a 0)), (1, .int _), (3, .int _)]) rfl ?_
        exact ih _ _ _ _ h
set_option maxHeartbeats 4000000 in
set_option maxRecDepth 100000 in
theorem mX7_judge (l : Launch) (D : va_G) (cI cO : ClassId) (a : Nat → Nat)  (x1 : Int32) : MI l yX7_judge wsX7_judge rmX7_judge D (xtys cI cO) [.ref (a 0), .int x1] (w7 cI a) (qX7_judge x1) := by
  refine MI_of (cc := cX7_judge) (maxL := 5) (own := RX7) (by decide) rfl rfl (Nat.le_of_ble_eq_true rfl) ?_
  intro p e s m args below meth c A F G Q h K
  refine x_locals [0, 1] (L' := [(0, .ref (a 0)), (1, .int _)]) rfl ?_
  refine x_aload_n (pc' := 1) K dX7_judge_0 0 rfl rfl ?_
  refine x_iload_n (pc' := 2) K dX7_judge_1 1 rfl rfl ?_
  refine x_callI (pc' := 5) K (mX7_lacks l D cI cO a _) rfl gX7_judge_X7_lacks rfl dsX7_lacks ⟨rfl, rfl, ⟨Nat.le_of_ble_eq_true rfl, Nat.le_of_ble_eq_true rfl⟩, Nat.le_of_ble_eq_true rfl, Nat.le_of_ble_eq_true rfl⟩ h 7 0 rfl rfl (st := []) rfl rfl (Nat.le_of_ble_eq_true rfl) dX7_judge_2 rfl (fun r2 F2 G2 h => ?_)
  refine x_istore_n (pc' := 6) (i := 2) K dX7_judge_5 rfl (by decide) [1, 2, 0] (L' := [(0, .ref (a 0)), (1, .int _), (2, .int _)]) rfl rfl ?_
  refine x_iload_n (pc' := 7) K dX7_judge_6 2 rfl rfl ?_
  refine x_if_le (tgt := 16) (pc' := 10) K dX7_judge_7 rfl rfl (fun c7 => ?_) (fun c7 => ?_)
  · replace h := h.1 c7
    refine x_aload_n (pc' := 17) K dX7_judge_16 0 rfl rfl ?_
    refine x_callV (pc' := 20) K (mX7_layDown l D cI cO a) rfl gX7_judge_X7_layDown rfl dsX7_layDown ⟨rfl, rfl, ⟨Nat.le_of_ble_eq_true rfl, Nat.le_of_ble_eq_true rfl⟩, Nat.le_of_ble_eq_true rfl, Nat.le_of_ble_eq_true rfl⟩ h 7 0 rfl rfl (st := []) rfl rfl (Nat.le_of_ble_eq_true rfl) dX7_judge_17 rfl (fun F17 G17 h => ?_)
    refine x_iconst (pc' := 21) (v := 0) K dX7_judge_20 (by decide) rfl ?_
    refine x_istore_n (pc' := 22) (i := 3) K dX7_judge_21 rfl (by decide) [1, 2, 3, 0] (L' := [(0, .ref (a 0)), (1, .int _), (2, .int _), (3, .int _)]) rfl rfl ?_
    refine x_locals [0, 1, 3] (L' := [(0, .ref (a 0)), (1, .int _), (3, .int _)]) rfl ?_
    obtain ⟨n22, h⟩ := h
    exact tX7_judge_22 K n22 _ _ _ _ h
  · replace h := h.2 c7
    refine x_aload_n (pc' := 11) K dX7_judge_10 0 rfl rfl ?_
    refine x_iload_n (pc' := 12) K dX7_judge_11 2 rfl rfl ?_
    refine x_callI (pc' := 15) K (mX7_error l D cI cO a _) rfl gX7_judge_X7_error rfl dsX7_error ⟨rfl, rfl, ⟨Nat.le_of_ble_eq_true rfl, Nat.le_of_ble_eq_true rfl⟩, Nat.le_of_ble_eq_true rfl, Nat.le_of_ble_eq_true rfl⟩ h 7 0 rfl rfl (st := []) rfl rfl (Nat.le_of_ble_eq_true rfl) dX7_judge_12 rfl (fun r12 F12 G12 h => ?_)
    exact x_iret (wf := w7 cI a) K h dX7_judge_15
/-! X7_image -/
abbrev rmX7_image : Room := { frames := 3, cells := 0, slots := 0, locals := 83 }
theorem dsX7_image : xDesc yX7_image 0 := by decide +kernel
theorem uX7_image_f7 : Cond.fieldLink RX7 7 "PigNinthsModel" "s" "[I" ∈ wsX7_image := by decide +kernel
theorem hinX7_image_X7 : ∀ w ∈ wsX70, w ∈ wsX7_image := by decide +kernel
theorem uX7_image_f13 : Cond.fieldLink RX7 13 "PigNinthsModel" "kept" "[I" ∈ wsX7_image := by decide +kernel
theorem uX7_image_f265 : Cond.fieldLink RX7 265 "PigNinthsModel" "images" "I" ∈ wsX7_image := by decide +kernel
def qX7_image  (F : xF) (G : xA) (Q : Int32 → xF → xA → Prop) : Prop := qX7_carry_1_2 (455 : Int32) F G (fun F11 G11 => (∀ F21 : xF, F21 = va_up F11 0 ((F11 0) + (1 : Int32)) → Q (F21 0) F21 G11))
set_option maxHeartbeats 4000000 in
set_option maxRecDepth 100000 in
theorem mX7_image (l : Launch) (D : va_G) (cI cO : ClassId) (a : Nat → Nat)   : MI l yX7_image wsX7_image rmX7_image D (xtys cI cO) [.ref (a 0)] (w7 cI a) qX7_image := by
  refine MI_of (cc := cX7_image) (maxL := 1) (own := RX7) (by decide) rfl rfl (Nat.le_of_ble_eq_true rfl) ?_
  intro p e s m args below meth c A F G Q h K
  refine x_locals [0] (L' := [(0, .ref (a 0))]) rfl ?_
  refine x_aload_n (pc' := 1) K dX7_image_0 0 rfl rfl ?_
  refine xw7_0g_s (pc' := 4) K hinX7_image_X7 uX7_image_f7 dX7_image_1 rfl ?_
  refine x_aload_n (pc' := 5) K dX7_image_4 0 rfl rfl ?_
  refine xw7_0g_kept (pc' := 8) K hinX7_image_X7 uX7_image_f13 dX7_image_5 rfl ?_
  refine x_sipush (pc' := 11) (v := 455) K dX7_image_8 (by decide) rfl ?_
  refine x_callVS (pc' := 14) K (mX7_carry_1_2 l D cI cO a _) rfl gX7_image_X7_carry dsX7_carry ⟨rfl, rfl, ⟨Nat.le_of_ble_eq_true rfl, Nat.le_of_ble_eq_true rfl⟩, Nat.le_of_ble_eq_true rfl, Nat.le_of_ble_eq_true rfl⟩ h (st := []) rfl rfl (Nat.le_of_ble_eq_true rfl) dX7_image_11 rfl (fun F11 G11 h => ?_)
  refine x_aload_n (pc' := 15) K dX7_image_14 0 rfl rfl ?_
  refine x_dup (pc' := 16) K dX7_image_15 rfl rfl ?_
  refine xw7_0g_images (pc' := 19) K hinX7_image_X7 uX7_image_f265 dX7_image_16 rfl ?_
  refine x_iconst (pc' := 20) (v := 1) K dX7_image_19 (by decide) rfl ?_
  refine x_iadd (pc' := 21) K dX7_image_20 rfl ?_
  refine xw7_0p_images (pc' := 24) K hinX7_image_X7 uX7_image_f265 dX7_image_21 rfl (fun F21 eF21 => ?_)
  replace h := h F21 eF21
  refine x_aload_n (pc' := 25) K dX7_image_24 0 rfl rfl ?_
  refine xw7_0g_images (pc' := 28) K hinX7_image_X7 uX7_image_f265 dX7_image_25 rfl ?_
  exact x_iret (wf := w7 cI a) K h dX7_image_28
/-! X7_restore -/
abbrev rmX7_restore : Room := { frames := 3, cells := 0, slots := 0, locals := 83 }
theorem dsX7_restore : xDesc yX7_restore 0 := by decide +kernel
theorem uX7_restore_f265 : Cond.fieldLink RX7 265 "PigNinthsModel" "images" "I" ∈ wsX7_restore := by decide +kernel
theorem hinX7_restore_X7 : ∀ w ∈ wsX70, w ∈ wsX7_restore := by decide +kernel
theorem uX7_restore_f13 : Cond.fieldLink RX7 13 "PigNinthsModel" "kept" "[I" ∈ wsX7_restore := by decide +kernel
theorem uX7_restore_f7 : Cond.fieldLink RX7 7 "PigNinthsModel" "s" "[I" ∈ wsX7_restore := by decide +kernel
def qX7_restore  (F : xF) (G : xA) (Q : Int32 → xF → xA → Prop) : Prop := ((¬ (F 0) = 0 → qX7_carry_2_1 (455 : Int32) F G (fun F24 G24 => Q (G24 0 0) F24 G24)) ∧ ((F 0) = 0 → qX7_error (2 : Int32) F G (fun r9 F9 G9 => Q r9 F9 G9)))
set_option maxHeartbeats 4000000 in
set_option maxRecDepth 100000 in
theorem mX7_restore (l : Launch) (D : va_G) (cI cO : ClassId) (a : Nat → Nat)   : MI l yX7_restore wsX7_restore rmX7_restore D (xtys cI cO) [.ref (a 0)] (w7 cI a) qX7_restore := by
  refine MI_of (cc := cX7_restore) (maxL := 1) (own := RX7) (by decide) rfl rfl (Nat.le_of_ble_eq_true rfl) ?_
  intro p e s m args below meth c A F G Q h K
  refine x_locals [0] (L' := [(0, .ref (a 0))]) rfl ?_
  refine x_aload_n (pc' := 1) K dX7_restore_0 0 rfl rfl ?_
  refine xw7_0g_images (pc' := 4) K hinX7_restore_X7 uX7_restore_f265 dX7_restore_1 rfl ?_
  refine x_if_ne (tgt := 13) (pc' := 7) K dX7_restore_4 rfl rfl (fun c4 => ?_) (fun c4 => ?_)
  · replace h := h.1 c4
    refine x_aload_n (pc' := 14) K dX7_restore_13 0 rfl rfl ?_
    refine xw7_0g_kept (pc' := 17) K hinX7_restore_X7 uX7_restore_f13 dX7_restore_14 rfl ?_
    refine x_aload_n (pc' := 18) K dX7_restore_17 0 rfl rfl ?_
    refine xw7_0g_s (pc' := 21) K hinX7_restore_X7 uX7_restore_f7 dX7_restore_18 rfl ?_
    refine x_sipush (pc' := 24) (v := 455) K dX7_restore_21 (by decide) rfl ?_
    refine x_callVS (pc' := 27) K (mX7_carry_2_1 l D cI cO a _) rfl gX7_restore_X7_carry dsX7_carry ⟨rfl, rfl, ⟨Nat.le_of_ble_eq_true rfl, Nat.le_of_ble_eq_true rfl⟩, Nat.le_of_ble_eq_true rfl, Nat.le_of_ble_eq_true rfl⟩ h (st := []) rfl rfl (Nat.le_of_ble_eq_true rfl) dX7_restore_24 rfl (fun F24 G24 h => ?_)
    refine x_aload_n (pc' := 28) K dX7_restore_27 0 rfl rfl ?_
    refine xw7_0g_s (pc' := 31) K hinX7_restore_X7 uX7_restore_f7 dX7_restore_28 rfl ?_
    refine x_iconst (pc' := 32) (v := 0) K dX7_restore_31 (by decide) rfl ?_
    refine xw7_1l (pc' := 33) K (j := 0) (xin_of (by decide +kernel)) (by decide +kernel) dX7_restore_32 rfl ?_
    exact x_iret (wf := w7 cI a) K h dX7_restore_33
  · replace h := h.2 c4
    refine x_aload_n (pc' := 8) K dX7_restore_7 0 rfl rfl ?_
    refine x_iconst (pc' := 9) (v := 2) K dX7_restore_8 (by decide) rfl ?_
    refine x_callI (pc' := 12) K (mX7_error l D cI cO a _) rfl gX7_restore_X7_error rfl dsX7_error ⟨rfl, rfl, ⟨Nat.le_of_ble_eq_true rfl, Nat.le_of_ble_eq_true rfl⟩, Nat.le_of_ble_eq_true rfl, Nat.le_of_ble_eq_true rfl⟩ h 7 0 rfl rfl (st := []) rfl rfl (Nat.le_of_ble_eq_true rfl) dX7_restore_9 rfl (fun r9 F9 G9 h => ?_)
    exact x_iret (wf := w7 cI a) K h dX7_restore_12
/-! X7_tell -/
abbrev rmX7_tell : Room := { frames := 3, cells := 0, slots := 0, locals := 81 }
theorem dsX7_tell : xDesc yX7_tell 1 := by decide +kernel
theorem uX7_tell_f7 : Cond.fieldLink RX7 7 "PigNinthsModel" "s" "[I" ∈ wsX7_tell := by decide +kernel
theorem hinX7_tell_X7 : ∀ w ∈ wsX70, w ∈ wsX7_tell := by decide +kernel
def qX7_tell (x1 : Int32) (F : xF) (G : xA) (Q : Int32 → xF → xA → Prop) : Prop := ((¬ (G 0 5) = (24 : Int32) → (vp_in ((431 : Int32) + (G 0 5)) 455) ∧ (∀ G32 : xA, G32 = xst G 0 ((431 : Int32) + (G 0 5)).toNatClampNeg x1 → (∀ G42 : xA, G42 = xst G32 0 5 ((G32 0 5) + (1 : Int32)) → Q (G42 0 5) F G42))) ∧ ((G 0 5) = (24 : Int32) → qX7_error (4 : Int32) F G (fun r13 F13 G13 => Q r13 F13 G13)))
set_option maxHeartbeats 4000000 in
set_option maxRecDepth 100000 in
theorem mX7_tell (l : Launch) (D : va_G) (cI cO : ClassId) (a : Nat → Nat)  (x1 : Int32) : MI l yX7_tell wsX7_tell rmX7_tell D (xtys cI cO) [.ref (a 0), .int x1] (w7 cI a) (qX7_tell x1) := by
  refine MI_of (cc := cX7_tell) (maxL := 2) (own := RX7) (by decide) rfl rfl (Nat.le_of_ble_eq_true rfl) ?_
  intro p e s m args below meth c A F G Q h K
  refine x_locals [0, 1] (L' := [(0, .ref (a 0)), (1, .int _)]) rfl ?_
  refine x_aload_n (pc' := 1) K dX7_tell_0 0 rfl rfl ?_
  refine xw7_0g_s (pc' := 4) K hinX7_tell_X7 uX7_tell_f7 dX7_tell_1 rfl ?_
  refine x_iconst (pc' := 5) (v := 5) K dX7_tell_4 (by decide) rfl ?_
  refine xw7_1l (pc' := 6) K (j := 5) (xin_of (by decide +kernel)) (by decide +kernel) dX7_tell_5 rfl ?_
  refine x_bipush (pc' := 8) (v := 24) K dX7_tell_6 (by decide) rfl ?_
  refine x_icmp_ne (tgt := 17) (pc' := 11) K dX7_tell_8 rfl rfl (fun c8 => ?_) (fun c8 => ?_)
  · replace h := h.1 c8
    refine x_aload_n (pc' := 18) K dX7_tell_17 0 rfl rfl ?_
    refine xw7_0g_s (pc' := 21) K hinX7_tell_X7 uX7_tell_f7 dX7_tell_18 rfl ?_
    refine x_sipush (pc' := 24) (v := 431) K dX7_tell_21 (by decide) rfl ?_
    refine x_aload_n (pc' := 25) K dX7_tell_24 0 rfl rfl ?_
    refine xw7_0g_s (pc' := 28) K hinX7_tell_X7 uX7_tell_f7 dX7_tell_25 rfl ?_
    refine x_iconst (pc' := 29) (v := 5) K dX7_tell_28 (by decide) rfl ?_
    refine xw7_1l (pc' := 30) K (j := 5) (xin_of (by decide +kernel)) (by decide +kernel) dX7_tell_29 rfl ?_
    refine x_iadd (pc' := 31) K dX7_tell_30 rfl ?_
    refine x_iload_n (pc' := 32) K dX7_tell_31 1 rfl rfl ?_
    obtain ⟨i32, h⟩ := h
    refine xw7_1s (pc' := 33) K i32 rfl dX7_tell_32 rfl (fun G32 eG32 => ?_)
    replace h := h G32 eG32
    refine x_aload_n (pc' := 34) K dX7_tell_33 0 rfl rfl ?_
    refine xw7_0g_s (pc' := 37) K hinX7_tell_X7 uX7_tell_f7 dX7_tell_34 rfl ?_
    refine x_iconst (pc' := 38) (v := 5) K dX7_tell_37 (by decide) rfl ?_
    refine x_dup2 (pc' := 39) K dX7_tell_38 rfl rfl rfl ?_
    refine xw7_1l (pc' := 40) K (j := 5) (xin_of (by decide +kernel)) (by decide +kernel) dX7_tell_39 rfl ?_
    refine x_iconst (pc' := 41) (v := 1) K dX7_tell_40 (by decide) rfl ?_
    refine x_iadd (pc' := 42) K dX7_tell_41 rfl ?_
    refine xw7_1s (pc' := 43) K (j := 5) (xin_of (by decide +kernel)) (by decide +kernel) dX7_tell_42 rfl (fun G42 eG42 => ?_)
    replace h := h G42 eG42
    refine x_aload_n (pc' := 44) K dX7_tell_43 0 rfl rfl ?_
    refine xw7_0g_s (pc' := 47) K hinX7_tell_X7 uX7_tell_f7 dX7_tell_44 rfl ?_
    refine x_iconst (pc' := 48) (v := 5) K dX7_tell_47 (by decide) rfl ?_
    refine xw7_1l (pc' := 49) K (j := 5) (xin_of (by decide +kernel)) (by decide +kernel) dX7_tell_48 rfl ?_
    exact x_iret (wf := w7 cI a) K h dX7_tell_49
  · replace h := h.2 c8
    refine x_aload_n (pc' := 12) K dX7_tell_11 0 rfl rfl ?_
    refine x_iconst (pc' := 13) (v := 4) K dX7_tell_12 (by decide) rfl ?_
    refine x_callI (pc' := 16) K (mX7_error l D cI cO a _) rfl gX7_tell_X7_error rfl dsX7_error ⟨rfl, rfl, ⟨Nat.le_of_ble_eq_true rfl, Nat.le_of_ble_eq_true rfl⟩, Nat.le_of_ble_eq_true rfl, Nat.le_of_ble_eq_true rfl⟩ h 7 0 rfl rfl (st := []) rfl rfl (Nat.le_of_ble_eq_true rfl) dX7_tell_13 rfl (fun r13 F13 G13 h => ?_)
    exact x_iret (wf := w7 cI a) K h dX7_tell_16
/-! X7_check -/
abbrev rmX7_check : Room := { frames := 8, cells := 0, slots := 0, locals := 205 }
theorem dsX7_check : xDesc yX7_check 0 := by decide +kernel
theorem uX7_check_f7 : Cond.fieldLink RX7 7 "PigNinthsModel" "s" "[I" ∈ wsX7_check := by decide +kernel
theorem hinX7_check_X7 : ∀ w ∈ wsX70, w ∈ wsX7_check := by decide +kernel
def qX7_check_53 (Q : Int32 → xF → xA → Prop) (k22 : Int32 → Int32 → Int32 → xF → xA → Prop) (x1 : Int32) (x2 : Int32) (y0 : Int32) (F : xF) (G : xA) : Prop := ((y0 = 0 → k22 x1 (x2 + (0 : Int32)) y0 F G) ∧ (¬ y0 = 0 → k22 x1 (x2 + (1 : Int32)) y0 F G))
def qX7_check_22 (Q : Int32 → xF → xA → Prop) : Nat → Int32 → Int32 → Int32 → xF → xA → Prop
  | 0, _, _, _, _, _ => False
  | n + 1, x1, x2, x3, F, G => ((x1 ≤ x2 → qX7_layBack  F G (fun F70 G70 => ((x3 = 0 → Q ((1 : Int32) + x2) F70 G70) ∧ (¬ x3 = 0 → Q (0 : Int32) F70 G70)))) ∧ (¬ x1 ≤ x2 → ((x3 = 0 → qX7_layBack  F G (fun F70 G70 => ((x3 = 0 → Q ((1 : Int32) + x2) F70 G70) ∧ (¬ x3 = 0 → Q (0 : Int32) F70 G70)))) ∧ (¬ x3 = 0 → (vp_in ((431 : Int32) + x2) 455) ∧ qX7_day  F G (fun r42 F42 G42 => ((¬ (G 0 ((431 : Int32) + x2).toNatClampNeg) = r42 → qX7_check_53 Q (fun x1 x2 x3 F G => qX7_check_22 Q n x1 x2 x3 F G) x1 x2 (0 : Int32) F42 G42) ∧ ((G 0 ((431 : Int32) + x2).toNatClampNeg) = r42 → qX7_check_53 Q (fun x1 x2 x3 F G => qX7_check_22 Q n x1 x2 x3 F G) x1 x2 (1 : Int32) F42 G42)))))))
def qX7_check  (F : xF) (G : xA) (Q : Int32 → xF → xA → Prop) : Prop := (∀ G13 : xA, G13 = xst G 0 5 (0 : Int32) → qX7_layDown  F G13 (fun F15 G15 => ∃ j22, qX7_check_22 Q j22 (G 0 5) (0 : Int32) (1 : Int32) F15 G15))
set_option maxHeartbeats 4000000 in
set_option maxRecDepth 100000 in
theorem tX7_check_53 (K : XK p m c cX7_check 4 s args wsX7_check RX7 D (xtys cI cO) A meth (some .int)) {Q : Int32 → xF → xA → Prop} {k22 : Int32 → Int32 → Int32 → xF → xA → Prop} (hk22 : ∀ (x1 : Int32) (x2 : Int32) (x3 : Int32) (F : xF) (G : xA), k22 x1 x2 x3 F G → XJ p l e rmX7_check s m args below meth c 0 0 (MQ below (xQi D (w7 cI a) A Q) args s 0 0 A) D (xtys cI cO) A 4 (w7 cI a F G) 22 [(0, .ref (a 0)), (1, .int x1), (2, .int x2), (3, .int x3)] []) : ∀ (x1 : Int32) (x2 : Int32) (y0 : Int32) (F : xF) (G : xA), qX7_check_53 Q k22 x1 x2 y0 F G → XJ p l e rmX7_check s m args below meth c 0 0 (MQ below (xQi D (w7 cI a) A Q) args s 0 0 A) D (xtys cI cO) A 4 (w7 cI a F G) 53 [(0, .ref (a 0)), (1, .int x1), (2, .int x2)] [.int y0] := by
  intro x1 x2 y0 F G h
  refine x_istore_n (pc' := 54) (i := 3) K dX7_check_53 rfl (by decide) [1, 2, 3, 0] (L' := [(0, .ref (a 0)), (1, .int _), (2, .int _), (3, .int _)]) rfl rfl ?_
  refine x_iload_n (pc' := 55) K dX7_check_54 2 rfl rfl ?_
  refine x_iload_n (pc' := 56) K dX7_check_55 3 rfl rfl ?_
  refine x_if_eq (tgt := 63) (pc' := 59) K dX7_check_56 rfl rfl (fun c56 => ?_) (fun c56 => ?_)
  · replace h := h.1 c56
    refine x_iconst (pc' := 64) (v := 0) K dX7_check_63 (by decide) rfl ?_
    refine x_iadd (pc' := 65) K dX7_check_64 rfl ?_
    refine x_istore_n (pc' := 66) (i := 2) K dX7_check_65 rfl (by decide) [1, 2, 0, 3] (L' := [(0, .ref (a 0)), (1, .int _), (2, .int _), (3, .int _)]) rfl rfl ?_
    refine x_goto (tgt := 22) K dX7_check_66 rfl ?_
    exact hk22 _ _ _ _ _ h
  · replace h := h.2 c56
    refine x_iconst (pc' := 60) (v := 1) K dX7_check_59 (by decide) rfl ?_
    refine x_goto (tgt := 64) K dX7_check_60 rfl ?_
    refine x_iadd (pc' := 65) K dX7_check_64 rfl ?_
    refine x_istore_n (pc' := 66) (i := 2) K dX7_check_65 rfl (by decide) [1, 2, 0, 3] (L' := [(0, .ref (a 0)), (1, .int _), (2, .int _), (3, .int _)]) rfl rfl ?_
    refine x_goto (tgt := 22) K dX7_check_66 rfl ?_
    exact hk22 _ _ _ _ _ h
set_option maxHeartbeats 4000000 in
set_option maxRecDepth 100000 in
theorem tX7_check_22 (K : XK p m c cX7_check 4 s args wsX7_check RX7 D (xtys cI cO) A meth (some .int)) {Q : Int32 → xF → xA → Prop} : ∀ (n : Nat), ∀ (x1 : Int32) (x2 : Int32) (x3 : Int32) (F : xF) (G : xA), qX7_check_22 Q n x1 x2 x3 F G → XJ p l e rmX7_check s m args below meth c 0 0 (MQ below (xQi D (w7 cI a) A Q) args s 0 0 A) D (xtys cI cO) A 4 (w7 cI a F G) 22 [(0, .ref (a 0)), (1, .int x1), (2, .int x2), (3, .int x3)] [] := by
  intro n
  induction n with
  | zero =>
    intro x1 x2 x3 F G h
    exact False.elim h
  | succ n ih =>
    intro x1 x2 x3 F G h
    refine x_iload_n (pc' := 23) K dX7_check_22 2 rfl rfl ?_
    refine x_iload_n (pc' := 24) K dX7_check_23 1 rfl rfl ?_
    refine x_icmp_ge (tgt := 69) (pc' := 27) K dX7_check_24 rfl rfl (fun c24 => ?_) (fun c24 => ?_)
    · replace h := h.1 c24
      refine x_aload_n (pc' := 70) K dX7_check_69 0 rfl rfl ?_
      refine x_callV (pc' := 73) K (mX7_layBack l D cI cO a) rfl gX7_check_X7_layBack rfl dsX7_layBack ⟨rfl, rfl, ⟨Nat.le_of_ble_eq_true rfl, Nat.le_of_ble_eq_true rfl⟩, Nat.le_of_ble_eq_true rfl, Nat.le_of_ble_eq_true rfl⟩ h 7 0 rfl rfl (st := []) rfl rfl (Nat.le_of_ble_eq_true rfl) dX7_check_70 rfl (fun F70 G70 h => ?_)
      refine x_iload_n (pc' := 74) K dX7_check_73 3 rfl rfl ?_
      refine x_if_eq (tgt := 81) (pc' := 77) K dX7_check_74 rfl rfl (fun c74 => ?_) (fun c74 => ?_)
      · replace h := h.1 c74
        refine x_iconst (pc' := 82) (v := 1) K dX7_check_81 (by decide) rfl ?_
        refine x_iload_n (pc' := 83) K dX7_check_82 2 rfl rfl ?_
        refine x_iadd (pc' := 84) K dX7_check_83 rfl ?_
        exact x_iret (wf := w7 cI a) K h dX7_check_84
      · replace h := h.2 c74
        refine x_iconst (pc' := 78) (v := 0) K dX7_check_77 (by decide) rfl ?_
        refine x_goto (tgt := 84) K dX7_check_78 rfl ?_
        exact x_iret (wf := w7 cI a) K h dX7_check_84
    · replace h := h.2 c24
      refine x_iload_n (pc' := 28) K dX7_check_27 3 rfl rfl ?_
      refine x_if_eq (tgt := 69) (pc' := 31) K dX7_check_28 rfl rfl (fun c28 => ?_) (fun c28 => ?_)
      · replace h := h.1 c28
        refine x_aload_n (pc' := 70) K dX7_check_69 0 rfl rfl ?_
        refine x_callV (pc' := 73) K (mX7_layBack l D cI cO a) rfl gX7_check_X7_layBack rfl dsX7_layBack ⟨rfl, rfl, ⟨Nat.le_of_ble_eq_true rfl, Nat.le_of_ble_eq_true rfl⟩, Nat.le_of_ble_eq_true rfl, Nat.le_of_ble_eq_true rfl⟩ h 7 0 rfl rfl (st := []) rfl rfl (Nat.le_of_ble_eq_true rfl) dX7_check_70 rfl (fun F70 G70 h => ?_)
        refine x_iload_n (pc' := 74) K dX7_check_73 3 rfl rfl ?_
        refine x_if_eq (tgt := 81) (pc' := 77) K dX7_check_74 rfl rfl (fun c74 => ?_) (fun c74 => ?_)
        · replace h := h.1 c74
          refine x_iconst (pc' := 82) (v := 1) K dX7_check_81 (by decide) rfl ?_
          refine x_iload_n (pc' := 83) K dX7_check_82 2 rfl rfl ?_
          refine x_iadd (pc' := 84) K dX7_check_83 rfl ?_
          exact x_iret (wf := w7 cI a) K h dX7_check_84
        · replace h := h.2 c74
          refine x_iconst (pc' := 78) (v := 0) K dX7_check_77 (by decide) rfl ?_
          refine x_goto (tgt := 84) K dX7_check_78 rfl ?_
          exact x_iret (wf := w7 cI a) K h dX7_check_84
      · replace h := h.2 c28
        refine x_aload_n (pc' := 32) K dX7_check_31 0 rfl rfl ?_
        refine xw7_0g_s (pc' := 35) K hinX7_check_X7 uX7_check_f7 dX7_check_32 rfl ?_
        refine x_sipush (pc' := 38) (v := 431) K dX7_check_35 (by decide) rfl ?_
        refine x_iload_n (pc' := 39) K dX7_check_38 2 rfl rfl ?_
        refine x_iadd (pc' := 40) K dX7_check_39 rfl ?_
        obtain ⟨i40, h⟩ := h
        refine xw7_1l (pc' := 41) K i40 rfl dX7_check_40 rfl ?_
        refine x_aload_n (pc' := 42) K dX7_check_41 0 rfl rfl ?_
        refine x_callI (pc' := 45) K (mX7_day l D cI cO a) rfl gX7_check_X7_day rfl dsX7_day ⟨rfl, rfl, ⟨Nat.le_of_ble_eq_true rfl, Nat.le_of_ble_eq_true rfl⟩, Nat.le_of_ble_eq_true rfl, Nat.le_of_ble_eq_true rfl⟩ h 7 0 rfl rfl (st := [.int _]) rfl rfl (Nat.le_of_ble_eq_true rfl) dX7_check_42 rfl (fun r42 F42 G42 h => ?_)
        refine x_icmp_ne (tgt := 52) (pc' := 48) K dX7_check_45 rfl rfl (fun c45 => ?_) (fun c45 => ?_)
        · replace h := h.1 c45
          refine x_iconst (pc' := 53) (v := 0) K dX7_check_52 (by decide) rfl ?_
          refine x_locals [0, 1, 2] (L' := [(0, .ref (a 0)), (1, .int _), (2, .int _)]) rfl ?_
          exact tX7_check_53 K (fun x1 x2 x3 F G h => ih x1 x2 x3 F G h) _ _ _ _ _ h
        · replace h := h.2 c45
          refine x_iconst (pc' := 49) (v := 1) K dX7_check_48 (by decide) rfl ?_
          refine x_goto (tgt := 53) K dX7_check_49 rfl ?_
          refine x_locals [0, 1, 2] (L' := [(0, .ref (a 0)), (1, .int _), (2, .int _)]) rfl ?_
          exact tX7_check_53 K (fun x1 x2 x3 F G h => ih x1 x2 x3 F G h) _ _ _ _ _ h
set_option maxHeartbeats 4000000 in
set_option maxRecDepth 100000 in
theorem mX7_check (l : Launch) (D : va_G) (cI cO : ClassId) (a : Nat → Nat)   : MI l yX7_check wsX7_check rmX7_check D (xtys cI cO) [.ref (a 0)] (w7 cI a) qX7_check := by
  refine MI_of (cc := cX7_check) (maxL := 4) (own := RX7) (by decide) rfl rfl (Nat.le_of_ble_eq_true rfl) ?_
  intro p e s m args below meth c A F G Q h K
  refine x_locals [0] (L' := [(0, .ref (a 0))]) rfl ?_
  refine x_aload_n (pc' := 1) K dX7_check_0 0 rfl rfl ?_
  refine xw7_0g_s (pc' := 4) K hinX7_check_X7 uX7_check_f7 dX7_check_1 rfl ?_
  refine x_iconst (pc' := 5) (v := 5) K dX7_check_4 (by decide) rfl ?_
  refine xw7_1l (pc' := 6) K (j := 5) (xin_of (by decide +kernel)) (by decide +kernel) dX7_check_5 rfl ?_
  refine x_istore_n (pc' := 7) (i := 1) K dX7_check_6 rfl (by decide) [1, 0] (L' := [(0, .ref (a 0)), (1, .int _)]) rfl rfl ?_
  refine x_aload_n (pc' := 8) K dX7_check_7 0 rfl rfl ?_
  refine xw7_0g_s (pc' := 11) K hinX7_check_X7 uX7_check_f7 dX7_check_8 rfl ?_
  refine x_iconst (pc' := 12) (v := 5) K dX7_check_11 (by decide) rfl ?_
  refine x_iconst (pc' := 13) (v := 0) K dX7_check_12 (by decide) rfl ?_
  refine xw7_1s (pc' := 14) K (j := 5) (xin_of (by decide +kernel)) (by decide +kernel) dX7_check_13 rfl (fun G13 eG13 => ?_)
  replace h := h G13 eG13
  refine x_aload_n (pc' := 15) K dX7_check_14 0 rfl rfl ?_
  refine x_callV (pc' := 18) K (mX7_layDown l D cI cO a) rfl gX7_check_X7_layDown rfl dsX7_layDown ⟨rfl, rfl, ⟨Nat.le_of_ble_eq_true rfl, Nat.le_of_ble_eq_true rfl⟩, Nat.le_of_ble_eq_true rfl, Nat.le_of_ble_eq_true rfl⟩ h 7 0 rfl rfl (st := []) rfl rfl (Nat.le_of_ble_eq_true rfl) dX7_check_15 rfl (fun F15 G15 h => ?_)
  refine x_iconst (pc' := 19) (v := 0) K dX7_check_18 (by decide) rfl ?_
  refine x_istore_n (pc' := 20) (i := 2) K dX7_check_19 rfl (by decide) [1, 2, 0] (L' := [(0, .ref (a 0)), (1, .int _), (2, .int _)]) rfl rfl ?_
  refine x_iconst (pc' := 21) (v := 1) K dX7_check_20 (by decide) rfl ?_
  refine x_istore_n (pc' := 22) (i := 3) K dX7_check_21 rfl (by decide) [1, 2, 3, 0] (L' := [(0, .ref (a 0)), (1, .int _), (2, .int _), (3, .int _)]) rfl rfl ?_
  obtain ⟨n22, h⟩ := h
  exact tX7_check_22 K n22 _ _ _ _ _ h
/-! X7_count -/
abbrev rmX7_count : Room := { frames := 4, cells := 0, slots := 0, locals := 105 }
theorem dsX7_count : xDesc yX7_count 1 := by decide +kernel
theorem uX7_count_f7 : Cond.fieldLink RX7 7 "PigNinthsModel" "s" "[I" ∈ wsX7_count := by decide +kernel
theorem hinX7_count_X7 : ∀ w ∈ wsX70, w ∈ wsX7_count := by decide +kernel
theorem uX7_count_f227 : Cond.fieldLink RX7 227 "PigNinthsModel" "traced" "I" ∈ wsX7_count := by decide +kernel
def qX7_count (x1 : Int32) (F : xF) (G : xA) (Q : Int32 → xF → xA → Prop) : Prop := ((x1 = (0 : Int32) → Q (G 0 0) F G) ∧ (¬ x1 = (0 : Int32) → ((x1 = (1 : Int32) → qX7_whoHas  F G (fun r72 F72 G72 => Q r72 F72 G72)) ∧ (¬ x1 = (1 : Int32) → ((x1 = (2 : Int32) → Q (G 0 2) F G) ∧ (¬ x1 = (2 : Int32) → ((x1 = (3 : Int32) → Q (G 0 3) F G) ∧ (¬ x1 = (3 : Int32) → ((x1 = (4 : Int32) → Q (G 0 1) F G) ∧ (¬ x1 = (4 : Int32) → ((x1 = (5 : Int32) → qX7_allUnder  F G (fun r98 F98 G98 => Q r98 F98 G98)) ∧ (¬ x1 = (5 : Int32) → ((x1 = (6 : Int32) → qX7_allOf (2 : Int32) F G (fun r104 F104 G104 => Q r104 F104 G104)) ∧ (¬ x1 = (6 : Int32) → ((x1 = (7 : Int32) → qX7_allOf (3 : Int32) F G (fun r110 F110 G110 => Q r110 F110 G110)) ∧ (¬ x1 = (7 : Int32) → ((x1 = (8 : Int32) → Q (G 0 4) F G) ∧ (¬ x1 = (8 : Int32) → ((x1 = (9 : Int32) → Q (G 0 5) F G) ∧ (¬ x1 = (9 : Int32) → ((x1 = (10 : Int32) → Q (F 6) F G) ∧ (¬ x1 = (10 : Int32) → ((x1 = (11 : Int32) → Q (G 0 6) F G) ∧ (¬ x1 = (11 : Int32) → qX7_error (1 : Int32) F G (fun r143 F143 G143 => Q r143 F143 G143)))))))))))))))))))))))))
set_option maxHeartbeats 4000000 in
set_option maxRecDepth 100000 in
theorem mX7_count (l : Launch) (D : va_G) (cI cO : ClassId) (a : Nat → Nat)  (x1 : Int32) : MI l yX7_count wsX7_count rmX7_count D (xtys cI cO) [.ref (a 0), .int x1] (w7 cI a) (qX7_count x1) := by
  refine MI_of (cc := cX7_count) (maxL := 2) (own := RX7) (by decide) rfl rfl (Nat.le_of_ble_eq_true rfl) ?_
  intro p e s m args below meth c A F G Q h K
  refine x_locals [0, 1] (L' := [(0, .ref (a 0)), (1, .int _)]) rfl ?_
  refine x_iload_n (pc' := 1) K dX7_count_0 1 rfl rfl ?_
  refine (Classical.em (x1 = (0 : Int32))).elim (fun e1 => ?_) (fun e1_1 => ?_)
  · replace h := h.1 e1
    refine x_tableIn (tgt := 64) (off := 63) K dX7_count_1 (by rw [e1]; decide) (by rw [e1]; decide) (by rw [e1]; rfl) rfl ?_
    refine x_aload_n (pc' := 65) K dX7_count_64 0 rfl rfl ?_
    refine xw7_0g_s (pc' := 68) K hinX7_count_X7 uX7_count_f7 dX7_count_65 rfl ?_
    refine x_iconst (pc' := 69) (v := 0) K dX7_count_68 (by decide) rfl ?_
    refine xw7_1l (pc' := 70) K (j := 0) (xin_of (by decide +kernel)) (by decide +kernel) dX7_count_69 rfl ?_
    exact x_iret (wf := w7 cI a) K h dX7_count_70
  · replace h := h.2 e1_1
    refine (Classical.em (x1 = (1 : Int32))).elim (fun e1 => ?_) (fun e1_2 => ?_)
    · replace h := h.1 e1
      refine x_tableIn (tgt := 71) (off := 70) K dX7_count_1 (by rw [e1]; decide) (by rw [e1]; decide) (by rw [e1]; rfl) rfl ?_
      refine x_aload_n (pc' := 72) K dX7_count_71 0 rfl rfl ?_
      refine x_callI (pc' := 75) K (mX7_whoHas l D cI cO a) rfl gX7_count_X7_whoHas rfl dsX7_whoHas ⟨rfl, rfl, ⟨Nat.le_of_ble_eq_true rfl, Nat.le_of_ble_eq_true rfl⟩, Nat.le_of_ble_eq_true rfl, Nat.le_of_ble_eq_true rfl⟩ h 7 0 rfl rfl (st := []) rfl rfl (Nat.le_of_ble_eq_true rfl) dX7_count_72 rfl (fun r72 F72 G72 h => ?_)
      exact x_iret (wf := w7 cI a) K h dX7_count_75
    · replace h := h.2 e1_2
      refine (Classical.em (x1 = (2 : Int32))).elim (fun e1 => ?_) (fun e1_3 => ?_)
      · replace h := h.1 e1
        refine x_tableIn (tgt := 76) (off := 75) K dX7_count_1 (by rw [e1]; decide) (by rw [e1]; decide) (by rw [e1]; rfl) rfl ?_
        refine x_aload_n (pc' := 77) K dX7_count_76 0 rfl rfl ?_
        refine xw7_0g_s (pc' := 80) K hinX7_count_X7 uX7_count_f7 dX7_count_77 rfl ?_
        refine x_iconst (pc' := 81) (v := 2) K dX7_count_80 (by decide) rfl ?_
        refine xw7_1l (pc' := 82) K (j := 2) (xin_of (by decide +kernel)) (by decide +kernel) dX7_count_81 rfl ?_
        exact x_iret (wf := w7 cI a) K h dX7_count_82
      · replace h := h.2 e1_3
        refine (Classical.em (x1 = (3 : Int32))).elim (fun e1 => ?_) (fun e1_4 => ?_)
        · replace h := h.1 e1
          refine x_tableIn (tgt := 83) (off := 82) K dX7_count_1 (by rw [e1]; decide) (by rw [e1]; decide) (by rw [e1]; rfl) rfl ?_
          refine x_aload_n (pc' := 84) K dX7_count_83 0 rfl rfl ?_
          refine xw7_0g_s (pc' := 87) K hinX7_count_X7 uX7_count_f7 dX7_count_84 rfl ?_
          refine x_iconst (pc' := 88) (v := 3) K dX7_count_87 (by decide) rfl ?_
          refine xw7_1l (pc' := 89) K (j := 3) (xin_of (by decide +kernel)) (by decide +kernel) dX7_count_88 rfl ?_
          exact x_iret (wf := w7 cI a) K h dX7_count_89
        · replace h := h.2 e1_4
          refine (Classical.em (x1 = (4 : Int32))).elim (fun e1 => ?_) (fun e1_5 => ?_)
          · replace h := h.1 e1
            refine x_tableIn (tgt := 90) (off := 89) K dX7_count_1 (by rw [e1]; decide) (by rw [e1]; decide) (by rw [e1]; rfl) rfl ?_
            refine x_aload_n (pc' := 91) K dX7_count_90 0 rfl rfl ?_
            refine xw7_0g_s (pc' := 94) K hinX7_count_X7 uX7_count_f7 dX7_count_91 rfl ?_
            refine x_iconst (pc' := 95) (v := 1) K dX7_count_94 (by decide) rfl ?_
            refine xw7_1l (pc' := 96) K (j := 1) (xin_of (by decide +kernel)) (by decide +kernel) dX7_count_95 rfl ?_
            exact x_iret (wf := w7 cI a) K h dX7_count_96
          · replace h := h.2 e1_5
            refine (Classical.em (x1 = (5 : Int32))).elim (fun e1 => ?_) (fun e1_6 => ?_)
            · replace h := h.1 e1
              refine x_tableIn (tgt := 97) (off := 96) K dX7_count_1 (by rw [e1]; decide) (by rw [e1]; decide) (by rw [e1]; rfl) rfl ?_
              refine x_aload_n (pc' := 98) K dX7_count_97 0 rfl rfl ?_
              refine x_callI (pc' := 101) K (mX7_allUnder l D cI cO a) rfl gX7_count_X7_allUnder rfl dsX7_allUnder ⟨rfl, rfl, ⟨Nat.le_of_ble_eq_true rfl, Nat.le_of_ble_eq_true rfl⟩, Nat.le_of_ble_eq_true rfl, Nat.le_of_ble_eq_true rfl⟩ h 7 0 rfl rfl (st := []) rfl rfl (Nat.le_of_ble_eq_true rfl) dX7_count_98 rfl (fun r98 F98 G98 h => ?_)
              exact x_iret (wf := w7 cI a) K h dX7_count_101
            · replace h := h.2 e1_6
              refine (Classical.em (x1 = (6 : Int32))).elim (fun e1 => ?_) (fun e1_7 => ?_)
              · replace h := h.1 e1
                refine x_tableIn (tgt := 102) (off := 101) K dX7_count_1 (by rw [e1]; decide) (by rw [e1]; decide) (by rw [e1]; rfl) rfl ?_
                refine x_aload_n (pc' := 103) K dX7_count_102 0 rfl rfl ?_
                refine x_iconst (pc' := 104) (v := 2) K dX7_count_103 (by decide) rfl ?_
                refine x_callI (pc' := 107) K (mX7_allOf l D cI cO a _) rfl gX7_count_X7_allOf rfl dsX7_allOf ⟨rfl, rfl, ⟨Nat.le_of_ble_eq_true rfl, Nat.le_of_ble_eq_true rfl⟩, Nat.le_of_ble_eq_true rfl, Nat.le_of_ble_eq_true rfl⟩ h 7 0 rfl rfl (st := []) rfl rfl (Nat.le_of_ble_eq_true rfl) dX7_count_104 rfl (fun r104 F104 G104 h => ?_)
                exact x_iret (wf := w7 cI a) K h dX7_count_107
              · replace h := h.2 e1_7
                refine (Classical.em (x1 = (7 : Int32))).elim (fun e1 => ?_) (fun e1_8 => ?_)
                · replace h := h.1 e1
                  refine x_tableIn (tgt := 108) (off := 107) K dX7_count_1 (by rw [e1]; decide) (by rw [e1]; decide) (by rw [e1]; rfl) rfl ?_
                  refine x_aload_n (pc' := 109) K dX7_count_108 0 rfl rfl ?_
                  refine x_iconst (pc' := 110) (v := 3) K dX7_count_109 (by decide) rfl ?_
                  refine x_callI (pc' := 113) K (mX7_allOf l D cI cO a _) rfl gX7_count_X7_allOf rfl dsX7_allOf ⟨rfl, rfl, ⟨Nat.le_of_ble_eq_true rfl, Nat.le_of_ble_eq_true rfl⟩, Nat.le_of_ble_eq_true rfl, Nat.le_of_ble_eq_true rfl⟩ h 7 0 rfl rfl (st := []) rfl rfl (Nat.le_of_ble_eq_true rfl) dX7_count_110 rfl (fun r110 F110 G110 h => ?_)
                  exact x_iret (wf := w7 cI a) K h dX7_count_113
                · replace h := h.2 e1_8
                  refine (Classical.em (x1 = (8 : Int32))).elim (fun e1 => ?_) (fun e1_9 => ?_)
                  · replace h := h.1 e1
                    refine x_tableIn (tgt := 114) (off := 113) K dX7_count_1 (by rw [e1]; decide) (by rw [e1]; decide) (by rw [e1]; rfl) rfl ?_
                    refine x_aload_n (pc' := 115) K dX7_count_114 0 rfl rfl ?_
                    refine xw7_0g_s (pc' := 118) K hinX7_count_X7 uX7_count_f7 dX7_count_115 rfl ?_
                    refine x_iconst (pc' := 119) (v := 4) K dX7_count_118 (by decide) rfl ?_
                    refine xw7_1l (pc' := 120) K (j := 4) (xin_of (by decide +kernel)) (by decide +kernel) dX7_count_119 rfl ?_
                    exact x_iret (wf := w7 cI a) K h dX7_count_120
                  · replace h := h.2 e1_9
                    refine (Classical.em (x1 = (9 : Int32))).elim (fun e1 => ?_) (fun e1_10 => ?_)
                    · replace h := h.1 e1
                      refine x_tableIn (tgt := 121) (off := 120) K dX7_count_1 (by rw [e1]; decide) (by rw [e1]; decide) (by rw [e1]; rfl) rfl ?_
                      refine x_aload_n (pc' := 122) K dX7_count_121 0 rfl rfl ?_
                      refine xw7_0g_s (pc' := 125) K hinX7_count_X7 uX7_count_f7 dX7_count_122 rfl ?_
                      refine x_iconst (pc' := 126) (v := 5) K dX7_count_125 (by decide) rfl ?_
                      refine xw7_1l (pc' := 127) K (j := 5) (xin_of (by decide +kernel)) (by decide +kernel) dX7_count_126 rfl ?_
                      exact x_iret (wf := w7 cI a) K h dX7_count_127
                    · replace h := h.2 e1_10
                      refine (Classical.em (x1 = (10 : Int32))).elim (fun e1 => ?_) (fun e1_11 => ?_)
                      · replace h := h.1 e1
                        refine x_tableIn (tgt := 128) (off := 127) K dX7_count_1 (by rw [e1]; decide) (by rw [e1]; decide) (by rw [e1]; rfl) rfl ?_
                        refine x_aload_n (pc' := 129) K dX7_count_128 0 rfl rfl ?_
                        refine xw7_0g_traced (pc' := 132) K hinX7_count_X7 uX7_count_f227 dX7_count_129 rfl ?_
                        exact x_iret (wf := w7 cI a) K h dX7_count_132
                      · replace h := h.2 e1_11
                        refine (Classical.em (x1 = (11 : Int32))).elim (fun e1 => ?_) (fun e1_12 => ?_)
                        · replace h := h.1 e1
                          refine x_tableIn (tgt := 133) (off := 132) K dX7_count_1 (by rw [e1]; decide) (by rw [e1]; decide) (by rw [e1]; rfl) rfl ?_
                          refine x_aload_n (pc' := 134) K dX7_count_133 0 rfl rfl ?_
                          refine xw7_0g_s (pc' := 137) K hinX7_count_X7 uX7_count_f7 dX7_count_134 rfl ?_
                          refine x_bipush (pc' := 139) (v := 6) K dX7_count_137 (by decide) rfl ?_
                          refine xw7_1l (pc' := 140) K (j := 6) (xin_of (by decide +kernel)) (by decide +kernel) dX7_count_139 rfl ?_
                          exact x_iret (wf := w7 cI a) K h dX7_count_140
                        · replace h := h.2 e1_12
                          have f1_1 := xtin (i := 0) e1_1 (by decide)
                          have f1_2 := xtin (i := 1) e1_2 (by decide)
                          have f1_3 := xtin (i := 2) e1_3 (by decide)
                          have f1_4 := xtin (i := 3) e1_4 (by decide)
                          have f1_5 := xtin (i := 4) e1_5 (by decide)
                          have f1_6 := xtin (i := 5) e1_6 (by decide)
                          have f1_7 := xtin (i := 6) e1_7 (by decide)
                          have f1_8 := xtin (i := 7) e1_8 (by decide)
                          have f1_9 := xtin (i := 8) e1_9 (by decide)
                          have f1_10 := xtin (i := 9) e1_10 (by decide)
                          have f1_11 := xtin (i := 10) e1_11 (by decide)
                          have f1_12 := xtin (i := 11) e1_12 (by decide)
                          refine (Classical.em (x1.toInt < 0 ∨ 11 < x1.toInt)).elim (fun g1 => ?_) (fun g1 => ?_)
                          · refine x_tableOut (tgt := 141) K dX7_count_1 g1 rfl ?_
                            refine x_aload_n (pc' := 142) K dX7_count_141 0 rfl rfl ?_
                            refine x_iconst (pc' := 143) (v := 1) K dX7_count_142 (by decide) rfl ?_
                            refine x_callI (pc' := 146) K (mX7_error l D cI cO a _) rfl gX7_count_X7_error rfl dsX7_error ⟨rfl, rfl, ⟨Nat.le_of_ble_eq_true rfl, Nat.le_of_ble_eq_true rfl⟩, Nat.le_of_ble_eq_true rfl, Nat.le_of_ble_eq_true rfl⟩ h 7 0 rfl rfl (st := []) rfl rfl (Nat.le_of_ble_eq_true rfl) dX7_count_143 rfl (fun r143 F143 G143 h => ?_)
                            exact x_iret (wf := w7 cI a) K h dX7_count_146
                          · exact absurd g1 (by omega)
end
