section
variable {p : Program} {l : Launch} {e : Env} {s : State} {m : MethodId} {args : Array Value} {below : List Frame} {meth : Method} {c : Code} {D : va_G} {cI cO : ClassId} {A : Nat → Prop} {a : Nat → Nat} {d : Nat}
/-! X7_told -/
abbrev rmX7_told : Room := { frames := 3, cells := 0, slots := 0, locals := 82 }
theorem dsX7_told : xDesc yX7_told 1 := by decide +kernel
theorem uX7_told_f19 : Cond.fieldLink RX7 19 "PigNinthsModel" "errors" "[I" ∈ wsX7_told := by decide +kernel
theorem hinX7_told_X7 : ∀ w ∈ wsX70, w ∈ wsX7_told := by decide +kernel
def qX7_told (x1 : Int32) (F : xF) (G : xA) (Q : Int32 → xF → xA → Prop) : Prop := qX7_in x1 (1 : Int32) (6 : Int32) (fun r4 => ((r4 = 0 → qX7_error (1 : Int32) F G (fun r21 F21 G21 => Q r21 F21 G21)) ∧ (¬ r4 = 0 → (vp_in x1 7) ∧ Q (G 3 x1.toNatClampNeg) F G)))
set_option maxHeartbeats 4000000 in
set_option maxRecDepth 100000 in
theorem mX7_told (l : Launch) (D : va_G) (cI cO : ClassId) (a : Nat → Nat)  (x1 : Int32) : MI l yX7_told wsX7_told rmX7_told D (xtys cI cO) [.ref (a 0), .int x1] (w7 cI a) (qX7_told x1) := by
  refine MI_of (cc := cX7_told) (maxL := 2) (own := RX7) (by decide) rfl rfl (Nat.le_of_ble_eq_true rfl) ?_
  intro p e s m args below meth c A F G Q h K
  refine x_locals [0, 1] (L' := [(0, .ref (a 0)), (1, .int _)]) rfl ?_
  refine x_iload_n (pc' := 1) K dX7_told_0 1 rfl rfl ?_
  refine x_iconst (pc' := 2) (v := 1) K dX7_told_1 (by decide) rfl ?_
  refine x_bipush (pc' := 4) (v := 6) K dX7_told_2 (by decide) rfl ?_
  refine x_callS (pc' := 7) K (mX7_in l D cI cO a _ _ _) rfl gX7_told_X7_in dsX7_in ⟨rfl, rfl, ⟨Nat.le_of_ble_eq_true rfl, Nat.le_of_ble_eq_true rfl⟩, Nat.le_of_ble_eq_true rfl, Nat.le_of_ble_eq_true rfl⟩ h (st := []) rfl rfl (Nat.le_of_ble_eq_true rfl) dX7_told_4 rfl (fun r4 h => ?_)
  refine x_if_eq (tgt := 19) (pc' := 10) K dX7_told_7 rfl rfl (fun c7 => ?_) (fun c7 => ?_)
  · replace h := h.1 c7
    refine x_aload_n (pc' := 20) K dX7_told_19 0 rfl rfl ?_
    refine x_iconst (pc' := 21) (v := 1) K dX7_told_20 (by decide) rfl ?_
    refine x_callI (pc' := 24) K (mX7_error l D cI cO a _) rfl gX7_told_X7_error rfl dsX7_error ⟨rfl, rfl, ⟨Nat.le_of_ble_eq_true rfl, Nat.le_of_ble_eq_true rfl⟩, Nat.le_of_ble_eq_true rfl, Nat.le_of_ble_eq_true rfl⟩ h 7 0 rfl rfl (st := []) rfl rfl (Nat.le_of_ble_eq_true rfl) dX7_told_21 rfl (fun r21 F21 G21 h => ?_)
    exact x_iret (wf := w7 cI a) K h dX7_told_24
  · replace h := h.2 c7
    refine x_aload_n (pc' := 11) K dX7_told_10 0 rfl rfl ?_
    refine xw7_0g_errors (pc' := 14) K hinX7_told_X7 uX7_told_f19 dX7_told_11 rfl ?_
    refine x_iload_n (pc' := 15) K dX7_told_14 1 rfl rfl ?_
    obtain ⟨i15, h⟩ := h
    refine xw7_4l (pc' := 16) K i15 rfl dX7_told_15 rfl ?_
    refine x_goto (tgt := 24) K dX7_told_16 rfl ?_
    exact x_iret (wf := w7 cI a) K h dX7_told_24
/-! X7_whoHid -/
abbrev rmX7_whoHid : Room := { frames := 10, cells := 0, slots := 0, locals := 255 }
theorem dsX7_whoHid : xDesc yX7_whoHid 3 := by decide +kernel
theorem uX7_whoHid_f47 : Cond.fieldLink RX7 47 "PigNinthsModel" "bits" "[I" ∈ wsX7_whoHid := by decide +kernel
theorem hinX7_whoHid_X7 : ∀ w ∈ wsX70, w ∈ wsX7_whoHid := by decide +kernel
theorem uX7_whoHid_f50 : Cond.fieldLink RX7 50 "PigNinthsModel" "sizes" "[I" ∈ wsX7_whoHid := by decide +kernel
def qX7_whoHid_135 (Q : Int32 → xF → xA → Prop) (k70 : Int32 → Int32 → Int32 → Int32 → Int32 → Int32 → Int32 → xF → xA → Prop) (x1 : Int32) (x2 : Int32) (x3 : Int32) (x4 : Int32) (x5 : Int32) (x7 : Int32) (y0 : Int32) (F : xF) (G : xA) : Prop := ((¬ x5 = (-1 : Int32) → k70 x1 x2 x3 x4 x5 y0 (x7 + (1 : Int32)) F G) ∧ (x5 = (-1 : Int32) → k70 x1 x2 x3 x4 x7 y0 (x7 + (1 : Int32)) F G))
def qX7_whoHid_106 (Q : Int32 → xF → xA → Prop) (k70 : Int32 → Int32 → Int32 → Int32 → Int32 → Int32 → Int32 → xF → xA → Prop) (x1 : Int32) (x2 : Int32) (x3 : Int32) (x4 : Int32) (x5 : Int32) (x6 : Int32) (x7 : Int32) (x8 : Int32) (F : xF) (G : xA) : Prop := (((10 : Int32) ≤ x8 → k70 x1 x2 x3 x4 x5 x6 (x7 + (1 : Int32)) F G) ∧ (¬ (10 : Int32) ≤ x8 → ((¬ x5 = (-1 : Int32) → qX7_whoHid_135 Q k70 x1 x2 x3 (x4 ||| ((1 : Int32) <<< (x7 &&& 31))) x5 x7 x6 F G) ∧ (x5 = (-1 : Int32) → qX7_whoHid_135 Q k70 x1 x2 x3 (x4 ||| ((1 : Int32) <<< (x7 &&& 31))) x5 x7 x8 F G))))
def qX7_whoHid_80 (Q : Int32 → xF → xA → Prop) (k70 : Int32 → Int32 → Int32 → Int32 → Int32 → Int32 → Int32 → xF → xA → Prop) : Nat → Int32 → Int32 → Int32 → Int32 → Int32 → Int32 → Int32 → Int32 → xF → xA → Prop
  | 0, _, _, _, _, _, _, _, _, _, _ => False
  | n + 1, x1, x2, x3, x4, x5, x6, x7, x8, F, G => (((10 : Int32) ≤ x8 → qX7_whoHid_106 Q k70 x1 x2 x3 x4 x5 x6 x7 x8 F G) ∧ (¬ (10 : Int32) ≤ x8 → qX7_explains x1 x7 x8 x2 F G (fun r94 F94 G94 => ((¬ r94 = 0 → qX7_whoHid_106 Q k70 x1 x2 x3 x4 x5 x6 x7 x8 F94 G94) ∧ (r94 = 0 → qX7_whoHid_80 Q k70 n x1 x2 x3 x4 x5 x6 x7 (x8 + (1 : Int32)) F94 G94)))))
def qX7_whoHid_70 (Q : Int32 → xF → xA → Prop) : Nat → Int32 → Int32 → Int32 → Int32 → Int32 → Int32 → Int32 → xF → xA → Prop
  | 0, _, _, _, _, _, _, _, _, _ => False
  | n + 1, x1, x2, x3, x4, x5, x6, x7, F, G => (((9 : Int32) ≤ x7 → ((¬ x3 = 0 → ((¬ x5 = (-1 : Int32) → ((¬ x3 = (1 : Int32) → Q x6 F G) ∧ (x3 = (1 : Int32) → Q x5 F G))) ∧ (x5 = (-1 : Int32) → qX7_error (2 : Int32) F G (fun r175 F175 G175 => Q r175 F175 G175)))) ∧ (x3 = 0 → Q x4 F G))) ∧ (¬ (9 : Int32) ≤ x7 → ∃ j80, qX7_whoHid_80 Q (fun x1 x2 x3 x4 x5 x6 x7 F G => qX7_whoHid_70 Q n x1 x2 x3 x4 x5 x6 x7 F G) j80 x1 x2 x3 x4 x5 x6 x7 (0 : Int32) F G))
def qX7_whoHid (x1 : Int32) (x2 : Int32) (x3 : Int32) (F : xF) (G : xA) (Q : Int32 → xF → xA → Prop) : Prop := qX7_isSheet x1 (fun r1 => ((r1 = 0 → qX7_error (1 : Int32) F G (fun r28 F28 G28 => Q r28 F28 G28)) ∧ (¬ r1 = 0 → qX7_in x2 (1 : Int32) (18 : Int32) (fun r11 => ((r11 = 0 → qX7_error (1 : Int32) F G (fun r28 F28 G28 => Q r28 F28 G28)) ∧ (¬ r11 = 0 → qX7_in x3 (0 : Int32) (2 : Int32) (fun r20 => ((¬ r20 = 0 → (vp_in x1 4) ∧ (((G 11 x1.toNatClampNeg) = 0 → qX7_error (2 : Int32) F G (fun r54 F54 G54 => Q r54 F54 G54)) ∧ (¬ (G 11 x1.toNatClampNeg) = 0 → (vp_in x1 4) ∧ (((9 : Int32) ≤ (G 12 x1.toNatClampNeg) → ∃ j70, qX7_whoHid_70 Q j70 x1 x2 x3 (0 : Int32) (-1 : Int32) (0 : Int32) (0 : Int32) F G) ∧ (¬ (9 : Int32) ≤ (G 12 x1.toNatClampNeg) → qX7_error (2 : Int32) F G (fun r54 F54 G54 => Q r54 F54 G54)))))) ∧ (r20 = 0 → qX7_error (1 : Int32) F G (fun r28 F28 G28 => Q r28 F28 G28))))))))))
set_option maxHeartbeats 4000000 in
set_option maxRecDepth 100000 in
theorem tX7_whoHid_135 (K : XK p m c cX7_whoHid 9 s args wsX7_whoHid RX7 D (xtys cI cO) A meth (some .int)) {Q : Int32 → xF → xA → Prop} {k70 : Int32 → Int32 → Int32 → Int32 → Int32 → Int32 → Int32 → xF → xA → Prop} (hk70 : ∀ (x1 : Int32) (x2 : Int32) (x3 : Int32) (x4 : Int32) (x5 : Int32) (x6 : Int32) (x7 : Int32) (F : xF) (G : xA), k70 x1 x2 x3 x4 x5 x6 x7 F G → XJ p l e rmX7_whoHid s m args below meth c 0 0 (MQ below (xQi D (w7 cI a) A Q) args s 0 0 A) D (xtys cI cO) A 9 (w7 cI a F G) 70 [(0, .ref (a 0)), (1, .int x1), (2, .int x2), (3, .int x3), (4, .int x4), (5, .int x5), (6, .int x6), (7, .int x7)] []) : ∀ (x1 : Int32) (x2 : Int32) (x3 : Int32) (x4 : Int32) (x5 : Int32) (x7 : Int32) (y0 : Int32) (F : xF) (G : xA), qX7_whoHid_135 Q k70 x1 x2 x3 x4 x5 x7 y0 F G → XJ p l e rmX7_whoHid s m args below meth c 0 0 (MQ below (xQi D (w7 cI a) A Q) args s 0 0 A) D (xtys cI cO) A 9 (w7 cI a F G) 135 [(0, .ref (a 0)), (1, .int x1), (2, .int x2), (3, .int x3), (4, .int x4), (5, .int x5), (7, .int x7)] [.int y0] := by
  intro x1 x2 x3 x4 x5 x7 y0 F G h
  refine x_istore (pc' := 137) (i := 6) K dX7_whoHid_135 (by decide) [1, 2, 3, 4, 5, 6, 0, 7] (L' := [(0, .ref (a 0)), (1, .int _), (2, .int _), (3, .int _), (4, .int _), (5, .int _), (6, .int _), (7, .int _)]) rfl rfl ?_
  refine x_iload (pc' := 139) K dX7_whoHid_137 5 rfl rfl ?_
  refine x_iconst (pc' := 140) (v := -1) K dX7_whoHid_139 (by decide) rfl ?_
  refine x_icmp_ne (tgt := 148) (pc' := 143) K dX7_whoHid_140 rfl rfl (fun c140 => ?_) (fun c140 => ?_)
  · replace h := h.1 c140
    refine x_iload (pc' := 150) K dX7_whoHid_148 5 rfl rfl ?_
    refine x_istore (pc' := 152) (i := 5) K dX7_whoHid_150 (by decide) [1, 2, 3, 4, 5, 0, 6, 7] (L' := [(0, .ref (a 0)), (1, .int _), (2, .int _), (3, .int _), (4, .int _), (5, .int _), (6, .int _), (7, .int _)]) rfl rfl ?_
    refine x_iinc (pc' := 155) (v := _ + (1 : Int32)) K dX7_whoHid_152 7 rfl rfl (by decide) [1, 2, 3, 4, 5, 6, 7, 0] (L' := [(0, .ref (a 0)), (1, .int _), (2, .int _), (3, .int _), (4, .int _), (5, .int _), (6, .int _), (7, .int _)]) rfl rfl ?_
    refine x_goto (tgt := 70) K dX7_whoHid_155 rfl ?_
    exact hk70 _ _ _ _ _ _ _ _ _ h
  · replace h := h.2 c140
    refine x_iload (pc' := 145) K dX7_whoHid_143 7 rfl rfl ?_
    refine x_goto (tgt := 150) K dX7_whoHid_145 rfl ?_
    refine x_istore (pc' := 152) (i := 5) K dX7_whoHid_150 (by decide) [1, 2, 3, 4, 5, 0, 6, 7] (L' := [(0, .ref (a 0)), (1, .int _), (2, .int _), (3, .int _), (4, .int _), (5, .int _), (6, .int _), (7, .int _)]) rfl rfl ?_
    refine x_iinc (pc' := 155) (v := _ + (1 : Int32)) K dX7_whoHid_152 7 rfl rfl (by decide) [1, 2, 3, 4, 5, 6, 7, 0] (L' := [(0, .ref (a 0)), (1, .int _), (2, .int _), (3, .int _), (4, .int _), (5, .int _), (6, .int _), (7, .int _)]) rfl rfl ?_
    refine x_goto (tgt := 70) K dX7_whoHid_155 rfl ?_
    exact hk70 _ _ _ _ _ _ _ _ _ h
set_option maxHeartbeats 4000000 in
set_option maxRecDepth 100000 in
theorem tX7_whoHid_106 (K : XK p m c cX7_whoHid 9 s args wsX7_whoHid RX7 D (xtys cI cO) A meth (some .int)) {Q : Int32 → xF → xA → Prop} {k70 : Int32 → Int32 → Int32 → Int32 → Int32 → Int32 → Int32 → xF → xA → Prop} (hk70 : ∀ (x1 : Int32) (x2 : Int32) (x3 : Int32) (x4 : Int32) (x5 : Int32) (x6 : Int32) (x7 : Int32) (F : xF) (G : xA), k70 x1 x2 x3 x4 x5 x6 x7 F G → XJ p l e rmX7_whoHid s m args below meth c 0 0 (MQ below (xQi D (w7 cI a) A Q) args s 0 0 A) D (xtys cI cO) A 9 (w7 cI a F G) 70 [(0, .ref (a 0)), (1, .int x1), (2, .int x2), (3, .int x3), (4, .int x4), (5, .int x5), (6, .int x6), (7, .int x7)] []) : ∀ (x1 : Int32) (x2 : Int32) (x3 : Int32) (x4 : Int32) (x5 : Int32) (x6 : Int32) (x7 : Int32) (x8 : Int32) (F : xF) (G : xA), qX7_whoHid_106 Q k70 x1 x2 x3 x4 x5 x6 x7 x8 F G → XJ p l e rmX7_whoHid s m args below meth c 0 0 (MQ below (xQi D (w7 cI a) A Q) args s 0 0 A) D (xtys cI cO) A 9 (w7 cI a F G) 106 [(0, .ref (a 0)), (1, .int x1), (2, .int x2), (3, .int x3), (4, .int x4), (5, .int x5), (6, .int x6), (7, .int x7), (8, .int x8)] [] := by
  intro x1 x2 x3 x4 x5 x6 x7 x8 F G h
  refine x_iload (pc' := 108) K dX7_whoHid_106 8 rfl rfl ?_
  refine x_bipush (pc' := 110) (v := 10) K dX7_whoHid_108 (by decide) rfl ?_
  refine x_icmp_ge (tgt := 152) (pc' := 113) K dX7_whoHid_110 rfl rfl (fun c110 => ?_) (fun c110 => ?_)
  · replace h := h.1 c110
    refine x_iinc (pc' := 155) (v := _ + (1 : Int32)) K dX7_whoHid_152 7 rfl rfl (by decide) [1, 2, 3, 4, 5, 6, 7, 0, 8] (L' := [(0, .ref (a 0)), (1, .int _), (2, .int _), (3, .int _), (4, .int _), (5, .int _), (6, .int _), (7, .int _), (8, .int _)]) rfl rfl ?_
    refine x_goto (tgt := 70) K dX7_whoHid_155 rfl ?_
    refine x_locals [0, 1, 2, 3, 4, 5, 6, 7] (L' := [(0, .ref (a 0)), (1, .int _), (2, .int _), (3, .int _), (4, .int _), (5, .int _), (6, .int _), (7, .int _)]) rfl ?_
    exact hk70 _ _ _ _ _ _ _ _ _ h
  · replace h := h.2 c110
    refine x_iload (pc' := 115) K dX7_whoHid_113 4 rfl rfl ?_
    refine x_iconst (pc' := 116) (v := 1) K dX7_whoHid_115 (by decide) rfl ?_
    refine x_iload (pc' := 118) K dX7_whoHid_116 7 rfl rfl ?_
    refine x_ishl (pc' := 119) K dX7_whoHid_118 rfl ?_
    refine x_ior (pc' := 120) K dX7_whoHid_119 rfl ?_
    refine x_istore (pc' := 122) (i := 4) K dX7_whoHid_120 (by decide) [1, 2, 3, 4, 0, 5, 6, 7, 8] (L' := [(0, .ref (a 0)), (1, .int _), (2, .int _), (3, .int _), (4, .int _), (5, .int _), (6, .int _), (7, .int _), (8, .int _)]) rfl rfl ?_
    refine x_iload (pc' := 124) K dX7_whoHid_122 5 rfl rfl ?_
    refine x_iconst (pc' := 125) (v := -1) K dX7_whoHid_124 (by decide) rfl ?_
    refine x_icmp_ne (tgt := 133) (pc' := 128) K dX7_whoHid_125 rfl rfl (fun c125 => ?_) (fun c125 => ?_)
    · replace h := h.1 c125
      refine x_iload (pc' := 135) K dX7_whoHid_133 6 rfl rfl ?_
      refine x_locals [0, 1, 2, 3, 4, 5, 7] (L' := [(0, .ref (a 0)), (1, .int _), (2, .int _), (3, .int _), (4, .int _), (5, .int _), (7, .int _)]) rfl ?_
      exact tX7_whoHid_135 K hk70 _ _ _ _ _ _ _ _ _ h
    · replace h := h.2 c125
      refine x_iload (pc' := 130) K dX7_whoHid_128 8 rfl rfl ?_
      refine x_goto (tgt := 135) K dX7_whoHid_130 rfl ?_
      refine x_locals [0, 1, 2, 3, 4, 5, 7] (L' := [(0, .ref (a 0)), (1, .int _), (2, .int _), (3, .int _), (4, .int _), (5, .int _), (7, .int _)]) rfl ?_
      exact tX7_whoHid_135 K hk70 _ _ _ _ _ _ _ _ _ h
set_option maxHeartbeats 4000000 in
set_option maxRecDepth 100000 in
theorem tX7_whoHid_80 (K : XK p m c cX7_whoHid 9 s args wsX7_whoHid RX7 D (xtys cI cO) A meth (some .int)) {Q : Int32 → xF → xA → Prop} {k70 : Int32 → Int32 → Int32 → Int32 → Int32 → Int32 → Int32 → xF → xA → Prop} (hk70 : ∀ (x1 : Int32) (x2 : Int32) (x3 : Int32) (x4 : Int32) (x5 : Int32) (x6 : Int32) (x7 : Int32) (F : xF) (G : xA), k70 x1 x2 x3 x4 x5 x6 x7 F G → XJ p l e rmX7_whoHid s m args below meth c 0 0 (MQ below (xQi D (w7 cI a) A Q) args s 0 0 A) D (xtys cI cO) A 9 (w7 cI a F G) 70 [(0, .ref (a 0)), (1, .int x1), (2, .int x2), (3, .int x3), (4, .int x4), (5, .int x5), (6, .int x6), (7, .int x7)] []) : ∀ (n : Nat), ∀ (x1 : Int32) (x2 : Int32) (x3 : Int32) (x4 : Int32) (x5 : Int32) (x6 : Int32) (x7 : Int32) (x8 : Int32) (F : xF) (G : xA), qX7_whoHid_80 Q k70 n x1 x2 x3 x4 x5 x6 x7 x8 F G → XJ p l e rmX7_whoHid s m args below meth c 0 0 (MQ below (xQi D (w7 cI a) A Q) args s 0 0 A) D (xtys cI cO) A 9 (w7 cI a F G) 80 [(0, .ref (a 0)), (1, .int x1), (2, .int x2), (3, .int x3), (4, .int x4), (5, .int x5), (6, .int x6), (7, .int x7), (8, .int x8)] [] := by
  intro n
  induction n with
  | zero =>
    intro x1 x2 x3 x4 x5 x6 x7 x8 F G h
    exact False.elim h
  | succ n ih =>
    intro x1 x2 x3 x4 x5 x6 x7 x8 F G h
    refine x_iload (pc' := 82) K dX7_whoHid_80 8 rfl rfl ?_
    refine x_bipush (pc' := 84) (v := 10) K dX7_whoHid_82 (by decide) rfl ?_
    refine x_icmp_ge (tgt := 106) (pc' := 87) K dX7_whoHid_84 rfl rfl (fun c84 => ?_) (fun c84 => ?_)
    · replace h := h.1 c84
      exact tX7_whoHid_106 K hk70 _ _ _ _ _ _ _ _ _ _ h
    · replace h := h.2 c84
      refine x_aload_n (pc' := 88) K dX7_whoHid_87 0 rfl rfl ?_
      refine x_iload_n (pc' := 89) K dX7_whoHid_88 1 rfl rfl ?_
      refine x_iload (pc' := 91) K dX7_whoHid_89 7 rfl rfl ?_
      refine x_iload (pc' := 93) K dX7_whoHid_91 8 rfl rfl ?_
      refine x_iload_n (pc' := 94) K dX7_whoHid_93 2 rfl rfl ?_
      refine x_callI (pc' := 97) K (mX7_explains l D cI cO a _ _ _ _) rfl gX7_whoHid_X7_explains rfl dsX7_explains ⟨rfl, rfl, ⟨Nat.le_of_ble_eq_true rfl, Nat.le_of_ble_eq_true rfl⟩, Nat.le_of_ble_eq_true rfl, Nat.le_of_ble_eq_true rfl⟩ h 7 0 rfl rfl (st := []) rfl rfl (Nat.le_of_ble_eq_true rfl) dX7_whoHid_94 rfl (fun r94 F94 G94 h => ?_)
      refine x_if_ne (tgt := 106) (pc' := 100) K dX7_whoHid_97 rfl rfl (fun c97 => ?_) (fun c97 => ?_)
      · replace h := h.1 c97
        exact tX7_whoHid_106 K hk70 _ _ _ _ _ _ _ _ _ _ h
      · replace h := h.2 c97
        refine x_iinc (pc' := 103) (v := _ + (1 : Int32)) K dX7_whoHid_100 8 rfl rfl (by decide) [1, 2, 3, 4, 5, 6, 7, 8, 0] (L' := [(0, .ref (a 0)), (1, .int _), (2, .int _), (3, .int _), (4, .int _), (5, .int _), (6, .int _), (7, .int _), (8, .int _)]) rfl rfl ?_
        refine x_goto (tgt := 80) K dX7_whoHid_103 rfl ?_
        exact ih _ _ _ _ _ _ _ _ _ _ h
set_option maxHeartbeats 4000000 in
set_option maxRecDepth 100000 in
theorem tX7_whoHid_70 (K : XK p m c cX7_whoHid 9 s args wsX7_whoHid RX7 D (xtys cI cO) A meth (some .int)) {Q : Int32 → xF → xA → Prop} : ∀ (n : Nat), ∀ (x1 : Int32) (x2 : Int32) (x3 : Int32) (x4 : Int32) (x5 : Int32) (x6 : Int32) (x7 : Int32) (F : xF) (G : xA), qX7_whoHid_70 Q n x1 x2 x3 x4 x5 x6 x7 F G → XJ p l e rmX7_whoHid s m args below meth c 0 0 (MQ below (xQi D (w7 cI a) A Q) args s 0 0 A) D (xtys cI cO) A 9 (w7 cI a F G) 70 [(0, .ref (a 0)), (1, .int x1), (2, .int x2), (3, .int x3), (4, .int x4), (5, .int x5), (6, .int x6), (7, .int x7)] [] := by
  intro n
  induction n with
  | zero =>
    intro x1 x2 x3 x4 x5 x6 x7 F G h
    exact False.elim h
  | succ n ih =>
    intro x1 x2 x3 x4 x5 x6 x7 F G h
    refine x_iload (pc' := 72) K dX7_whoHid_70 7 rfl rfl ?_
    refine x_bipush (pc' := 74) (v := 9) K dX7_whoHid_72 (by decide) rfl ?_
    refine x_icmp_ge (tgt := 158) (pc' := 77) K dX7_whoHid_74 rfl rfl (fun c74 => ?_) (fun c74 => ?_)
    · replace h := h.1 c74
      refine x_iload_n (pc' := 159) K dX7_whoHid_158 3 rfl rfl ?_
      refine x_if_ne (tgt := 167) (pc' := 162) K dX7_whoHid_159 rfl rfl (fun c159 => ?_) (fun c159 => ?_)
      · replace h := h.1 c159
        refine x_iload (pc' := 169) K dX7_whoHid_167 5 rfl rfl ?_
        refine x_iconst (pc' := 170) (v := -1) K dX7_whoHid_169 (by decide) rfl ?_
        refine x_icmp_ne (tgt := 181) (pc' := 173) K dX7_whoHid_170 rfl rfl (fun c170 => ?_) (fun c170 => ?_)
        · replace h := h.1 c170
          refine x_iload_n (pc' := 182) K dX7_whoHid_181 3 rfl rfl ?_
          refine x_iconst (pc' := 183) (v := 1) K dX7_whoHid_182 (by decide) rfl ?_
          refine x_icmp_ne (tgt := 191) (pc' := 186) K dX7_whoHid_183 rfl rfl (fun c183 => ?_) (fun c183 => ?_)
          · replace h := h.1 c183
            refine x_iload (pc' := 193) K dX7_whoHid_191 6 rfl rfl ?_
            exact x_iret (wf := w7 cI a) K h dX7_whoHid_193
          · replace h := h.2 c183
            refine x_iload (pc' := 188) K dX7_whoHid_186 5 rfl rfl ?_
            refine x_goto (tgt := 193) K dX7_whoHid_188 rfl ?_
            exact x_iret (wf := w7 cI a) K h dX7_whoHid_193
        · replace h := h.2 c170
          refine x_aload_n (pc' := 174) K dX7_whoHid_173 0 rfl rfl ?_
          refine x_iconst (pc' := 175) (v := 2) K dX7_whoHid_174 (by decide) rfl ?_
          refine x_callI (pc' := 178) K (mX7_error l D cI cO a _) rfl gX7_whoHid_X7_error rfl dsX7_error ⟨rfl, rfl, ⟨Nat.le_of_ble_eq_true rfl, Nat.le_of_ble_eq_true rfl⟩, Nat.le_of_ble_eq_true rfl, Nat.le_of_ble_eq_true rfl⟩ h 7 0 rfl rfl (st := []) rfl rfl (Nat.le_of_ble_eq_true rfl) dX7_whoHid_175 rfl (fun r175 F175 G175 h => ?_)
          refine x_goto (tgt := 193) K dX7_whoHid_178 rfl ?_
          exact x_iret (wf := w7 cI a) K h dX7_whoHid_193
      · replace h := h.2 c159
        refine x_iload (pc' := 164) K dX7_whoHid_162 4 rfl rfl ?_
        refine x_goto (tgt := 193) K dX7_whoHid_164 rfl ?_
        exact x_iret (wf := w7 cI a) K h dX7_whoHid_193
    · replace h := h.2 c74
      refine x_iconst (pc' := 78) (v := 0) K dX7_whoHid_77 (by decide) rfl ?_
      refine x_istore (pc' := 80) (i := 8) K dX7_whoHid_78 (by decide) [1, 2, 3, 4, 5, 6, 7, 8, 0] (L' := [(0, .ref (a 0)), (1, .int _), (2, .int _), (3, .int _), (4, .int _), (5, .int _), (6, .int _), (7, .int _), (8, .int _)]) rfl rfl ?_
      obtain ⟨n80, h⟩ := h
      exact tX7_whoHid_80 K (fun x1 x2 x3 x4 x5 x6 x7 F G h => ih x1 x2 x3 x4 x5 x6 x7 F G h) n80 _ _ _ _ _ _ _ _ _ _ h
set_option maxHeartbeats 4000000 in
set_option maxRecDepth 100000 in
theorem mX7_whoHid (l : Launch) (D : va_G) (cI cO : ClassId) (a : Nat → Nat)  (x1 : Int32) (x2 : Int32) (x3 : Int32) : MI l yX7_whoHid wsX7_whoHid rmX7_whoHid D (xtys cI cO) [.ref (a 0), .int x1, .int x2, .int x3] (w7 cI a) (qX7_whoHid x1 x2 x3) := by
  refine MI_of (cc := cX7_whoHid) (maxL := 9) (own := RX7) (by decide) rfl rfl (Nat.le_of_ble_eq_true rfl) ?_
  intro p e s m args below meth c A F G Q h K
  refine x_locals [0, 1, 2, 3] (L' := [(0, .ref (a 0)), (1, .int _), (2, .int _), (3, .int _)]) rfl ?_
  refine x_iload_n (pc' := 1) K dX7_whoHid_0 1 rfl rfl ?_
  refine x_callS (pc' := 4) K (mX7_isSheet l D cI cO a _) rfl gX7_whoHid_X7_isSheet dsX7_isSheet ⟨rfl, rfl, ⟨Nat.le_of_ble_eq_true rfl, Nat.le_of_ble_eq_true rfl⟩, Nat.le_of_ble_eq_true rfl, Nat.le_of_ble_eq_true rfl⟩ h (st := []) rfl rfl (Nat.le_of_ble_eq_true rfl) dX7_whoHid_1 rfl (fun r1 h => ?_)
  refine x_if_eq (tgt := 26) (pc' := 7) K dX7_whoHid_4 rfl rfl (fun c4 => ?_) (fun c4 => ?_)
  · replace h := h.1 c4
    refine x_aload_n (pc' := 27) K dX7_whoHid_26 0 rfl rfl ?_
    refine x_iconst (pc' := 28) (v := 1) K dX7_whoHid_27 (by decide) rfl ?_
    refine x_callI (pc' := 31) K (mX7_error l D cI cO a _) rfl gX7_whoHid_X7_error rfl dsX7_error ⟨rfl, rfl, ⟨Nat.le_of_ble_eq_true rfl, Nat.le_of_ble_eq_true rfl⟩, Nat.le_of_ble_eq_true rfl, Nat.le_of_ble_eq_true rfl⟩ h 7 0 rfl rfl (st := []) rfl rfl (Nat.le_of_ble_eq_true rfl) dX7_whoHid_28 rfl (fun r28 F28 G28 h => ?_)
    exact x_iret (wf := w7 cI a) K h dX7_whoHid_31
  · replace h := h.2 c4
    refine x_iload_n (pc' := 8) K dX7_whoHid_7 2 rfl rfl ?_
    refine x_iconst (pc' := 9) (v := 1) K dX7_whoHid_8 (by decide) rfl ?_
    refine x_bipush (pc' := 11) (v := 18) K dX7_whoHid_9 (by decide) rfl ?_
    refine x_callS (pc' := 14) K (mX7_in l D cI cO a _ _ _) rfl gX7_whoHid_X7_in dsX7_in ⟨rfl, rfl, ⟨Nat.le_of_ble_eq_true rfl, Nat.le_of_ble_eq_true rfl⟩, Nat.le_of_ble_eq_true rfl, Nat.le_of_ble_eq_true rfl⟩ h (st := []) rfl rfl (Nat.le_of_ble_eq_true rfl) dX7_whoHid_11 rfl (fun r11 h => ?_)
    refine x_if_eq (tgt := 26) (pc' := 17) K dX7_whoHid_14 rfl rfl (fun c14 => ?_) (fun c14 => ?_)
    · replace h := h.1 c14
      refine x_aload_n (pc' := 27) K dX7_whoHid_26 0 rfl rfl ?_
      refine x_iconst (pc' := 28) (v := 1) K dX7_whoHid_27 (by decide) rfl ?_
      refine x_callI (pc' := 31) K (mX7_error l D cI cO a _) rfl gX7_whoHid_X7_error rfl dsX7_error ⟨rfl, rfl, ⟨Nat.le_of_ble_eq_true rfl, Nat.le_of_ble_eq_true rfl⟩, Nat.le_of_ble_eq_true rfl, Nat.le_of_ble_eq_true rfl⟩ h 7 0 rfl rfl (st := []) rfl rfl (Nat.le_of_ble_eq_true rfl) dX7_whoHid_28 rfl (fun r28 F28 G28 h => ?_)
      exact x_iret (wf := w7 cI a) K h dX7_whoHid_31
    · replace h := h.2 c14
      refine x_iload_n (pc' := 18) K dX7_whoHid_17 3 rfl rfl ?_
      refine x_iconst (pc' := 19) (v := 0) K dX7_whoHid_18 (by decide) rfl ?_
      refine x_iconst (pc' := 20) (v := 2) K dX7_whoHid_19 (by decide) rfl ?_
      refine x_callS (pc' := 23) K (mX7_in l D cI cO a _ _ _) rfl gX7_whoHid_X7_in dsX7_in ⟨rfl, rfl, ⟨Nat.le_of_ble_eq_true rfl, Nat.le_of_ble_eq_true rfl⟩, Nat.le_of_ble_eq_true rfl, Nat.le_of_ble_eq_true rfl⟩ h (st := []) rfl rfl (Nat.le_of_ble_eq_true rfl) dX7_whoHid_20 rfl (fun r20 h => ?_)
      refine x_if_ne (tgt := 32) (pc' := 26) K dX7_whoHid_23 rfl rfl (fun c23 => ?_) (fun c23 => ?_)
      · replace h := h.1 c23
        refine x_aload_n (pc' := 33) K dX7_whoHid_32 0 rfl rfl ?_
        refine xw7_0g_bits (pc' := 36) K hinX7_whoHid_X7 uX7_whoHid_f47 dX7_whoHid_33 rfl ?_
        refine x_iload_n (pc' := 37) K dX7_whoHid_36 1 rfl rfl ?_
        obtain ⟨i37, h⟩ := h
        refine xw7_12l (pc' := 38) K i37 rfl dX7_whoHid_37 rfl ?_
        refine x_if_eq (tgt := 52) (pc' := 41) K dX7_whoHid_38 rfl rfl (fun c38 => ?_) (fun c38 => ?_)
        · replace h := h.1 c38
          refine x_aload_n (pc' := 53) K dX7_whoHid_52 0 rfl rfl ?_
          refine x_iconst (pc' := 54) (v := 2) K dX7_whoHid_53 (by decide) rfl ?_
          refine x_callI (pc' := 57) K (mX7_error l D cI cO a _) rfl gX7_whoHid_X7_error rfl dsX7_error ⟨rfl, rfl, ⟨Nat.le_of_ble_eq_true rfl, Nat.le_of_ble_eq_true rfl⟩, Nat.le_of_ble_eq_true rfl, Nat.le_of_ble_eq_true rfl⟩ h 7 0 rfl rfl (st := []) rfl rfl (Nat.le_of_ble_eq_true rfl) dX7_whoHid_54 rfl (fun r54 F54 G54 h => ?_)
          exact x_iret (wf := w7 cI a) K h dX7_whoHid_57
        · replace h := h.2 c38
          refine x_aload_n (pc' := 42) K dX7_whoHid_41 0 rfl rfl ?_
          refine xw7_0g_sizes (pc' := 45) K hinX7_whoHid_X7 uX7_whoHid_f50 dX7_whoHid_42 rfl ?_
          refine x_iload_n (pc' := 46) K dX7_whoHid_45 1 rfl rfl ?_
          obtain ⟨i46, h⟩ := h
          refine xw7_13l (pc' := 47) K i46 rfl dX7_whoHid_46 rfl ?_
          refine x_bipush (pc' := 49) (v := 9) K dX7_whoHid_47 (by decide) rfl ?_
          refine x_icmp_ge (tgt := 58) (pc' := 52) K dX7_whoHid_49 rfl rfl (fun c49 => ?_) (fun c49 => ?_)
          · replace h := h.1 c49
            refine x_iconst (pc' := 59) (v := 0) K dX7_whoHid_58 (by decide) rfl ?_
            refine x_istore (pc' := 61) (i := 4) K dX7_whoHid_59 (by decide) [1, 2, 3, 4, 0] (L' := [(0, .ref (a 0)), (1, .int _), (2, .int _), (3, .int _), (4, .int _)]) rfl rfl ?_
            refine x_iconst (pc' := 62) (v := -1) K dX7_whoHid_61 (by decide) rfl ?_
            refine x_istore (pc' := 64) (i := 5) K dX7_whoHid_62 (by decide) [1, 2, 3, 4, 5, 0] (L' := [(0, .ref (a 0)), (1, .int _), (2, .int _), (3, .int _), (4, .int _), (5, .int _)]) rfl rfl ?_
            refine x_iconst (pc' := 65) (v := 0) K dX7_whoHid_64 (by decide) rfl ?_
            refine x_istore (pc' := 67) (i := 6) K dX7_whoHid_65 (by decide) [1, 2, 3, 4, 5, 6, 0] (L' := [(0, .ref (a 0)), (1, .int _), (2, .int _), (3, .int _), (4, .int _), (5, .int _), (6, .int _)]) rfl rfl ?_
            refine x_iconst (pc' := 68) (v := 0) K dX7_whoHid_67 (by decide) rfl ?_
            refine x_istore (pc' := 70) (i := 7) K dX7_whoHid_68 (by decide) [1, 2, 3, 4, 5, 6, 7, 0] (L' := [(0, .ref (a 0)), (1, .int _), (2, .int _), (3, .int _), (4, .int _), (5, .int _), (6, .int _), (7, .int _)]) rfl rfl ?_
            obtain ⟨n70, h⟩ := h
            exact tX7_whoHid_70 K n70 _ _ _ _ _ _ _ _ _ h
          · replace h := h.2 c49
            refine x_aload_n (pc' := 53) K dX7_whoHid_52 0 rfl rfl ?_
            refine x_iconst (pc' := 54) (v := 2) K dX7_whoHid_53 (by decide) rfl ?_
            refine x_callI (pc' := 57) K (mX7_error l D cI cO a _) rfl gX7_whoHid_X7_error rfl dsX7_error ⟨rfl, rfl, ⟨Nat.le_of_ble_eq_true rfl, Nat.le_of_ble_eq_true rfl⟩, Nat.le_of_ble_eq_true rfl, Nat.le_of_ble_eq_true rfl⟩ h 7 0 rfl rfl (st := []) rfl rfl (Nat.le_of_ble_eq_true rfl) dX7_whoHid_54 rfl (fun r54 F54 G54 h => ?_)
            exact x_iret (wf := w7 cI a) K h dX7_whoHid_57
      · replace h := h.2 c23
        refine x_aload_n (pc' := 27) K dX7_whoHid_26 0 rfl rfl ?_
        refine x_iconst (pc' := 28) (v := 1) K dX7_whoHid_27 (by decide) rfl ?_
        refine x_callI (pc' := 31) K (mX7_error l D cI cO a _) rfl gX7_whoHid_X7_error rfl dsX7_error ⟨rfl, rfl, ⟨Nat.le_of_ble_eq_true rfl, Nat.le_of_ble_eq_true rfl⟩, Nat.le_of_ble_eq_true rfl, Nat.le_of_ble_eq_true rfl⟩ h 7 0 rfl rfl (st := []) rfl rfl (Nat.le_of_ble_eq_true rfl) dX7_whoHid_28 rfl (fun r28 F28 G28 h => ?_)
        exact x_iret (wf := w7 cI a) K h dX7_whoHid_31
end
