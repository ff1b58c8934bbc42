section
variable {p : Program} {l : Launch} {e : Env} {s : State} {m : MethodId} {args : Array Value} {below : List Frame} {meth : Method} {c : Code} {D : va_G} {cI cO : ClassId} {A : Nat → Prop} {a : Nat → Nat} {d : Nat}
/-! X7_init -/
abbrev rmX7_init : Room := { frames := 3, cells := 15, slots := 1546, locals := 83 }
theorem dsX7_init : xDesc yX7_init 0 := by decide +kernel
theorem uX7_init_m1 : Cond.methodLink RX7 1 objectInit ∈ wsX7_init := nw_in nwl_X7_init nwe_515 (by decide +kernel)
theorem uX7_init_oi : Cond.instanceMethod objectInit ∈ wsX7_init := nw_in nwl_X7_init nwe_74 (by decide +kernel)
theorem uX7_init_oc : Cond.code objectInit ⟨#[0xb1]⟩ 1 none ∈ wsX7_init := nw_in nwl_X7_init nwe_75 (by decide +kernel)
theorem uX7_init_ac : Cond.arrayClass .int ∈ wsX7_init := nw_in nwl_X7_init nwe_81 (by decide +kernel)
theorem uX7_init_f7 : Cond.fieldLink RX7 7 "PigNinthsModel" "s" "[I" ∈ wsX7_init := nw_in nwl_X7_init nwe_514 (by decide +kernel)
theorem hinX7_init_X7 : ∀ w ∈ wsX70, w ∈ wsX7_init := nw_all nwl_X7_init nwl_X70 (by decide +kernel)
theorem uX7_init_f13 : Cond.fieldLink RX7 13 "PigNinthsModel" "kept" "[I" ∈ wsX7_init := nw_in nwl_X7_init nwe_516 (by decide +kernel)
theorem uX7_init_f16 : Cond.fieldLink RX7 16 "PigNinthsModel" "put" "[I" ∈ wsX7_init := nw_in nwl_X7_init nwe_517 (by decide +kernel)
theorem uX7_init_f19 : Cond.fieldLink RX7 19 "PigNinthsModel" "errors" "[I" ∈ wsX7_init := nw_in nwl_X7_init nwe_518 (by decide +kernel)
theorem uX7_init_f22 : Cond.fieldLink RX7 22 "PigNinthsModel" "step" "[I" ∈ wsX7_init := nw_in nwl_X7_init nwe_519 (by decide +kernel)
theorem uX7_init_f25 : Cond.fieldLink RX7 25 "PigNinthsModel" "named" "[I" ∈ wsX7_init := nw_in nwl_X7_init nwe_520 (by decide +kernel)
theorem uX7_init_f28 : Cond.fieldLink RX7 28 "PigNinthsModel" "pile" "[I" ∈ wsX7_init := nw_in nwl_X7_init nwe_521 (by decide +kernel)
theorem uX7_init_f31 : Cond.fieldLink RX7 31 "PigNinthsModel" "dug" "[I" ∈ wsX7_init := nw_in nwl_X7_init nwe_522 (by decide +kernel)
theorem uX7_init_f34 : Cond.fieldLink RX7 34 "PigNinthsModel" "fedToday" "I" ∈ wsX7_init := nw_in nwl_X7_init nwe_523 (by decide +kernel)
theorem uX7_init_f38 : Cond.fieldLink RX7 38 "PigNinthsModel" "plain" "[I" ∈ wsX7_init := nw_in nwl_X7_init nwe_524 (by decide +kernel)
theorem uX7_init_f41 : Cond.fieldLink RX7 41 "PigNinthsModel" "traded" "[I" ∈ wsX7_init := nw_in nwl_X7_init nwe_525 (by decide +kernel)
theorem uX7_init_f44 : Cond.fieldLink RX7 44 "PigNinthsModel" "trace" "[I" ∈ wsX7_init := nw_in nwl_X7_init nwe_526 (by decide +kernel)
theorem uX7_init_f47 : Cond.fieldLink RX7 47 "PigNinthsModel" "bits" "[I" ∈ wsX7_init := nw_in nwl_X7_init nwe_527 (by decide +kernel)
theorem uX7_init_f50 : Cond.fieldLink RX7 50 "PigNinthsModel" "sizes" "[I" ∈ wsX7_init := nw_in nwl_X7_init nwe_528 (by decide +kernel)
theorem uX7_init_f53 : Cond.fieldLink RX7 53 "PigNinthsModel" "number" "[I" ∈ wsX7_init := nw_in nwl_X7_init nwe_529 (by decide +kernel)
theorem uX7_init_f56 : Cond.fieldLink RX7 56 "PigNinthsModel" "aside" "[I" ∈ wsX7_init := nw_in nwl_X7_init nwe_530 (by decide +kernel)
set_option maxHeartbeats 4000000 in
set_option maxRecDepth 100000 in
theorem tX7_init_196 (K : XK p m c cX7_init 3 s args wsX7_init RX7 D (xtys cI cO) A meth none) {Q : xF → xA → Prop} {k181 : Int32 → xF → xA → Prop} (hk181 : ∀ (x1 : Int32) (F : xF) (G : xA), k181 x1 F G → XJ p l e rmX7_init s m args below meth c 15 1546 (MQ below (xQc D (fun a F G => w7 cI a F G) A (a 0) Q) args s 15 1546 A) D (xtys cI cO) A 3 (w7 cI a F G) 181 [(0, .ref (a 0)), (1, .int x1)] []) : ∀ (n : Nat), ∀ (x1 : Int32) (x2 : Int32) (F : xF) (G : xA), qX7_init_196 Q k181 n x1 x2 F G → XJ p l e rmX7_init s m args below meth c 15 1546 (MQ below (xQc D (fun a F G => w7 cI a F G) A (a 0) Q) args s 15 1546 A) D (xtys cI cO) A 3 (w7 cI a F G) 196 [(0, .ref (a 0)), (1, .int x1), (2, .int x2)] [] := by
  intro n
  induction n with
  | zero =>
    intro x1 x2 F G h
    exact False.elim h
  | succ n ih =>
    intro x1 x2 F G h
    refine x_iload_n (pc' := 197) K dX7_init_196 2 rfl rfl ?_
    refine x_iconst (pc' := 198) (v := 4) K dX7_init_197 (by decide) rfl ?_
    refine x_icmp_ge (tgt := 216) (pc' := 201) K dX7_init_198 rfl rfl (fun c198 => ?_) (fun c198 => ?_)
    · replace h := h.1 c198
      refine x_iinc (pc' := 219) (v := _ + (1 : Int32)) K dX7_init_216 1 rfl rfl (by decide) [1, 0, 2] (L' := [(0, .ref (a 0)), (1, .int _), (2, .int _)]) rfl rfl ?_
      refine x_goto (tgt := 181) K dX7_init_219 rfl ?_
      refine x_locals [0, 1] (L' := [(0, .ref (a 0)), (1, .int _)]) rfl ?_
      exact hk181 _ _ _ h
    · replace h := h.2 c198
      refine x_aload_n (pc' := 202) K dX7_init_201 0 rfl rfl ?_
      refine x_iload_n (pc' := 203) K dX7_init_202 1 rfl rfl ?_
      refine x_iconst (pc' := 204) (v := 5) K dX7_init_203 (by decide) rfl ?_
      refine x_iload_n (pc' := 205) K dX7_init_204 2 rfl rfl ?_
      refine x_iadd (pc' := 206) K dX7_init_205 rfl ?_
      refine x_iconst (pc' := 207) (v := 4) K dX7_init_206 (by decide) rfl ?_
      refine x_callV (pc' := 210) K (mX7_lays1 l D cI cO a _ _ _) rfl gX7_init_X7_lays1 rfl dsX7_lays1 ⟨rfl, rfl, ⟨Nat.le_of_ble_eq_true rfl, Nat.le_of_ble_eq_true rfl⟩, Nat.le_of_ble_eq_true rfl, Nat.le_of_ble_eq_true rfl⟩ h 7 0 rfl rfl (st := []) rfl rfl (Nat.le_of_ble_eq_true rfl) dX7_init_207 rfl (fun F207 G207 h => ?_)
      refine x_iinc (pc' := 213) (v := _ + (1 : Int32)) K dX7_init_210 2 rfl rfl (by decide) [1, 2, 0] (L' := [(0, .ref (a 0)), (1, .int _), (2, .int _)]) rfl rfl ?_
      refine x_goto (tgt := 196) K dX7_init_213 rfl ?_
      exact ih _ _ _ _ h
set_option maxHeartbeats 4000000 in
set_option maxRecDepth 100000 in
theorem tX7_init_181 (K : XK p m c cX7_init 3 s args wsX7_init RX7 D (xtys cI cO) A meth none) {Q : xF → xA → Prop} : ∀ (n : Nat), ∀ (x1 : Int32) (F : xF) (G : xA), qX7_init_181 Q n x1 F G → XJ p l e rmX7_init s m args below meth c 15 1546 (MQ below (xQc D (fun a F G => w7 cI a F G) A (a 0) Q) args s 15 1546 A) D (xtys cI cO) A 3 (w7 cI a F G) 181 [(0, .ref (a 0)), (1, .int x1)] [] := by
  intro n
  induction n with
  | zero =>
    intro x1 F G h
    exact False.elim h
  | succ n ih =>
    intro x1 F G h
    refine x_iload_n (pc' := 182) K dX7_init_181 1 rfl rfl ?_
    refine x_bipush (pc' := 184) (v := 9) K dX7_init_182 (by decide) rfl ?_
    refine x_icmp_ge (tgt := 222) (pc' := 187) K dX7_init_184 rfl rfl (fun c184 => ?_) (fun c184 => ?_)
    · replace h := h.1 c184
      exact x_cret (wf := fun a F G => w7 cI a F G) K a rfl rfl h dX7_init_222
    · replace h := h.2 c184
      refine x_aload_n (pc' := 188) K dX7_init_187 0 rfl rfl ?_
      refine x_iload_n (pc' := 189) K dX7_init_188 1 rfl rfl ?_
      refine x_iconst (pc' := 190) (v := 4) K dX7_init_189 (by decide) rfl ?_
      refine x_iload_n (pc' := 191) K dX7_init_190 1 rfl rfl ?_
      refine x_callV (pc' := 194) K (mX7_lays1 l D cI cO a _ _ _) rfl gX7_init_X7_lays1 rfl dsX7_lays1 ⟨rfl, rfl, ⟨Nat.le_of_ble_eq_true rfl, Nat.le_of_ble_eq_true rfl⟩, Nat.le_of_ble_eq_true rfl, Nat.le_of_ble_eq_true rfl⟩ h 7 0 rfl rfl (st := []) rfl rfl (Nat.le_of_ble_eq_true rfl) dX7_init_191 rfl (fun F191 G191 h => ?_)
      refine x_iconst (pc' := 195) (v := 0) K dX7_init_194 (by decide) rfl ?_
      refine x_istore_n (pc' := 196) (i := 2) K dX7_init_195 rfl (by decide) [1, 2, 0] (L' := [(0, .ref (a 0)), (1, .int _), (2, .int _)]) rfl rfl ?_
      obtain ⟨n196, h⟩ := h
      exact tX7_init_196 K (fun x1 F G h => ih x1 F G h) n196 _ _ _ _ h
set_option maxHeartbeats 4000000 in
set_option maxRecDepth 100000 in
theorem tX7_init_154 (K : XK p m c cX7_init 3 s args wsX7_init RX7 D (xtys cI cO) A meth none) {Q : xF → xA → Prop} : ∀ (n : Nat), ∀ (x1 : Int32) (F : xF) (G : xA), qX7_init_154 Q n x1 F G → XJ p l e rmX7_init s m args below meth c 15 1546 (MQ below (xQc D (fun a F G => w7 cI a F G) A (a 0) Q) args s 15 1546 A) D (xtys cI cO) A 3 (w7 cI a F G) 154 [(0, .ref (a 0)), (1, .int x1)] [] := by
  intro n
  induction n with
  | zero =>
    intro x1 F G h
    exact False.elim h
  | succ n ih =>
    intro x1 F G h
    refine x_iload_n (pc' := 155) K dX7_init_154 1 rfl rfl ?_
    refine x_bipush (pc' := 157) (v := 16) K dX7_init_155 (by decide) rfl ?_
    refine x_icmp_ge (tgt := 179) (pc' := 160) K dX7_init_157 rfl rfl (fun c157 => ?_) (fun c157 => ?_)
    · replace h := h.1 c157
      refine x_iconst (pc' := 180) (v := 0) K dX7_init_179 (by decide) rfl ?_
      refine x_istore_n (pc' := 181) (i := 1) K dX7_init_180 rfl (by decide) [1, 0] (L' := [(0, .ref (a 0)), (1, .int _)]) rfl rfl ?_
      obtain ⟨n181, h⟩ := h
      exact tX7_init_181 K n181 _ _ _ h
    · replace h := h.2 c157
      refine x_aload_n (pc' := 161) K dX7_init_160 0 rfl rfl ?_
      refine xw7_0g_s (pc' := 164) K hinX7_init_X7 uX7_init_f7 dX7_init_161 rfl ?_
      refine x_bipush (pc' := 166) (v := 8) K dX7_init_164 (by decide) rfl ?_
      refine x_iload_n (pc' := 167) K dX7_init_166 1 rfl rfl ?_
      refine x_iadd (pc' := 168) K dX7_init_167 rfl ?_
      refine x_iload_n (pc' := 169) K dX7_init_168 1 rfl rfl ?_
      refine x_bipush (pc' := 171) (v := 9) K dX7_init_169 (by decide) rfl ?_
      refine x_irem (pc' := 172) K dX7_init_171 (by decide) rfl ?_
      obtain ⟨i172, h⟩ := h
      refine xw7_1s (pc' := 173) K i172 rfl dX7_init_172 rfl (fun G172 eG172 => ?_)
      replace h := h G172 eG172
      refine x_iinc (pc' := 176) (v := _ + (1 : Int32)) K dX7_init_173 1 rfl rfl (by decide) [1, 0] (L' := [(0, .ref (a 0)), (1, .int _)]) rfl rfl ?_
      refine x_goto (tgt := 154) K dX7_init_176 rfl ?_
      exact ih _ _ _ h
set_option maxHeartbeats 4000000 in
set_option maxRecDepth 100000 in
theorem mX7_init (l : Launch) (D : va_G) (cI cO : ClassId) (b : Nat) : MC l yX7_init wsX7_init rmX7_init D (xtys cI cO) [.ref b] b [(b, .inr (7, [.null, .null, .null, .int 0, .null, .int 0, .int 0, .int 0, .int 0, .null, .null, .null, .null, .int 0, .null, .null, .null, .int 0, .int 0, .int 0, .null, .null, .null, .null]))] 15 1546 (fun a F G => w7 cI a F G) qX7_init := by
  refine MC_of (cc := cX7_init) (maxL := 3) (own := RX7) (by decide) rfl rfl (by decide) (Nat.le_of_ble_eq_true rfl) ?_
  intro p e s m args below meth c A Q h K hnm
  refine x_locals [0] (L' := [(0, .ref b)]) rfl ?_
  refine x_aload_n (pc' := 1) K dX7_init_0 0 rfl rfl ?_
  refine x_objinit (pc' := 4) K uX7_init_m1 uX7_init_oi uX7_init_oc (Nat.le_of_ble_eq_true rfl) (Nat.le_of_ble_eq_true rfl) dX7_init_1 rfl ?_
  refine x_aload_n (pc' := 5) K dX7_init_4 0 rfl rfl ?_
  refine x_sipush (pc' := 8) (v := 455) K dX7_init_5 (by decide) rfl ?_
  refine x_newa (pc' := 10) (N := 455) K 0 rfl uX7_init_ac (by decide) (by decide +kernel) (Nat.le_of_ble_eq_true rfl) (Nat.le_of_ble_eq_true rfl) (Nat.le_of_ble_eq_true rfl) dX7_init_8 rfl (fun q8 => ?_)
  refine x_putF (pc' := 13) (C := RX7) (T := TX7) (N := 24) (ci := 7) (fs := [.null, .null, .null, .int 0, .null, .int 0, .int 0, .int 0, .int 0, .null, .null, .null, .null, .int 0, .null, .null, .null, .int 0, .int 0, .int 0, .null, .null, .null, .null]) (w' := [(b, .inr (7, [.ref q8, .null, .null, .int 0, .null, .int 0, .int 0, .int 0, .int 0, .null, .null, .null, .null, .int 0, .null, .null, .null, .int 0, .int 0, .int 0, .null, .null, .null, .null])), (q8, .inl (cI, 455, .inl (fun _ => 0)))]) K hnm hinX7_init_X7 tyX7 tyX7_ok nmX7 0 rfl rfl 0 (by decide) uX7_init_f7 rfl rfl rfl rfl rfl (Nat.le_of_ble_eq_true rfl) rfl dX7_init_10 rfl ?_
  refine x_aload_n (pc' := 14) K dX7_init_13 0 rfl rfl ?_
  refine x_sipush (pc' := 17) (v := 455) K dX7_init_14 (by decide) rfl ?_
  refine x_newa (pc' := 19) (N := 455) K 0 rfl uX7_init_ac (by decide) (by decide +kernel) (Nat.le_of_ble_eq_true rfl) (Nat.le_of_ble_eq_true rfl) (Nat.le_of_ble_eq_true rfl) dX7_init_17 rfl (fun q17 => ?_)
  refine x_putF (pc' := 22) (C := RX7) (T := TX7) (N := 24) (ci := 7) (fs := [.ref q8, .null, .null, .int 0, .null, .int 0, .int 0, .int 0, .int 0, .null, .null, .null, .null, .int 0, .null, .null, .null, .int 0, .int 0, .int 0, .null, .null, .null, .null]) (w' := [(b, .inr (7, [.ref q8, .ref q17, .null, .int 0, .null, .int 0, .int 0, .int 0, .int 0, .null, .null, .null, .null, .int 0, .null, .null, .null, .int 0, .int 0, .int 0, .null, .null, .null, .null])), (q8, .inl (cI, 455, .inl (fun _ => 0))), (q17, .inl (cI, 455, .inl (fun _ => 0)))]) K hnm hinX7_init_X7 tyX7 tyX7_ok nmX7 0 rfl rfl 1 (by decide) uX7_init_f13 rfl rfl rfl rfl rfl (Nat.le_of_ble_eq_true rfl) rfl dX7_init_19 rfl ?_
  refine x_aload_n (pc' := 23) K dX7_init_22 0 rfl rfl ?_
  refine x_bipush (pc' := 25) (v := 121) K dX7_init_23 (by decide) rfl ?_
  refine x_newa (pc' := 27) (N := 121) K 0 rfl uX7_init_ac (by decide) (by decide +kernel) (Nat.le_of_ble_eq_true rfl) (Nat.le_of_ble_eq_true rfl) (Nat.le_of_ble_eq_true rfl) dX7_init_25 rfl (fun q25 => ?_)
  refine x_putF (pc' := 30) (C := RX7) (T := TX7) (N := 24) (ci := 7) (fs := [.ref q8, .ref q17, .null, .int 0, .null, .int 0, .int 0, .int 0, .int 0, .null, .null, .null, .null, .int 0, .null, .null, .null, .int 0, .int 0, .int 0, .null, .null, .null, .null]) (w' := [(b, .inr (7, [.ref q8, .ref q17, .ref q25, .int 0, .null, .int 0, .int 0, .int 0, .int 0, .null, .null, .null, .null, .int 0, .null, .null, .null, .int 0, .int 0, .int 0, .null, .null, .null, .null])), (q8, .inl (cI, 455, .inl (fun _ => 0))), (q17, .inl (cI, 455, .inl (fun _ => 0))), (q25, .inl (cI, 121, .inl (fun _ => 0)))]) K hnm hinX7_init_X7 tyX7 tyX7_ok nmX7 0 rfl rfl 2 (by decide) uX7_init_f16 rfl rfl rfl rfl rfl (Nat.le_of_ble_eq_true rfl) rfl dX7_init_27 rfl ?_
  refine x_aload_n (pc' := 31) K dX7_init_30 0 rfl rfl ?_
  refine x_bipush (pc' := 33) (v := 7) K dX7_init_31 (by decide) rfl ?_
  refine x_newa (pc' := 35) (N := 7) K 0 rfl uX7_init_ac (by decide) (by decide +kernel) (Nat.le_of_ble_eq_true rfl) (Nat.le_of_ble_eq_true rfl) (Nat.le_of_ble_eq_true rfl) dX7_init_33 rfl (fun q33 => ?_)
  refine x_putF (pc' := 38) (C := RX7) (T := TX7) (N := 24) (ci := 7) (fs := [.ref q8, .ref q17, .ref q25, .int 0, .null, .int 0, .int 0, .int 0, .int 0, .null, .null, .null, .null, .int 0, .null, .null, .null, .int 0, .int 0, .int 0, .null, .null, .null, .null]) (w' := [(b, .inr (7, [.ref q8, .ref q17, .ref q25, .int 0, .ref q33, .int 0, .int 0, .int 0, .int 0, .null, .null, .null, .null, .int 0, .null, .null, .null, .int 0, .int 0, .int 0, .null, .null, .null, .null])), (q8, .inl (cI, 455, .inl (fun _ => 0))), (q17, .inl (cI, 455, .inl (fun _ => 0))), (q25, .inl (cI, 121, .inl (fun _ => 0))), (q33, .inl (cI, 7, .inl (fun _ => 0)))]) K hnm hinX7_init_X7 tyX7 tyX7_ok nmX7 0 rfl rfl 4 (by decide) uX7_init_f19 rfl rfl rfl rfl rfl (Nat.le_of_ble_eq_true rfl) rfl dX7_init_35 rfl ?_
  refine x_aload_n (pc' := 39) K dX7_init_38 0 rfl rfl ?_
  refine x_bipush (pc' := 41) (v := 124) K dX7_init_39 (by decide) rfl ?_
  refine x_newa (pc' := 43) (N := 124) K 0 rfl uX7_init_ac (by decide) (by decide +kernel) (Nat.le_of_ble_eq_true rfl) (Nat.le_of_ble_eq_true rfl) (Nat.le_of_ble_eq_true rfl) dX7_init_41 rfl (fun q41 => ?_)
  refine x_putF (pc' := 46) (C := RX7) (T := TX7) (N := 24) (ci := 7) (fs := [.ref q8, .ref q17, .ref q25, .int 0, .ref q33, .int 0, .int 0, .int 0, .int 0, .null, .null, .null, .null, .int 0, .null, .null, .null, .int 0, .int 0, .int 0, .null, .null, .null, .null]) (w' := [(b, .inr (7, [.ref q8, .ref q17, .ref q25, .int 0, .ref q33, .int 0, .int 0, .int 0, .int 0, .ref q41, .null, .null, .null, .int 0, .null, .null, .null, .int 0, .int 0, .int 0, .null, .null, .null, .null])), (q8, .inl (cI, 455, .inl (fun _ => 0))), (q17, .inl (cI, 455, .inl (fun _ => 0))), (q25, .inl (cI, 121, .inl (fun _ => 0))), (q33, .inl (cI, 7, .inl (fun _ => 0))), (q41, .inl (cI, 124, .inl (fun _ => 0)))]) K hnm hinX7_init_X7 tyX7 tyX7_ok nmX7 0 rfl rfl 9 (by decide) uX7_init_f22 rfl rfl rfl rfl rfl (Nat.le_of_ble_eq_true rfl) rfl dX7_init_43 rfl ?_
  refine x_aload_n (pc' := 47) K dX7_init_46 0 rfl rfl ?_
  refine x_sipush (pc' := 50) (v := 128) K dX7_init_47 (by decide) rfl ?_
  refine x_newa (pc' := 52) (N := 128) K 0 rfl uX7_init_ac (by decide) (by decide +kernel) (Nat.le_of_ble_eq_true rfl) (Nat.le_of_ble_eq_true rfl) (Nat.le_of_ble_eq_true rfl) dX7_init_50 rfl (fun q50 => ?_)
  refine x_putF (pc' := 55) (C := RX7) (T := TX7) (N := 24) (ci := 7) (fs := [.ref q8, .ref q17, .ref q25, .int 0, .ref q33, .int 0, .int 0, .int 0, .int 0, .ref q41, .null, .null, .null, .int 0, .null, .null, .null, .int 0, .int 0, .int 0, .null, .null, .null, .null]) (w' := [(b, .inr (7, [.ref q8, .ref q17, .ref q25, .int 0, .ref q33, .int 0, .int 0, .int 0, .int 0, .ref q41, .ref q50, .null, .null, .int 0, .null, .null, .null, .int 0, .int 0, .int 0, .null, .null, .null, .null])), (q8, .inl (cI, 455, .inl (fun _ => 0))), (q17, .inl (cI, 455, .inl (fun _ => 0))), (q25, .inl (cI, 121, .inl (fun _ => 0))), (q33, .inl (cI, 7, .inl (fun _ => 0))), (q41, .inl (cI, 124, .inl (fun _ => 0))), (q50, .inl (cI, 128, .inl (fun _ => 0)))]) K hnm hinX7_init_X7 tyX7 tyX7_ok nmX7 0 rfl rfl 10 (by decide) uX7_init_f25 rfl rfl rfl rfl rfl (Nat.le_of_ble_eq_true rfl) rfl dX7_init_52 rfl ?_
  refine x_aload_n (pc' := 56) K dX7_init_55 0 rfl rfl ?_
  refine x_bipush (pc' := 58) (v := 64) K dX7_init_56 (by decide) rfl ?_
  refine x_newa (pc' := 60) (N := 64) K 0 rfl uX7_init_ac (by decide) (by decide +kernel) (Nat.le_of_ble_eq_true rfl) (Nat.le_of_ble_eq_true rfl) (Nat.le_of_ble_eq_true rfl) dX7_init_58 rfl (fun q58 => ?_)
  refine x_putF (pc' := 63) (C := RX7) (T := TX7) (N := 24) (ci := 7) (fs := [.ref q8, .ref q17, .ref q25, .int 0, .ref q33, .int 0, .int 0, .int 0, .int 0, .ref q41, .ref q50, .null, .null, .int 0, .null, .null, .null, .int 0, .int 0, .int 0, .null, .null, .null, .null]) (w' := [(b, .inr (7, [.ref q8, .ref q17, .ref q25, .int 0, .ref q33, .int 0, .int 0, .int 0, .int 0, .ref q41, .ref q50, .ref q58, .null, .int 0, .null, .null, .null, .int 0, .int 0, .int 0, .null, .null, .null, .null])), (q8, .inl (cI, 455, .inl (fun _ => 0))), (q17, .inl (cI, 455, .inl (fun _ => 0))), (q25, .inl (cI, 121, .inl (fun _ => 0))), (q33, .inl (cI, 7, .inl (fun _ => 0))), (q41, .inl (cI, 124, .inl (fun _ => 0))), (q50, .inl (cI, 128, .inl (fun _ => 0))), (q58, .inl (cI, 64, .inl (fun _ => 0)))]) K hnm hinX7_init_X7 tyX7 tyX7_ok nmX7 0 rfl rfl 11 (by decide) uX7_init_f28 rfl rfl rfl rfl rfl (Nat.le_of_ble_eq_true rfl) rfl dX7_init_60 rfl ?_
  refine x_aload_n (pc' := 64) K dX7_init_63 0 rfl rfl ?_
  refine x_bipush (pc' := 66) (v := 16) K dX7_init_64 (by decide) rfl ?_
  refine x_newa (pc' := 68) (N := 16) K 0 rfl uX7_init_ac (by decide) (by decide +kernel) (Nat.le_of_ble_eq_true rfl) (Nat.le_of_ble_eq_true rfl) (Nat.le_of_ble_eq_true rfl) dX7_init_66 rfl (fun q66 => ?_)
  refine x_putF (pc' := 71) (C := RX7) (T := TX7) (N := 24) (ci := 7) (fs := [.ref q8, .ref q17, .ref q25, .int 0, .ref q33, .int 0, .int 0, .int 0, .int 0, .ref q41, .ref q50, .ref q58, .null, .int 0, .null, .null, .null, .int 0, .int 0, .int 0, .null, .null, .null, .null]) (w' := [(b, .inr (7, [.ref q8, .ref q17, .ref q25, .int 0, .ref q33, .int 0, .int 0, .int 0, .int 0, .ref q41, .ref q50, .ref q58, .ref q66, .int 0, .null, .null, .null, .int 0, .int 0, .int 0, .null, .null, .null, .null])), (q8, .inl (cI, 455, .inl (fun _ => 0))), (q17, .inl (cI, 455, .inl (fun _ => 0))), (q25, .inl (cI, 121, .inl (fun _ => 0))), (q33, .inl (cI, 7, .inl (fun _ => 0))), (q41, .inl (cI, 124, .inl (fun _ => 0))), (q50, .inl (cI, 128, .inl (fun _ => 0))), (q58, .inl (cI, 64, .inl (fun _ => 0))), (q66, .inl (cI, 16, .inl (fun _ => 0)))]) K hnm hinX7_init_X7 tyX7 tyX7_ok nmX7 0 rfl rfl 12 (by decide) uX7_init_f31 rfl rfl rfl rfl rfl (Nat.le_of_ble_eq_true rfl) rfl dX7_init_68 rfl ?_
  refine x_aload_n (pc' := 72) K dX7_init_71 0 rfl rfl ?_
  refine x_iconst (pc' := 73) (v := -1) K dX7_init_72 (by decide) rfl ?_
  refine x_put (pc' := 76) (C := RX7) (T := TX7) (N := 24) (ci := 7) (fs := [.ref q8, .ref q17, .ref q25, .int 0, .ref q33, .int 0, .int 0, .int 0, .int 0, .ref q41, .ref q50, .ref q58, .ref q66, .int 0, .null, .null, .null, .int 0, .int 0, .int 0, .null, .null, .null, .null]) (ws' := [(b, .inr (7, [.ref q8, .ref q17, .ref q25, .int 0, .ref q33, .int 0, .int 0, .int 0, .int 0, .ref q41, .ref q50, .ref q58, .ref q66, .int (-1 : Int32), .null, .null, .null, .int 0, .int 0, .int 0, .null, .null, .null, .null])), (q8, .inl (cI, 455, .inl (fun _ => 0))), (q17, .inl (cI, 455, .inl (fun _ => 0))), (q25, .inl (cI, 121, .inl (fun _ => 0))), (q33, .inl (cI, 7, .inl (fun _ => 0))), (q41, .inl (cI, 124, .inl (fun _ => 0))), (q50, .inl (cI, 128, .inl (fun _ => 0))), (q58, .inl (cI, 64, .inl (fun _ => 0))), (q66, .inl (cI, 16, .inl (fun _ => 0)))]) K hinX7_init_X7 tyX7 tyX7_ok nmX7 0 rfl rfl 13 (by decide) uX7_init_f34 rfl rfl rfl rfl (Nat.le_of_ble_eq_true rfl) rfl dX7_init_73 rfl ?_
  refine x_aload_n (pc' := 77) K dX7_init_76 0 rfl rfl ?_
  refine x_bipush (pc' := 79) (v := 9) K dX7_init_77 (by decide) rfl ?_
  refine x_newa (pc' := 81) (N := 9) K 0 rfl uX7_init_ac (by decide) (by decide +kernel) (Nat.le_of_ble_eq_true rfl) (Nat.le_of_ble_eq_true rfl) (Nat.le_of_ble_eq_true rfl) dX7_init_79 rfl (fun q79 => ?_)
  refine x_putF (pc' := 84) (C := RX7) (T := TX7) (N := 24) (ci := 7) (fs := [.ref q8, .ref q17, .ref q25, .int 0, .ref q33, .int 0, .int 0, .int 0, .int 0, .ref q41, .ref q50, .ref q58, .ref q66, .int (-1 : Int32), .null, .null, .null, .int 0, .int 0, .int 0, .null, .null, .null, .null]) (w' := [(b, .inr (7, [.ref q8, .ref q17, .ref q25, .int 0, .ref q33, .int 0, .int 0, .int 0, .int 0, .ref q41, .ref q50, .ref q58, .ref q66, .int (-1 : Int32), .ref q79, .null, .null, .int 0, .int 0, .int 0, .null, .null, .null, .null])), (q8, .inl (cI, 455, .inl (fun _ => 0))), (q17, .inl (cI, 455, .inl (fun _ => 0))), (q25, .inl (cI, 121, .inl (fun _ => 0))), (q33, .inl (cI, 7, .inl (fun _ => 0))), (q41, .inl (cI, 124, .inl (fun _ => 0))), (q50, .inl (cI, 128, .inl (fun _ => 0))), (q58, .inl (cI, 64, .inl (fun _ => 0))), (q66, .inl (cI, 16, .inl (fun _ => 0))), (q79, .inl (cI, 9, .inl (fun _ => 0)))]) K hnm hinX7_init_X7 tyX7 tyX7_ok nmX7 0 rfl rfl 14 (by decide) uX7_init_f38 rfl rfl rfl rfl rfl (Nat.le_of_ble_eq_true rfl) rfl dX7_init_81 rfl ?_
  refine x_aload_n (pc' := 85) K dX7_init_84 0 rfl rfl ?_
  refine x_bipush (pc' := 87) (v := 9) K dX7_init_85 (by decide) rfl ?_
  refine x_newa (pc' := 89) (N := 9) K 0 rfl uX7_init_ac (by decide) (by decide +kernel) (Nat.le_of_ble_eq_true rfl) (Nat.le_of_ble_eq_true rfl) (Nat.le_of_ble_eq_true rfl) dX7_init_87 rfl (fun q87 => ?_)
  refine x_putF (pc' := 92) (C := RX7) (T := TX7) (N := 24) (ci := 7) (fs := [.ref q8, .ref q17, .ref q25, .int 0, .ref q33, .int 0, .int 0, .int 0, .int 0, .ref q41, .ref q50, .ref q58, .ref q66, .int (-1 : Int32), .ref q79, .null, .null, .int 0, .int 0, .int 0, .null, .null, .null, .null]) (w' := [(b, .inr (7, [.ref q8, .ref q17, .ref q25, .int 0, .ref q33, .int 0, .int 0, .int 0, .int 0, .ref q41, .ref q50, .ref q58, .ref q66, .int (-1 : Int32), .ref q79, .ref q87, .null, .int 0, .int 0, .int 0, .null, .null, .null, .null])), (q8, .inl (cI, 455, .inl (fun _ => 0))), (q17, .inl (cI, 455, .inl (fun _ => 0))), (q25, .inl (cI, 121, .inl (fun _ => 0))), (q33, .inl (cI, 7, .inl (fun _ => 0))), (q41, .inl (cI, 124, .inl (fun _ => 0))), (q50, .inl (cI, 128, .inl (fun _ => 0))), (q58, .inl (cI, 64, .inl (fun _ => 0))), (q66, .inl (cI, 16, .inl (fun _ => 0))), (q79, .inl (cI, 9, .inl (fun _ => 0))), (q87, .inl (cI, 9, .inl (fun _ => 0)))]) K hnm hinX7_init_X7 tyX7 tyX7_ok nmX7 0 rfl rfl 15 (by decide) uX7_init_f41 rfl rfl rfl rfl rfl (Nat.le_of_ble_eq_true rfl) rfl dX7_init_89 rfl ?_
  refine x_aload_n (pc' := 93) K dX7_init_92 0 rfl rfl ?_
  refine x_bipush (pc' := 95) (v := 30) K dX7_init_93 (by decide) rfl ?_
  refine x_newa (pc' := 97) (N := 30) K 0 rfl uX7_init_ac (by decide) (by decide +kernel) (Nat.le_of_ble_eq_true rfl) (Nat.le_of_ble_eq_true rfl) (Nat.le_of_ble_eq_true rfl) dX7_init_95 rfl (fun q95 => ?_)
  refine x_putF (pc' := 100) (C := RX7) (T := TX7) (N := 24) (ci := 7) (fs := [.ref q8, .ref q17, .ref q25, .int 0, .ref q33, .int 0, .int 0, .int 0, .int 0, .ref q41, .ref q50, .ref q58, .ref q66, .int (-1 : Int32), .ref q79, .ref q87, .null, .int 0, .int 0, .int 0, .null, .null, .null, .null]) (w' := [(b, .inr (7, [.ref q8, .ref q17, .ref q25, .int 0, .ref q33, .int 0, .int 0, .int 0, .int 0, .ref q41, .ref q50, .ref q58, .ref q66, .int (-1 : Int32), .ref q79, .ref q87, .ref q95, .int 0, .int 0, .int 0, .null, .null, .null, .null])), (q8, .inl (cI, 455, .inl (fun _ => 0))), (q17, .inl (cI, 455, .inl (fun _ => 0))), (q25, .inl (cI, 121, .inl (fun _ => 0))), (q33, .inl (cI, 7, .inl (fun _ => 0))), (q41, .inl (cI, 124, .inl (fun _ => 0))), (q50, .inl (cI, 128, .inl (fun _ => 0))), (q58, .inl (cI, 64, .inl (fun _ => 0))), (q66, .inl (cI, 16, .inl (fun _ => 0))), (q79, .inl (cI, 9, .inl (fun _ => 0))), (q87, .inl (cI, 9, .inl (fun _ => 0))), (q95, .inl (cI, 30, .inl (fun _ => 0)))]) K hnm hinX7_init_X7 tyX7 tyX7_ok nmX7 0 rfl rfl 16 (by decide) uX7_init_f44 rfl rfl rfl rfl rfl (Nat.le_of_ble_eq_true rfl) rfl dX7_init_97 rfl ?_
  refine x_aload_n (pc' := 101) K dX7_init_100 0 rfl rfl ?_
  refine x_iconst (pc' := 102) (v := 4) K dX7_init_101 (by decide) rfl ?_
  refine x_newa (pc' := 104) (N := 4) K 0 rfl uX7_init_ac (by decide) (by decide +kernel) (Nat.le_of_ble_eq_true rfl) (Nat.le_of_ble_eq_true rfl) (Nat.le_of_ble_eq_true rfl) dX7_init_102 rfl (fun q102 => ?_)
  refine x_putF (pc' := 107) (C := RX7) (T := TX7) (N := 24) (ci := 7) (fs := [.ref q8, .ref q17, .ref q25, .int 0, .ref q33, .int 0, .int 0, .int 0, .int 0, .ref q41, .ref q50, .ref q58, .ref q66, .int (-1 : Int32), .ref q79, .ref q87, .ref q95, .int 0, .int 0, .int 0, .null, .null, .null, .null]) (w' := [(b, .inr (7, [.ref q8, .ref q17, .ref q25, .int 0, .ref q33, .int 0, .int 0, .int 0, .int 0, .ref q41, .ref q50, .ref q58, .ref q66, .int (-1 : Int32), .ref q79, .ref q87, .ref q95, .int 0, .int 0, .int 0, .ref q102, .null, .null, .null])), (q8, .inl (cI, 455, .inl (fun _ => 0))), (q17, .inl (cI, 455, .inl (fun _ => 0))), (q25, .inl (cI, 121, .inl (fun _ => 0))), (q33, .inl (cI, 7, .inl (fun _ => 0))), (q41, .inl (cI, 124, .inl (fun _ => 0))), (q50, .inl (cI, 128, .inl (fun _ => 0))), (q58, .inl (cI, 64, .inl (fun _ => 0))), (q66, .inl (cI, 16, .inl (fun _ => 0))), (q79, .inl (cI, 9, .inl (fun _ => 0))), (q87, .inl (cI, 9, .inl (fun _ => 0))), (q95, .inl (cI, 30, .inl (fun _ => 0))), (q102, .inl (cI, 4, .inl (fun _ => 0)))]) K hnm hinX7_init_X7 tyX7 tyX7_ok nmX7 0 rfl rfl 20 (by decide) uX7_init_f47 rfl rfl rfl rfl rfl (Nat.le_of_ble_eq_true rfl) rfl dX7_init_104 rfl ?_
  refine x_aload_n (pc' := 108) K dX7_init_107 0 rfl rfl ?_
  refine x_iconst (pc' := 109) (v := 4) K dX7_init_108 (by decide) rfl ?_
  refine x_newa (pc' := 111) (N := 4) K 0 rfl uX7_init_ac (by decide) (by decide +kernel) (Nat.le_of_ble_eq_true rfl) (Nat.le_of_ble_eq_true rfl) (Nat.le_of_ble_eq_true rfl) dX7_init_109 rfl (fun q109 => ?_)
  refine x_putF (pc' := 114) (C := RX7) (T := TX7) (N := 24) (ci := 7) (fs := [.ref q8, .ref q17, .ref q25, .int 0, .ref q33, .int 0, .int 0, .int 0, .int 0, .ref q41, .ref q50, .ref q58, .ref q66, .int (-1 : Int32), .ref q79, .ref q87, .ref q95, .int 0, .int 0, .int 0, .ref q102, .null, .null, .null]) (w' := [(b, .inr (7, [.ref q8, .ref q17, .ref q25, .int 0, .ref q33, .int 0, .int 0, .int 0, .int 0, .ref q41, .ref q50, .ref q58, .ref q66, .int (-1 : Int32), .ref q79, .ref q87, .ref q95, .int 0, .int 0, .int 0, .ref q102, .ref q109, .null, .null])), (q8, .inl (cI, 455, .inl (fun _ => 0))), (q17, .inl (cI, 455, .inl (fun _ => 0))), (q25, .inl (cI, 121, .inl (fun _ => 0))), (q33, .inl (cI, 7, .inl (fun _ => 0))), (q41, .inl (cI, 124, .inl (fun _ => 0))), (q50, .inl (cI, 128, .inl (fun _ => 0))), (q58, .inl (cI, 64, .inl (fun _ => 0))), (q66, .inl (cI, 16, .inl (fun _ => 0))), (q79, .inl (cI, 9, .inl (fun _ => 0))), (q87, .inl (cI, 9, .inl (fun _ => 0))), (q95, .inl (cI, 30, .inl (fun _ => 0))), (q102, .inl (cI, 4, .inl (fun _ => 0))), (q109, .inl (cI, 4, .inl (fun _ => 0)))]) K hnm hinX7_init_X7 tyX7 tyX7_ok nmX7 0 rfl rfl 21 (by decide) uX7_init_f50 rfl rfl rfl rfl rfl (Nat.le_of_ble_eq_true rfl) rfl dX7_init_111 rfl ?_
  refine x_aload_n (pc' := 115) K dX7_init_114 0 rfl rfl ?_
  refine x_bipush (pc' := 117) (v := 96) K dX7_init_115 (by decide) rfl ?_
  refine x_newa (pc' := 119) (N := 96) K 0 rfl uX7_init_ac (by decide) (by decide +kernel) (Nat.le_of_ble_eq_true rfl) (Nat.le_of_ble_eq_true rfl) (Nat.le_of_ble_eq_true rfl) dX7_init_117 rfl (fun q117 => ?_)
  refine x_putF (pc' := 122) (C := RX7) (T := TX7) (N := 24) (ci := 7) (fs := [.ref q8, .ref q17, .ref q25, .int 0, .ref q33, .int 0, .int 0, .int 0, .int 0, .ref q41, .ref q50, .ref q58, .ref q66, .int (-1 : Int32), .ref q79, .ref q87, .ref q95, .int 0, .int 0, .int 0, .ref q102, .ref q109, .null, .null]) (w' := [(b, .inr (7, [.ref q8, .ref q17, .ref q25, .int 0, .ref q33, .int 0, .int 0, .int 0, .int 0, .ref q41, .ref q50, .ref q58, .ref q66, .int (-1 : Int32), .ref q79, .ref q87, .ref q95, .int 0, .int 0, .int 0, .ref q102, .ref q109, .ref q117, .null])), (q8, .inl (cI, 455, .inl (fun _ => 0))), (q17, .inl (cI, 455, .inl (fun _ => 0))), (q25, .inl (cI, 121, .inl (fun _ => 0))), (q33, .inl (cI, 7, .inl (fun _ => 0))), (q41, .inl (cI, 124, .inl (fun _ => 0))), (q50, .inl (cI, 128, .inl (fun _ => 0))), (q58, .inl (cI, 64, .inl (fun _ => 0))), (q66, .inl (cI, 16, .inl (fun _ => 0))), (q79, .inl (cI, 9, .inl (fun _ => 0))), (q87, .inl (cI, 9, .inl (fun _ => 0))), (q95, .inl (cI, 30, .inl (fun _ => 0))), (q102, .inl (cI, 4, .inl (fun _ => 0))), (q109, .inl (cI, 4, .inl (fun _ => 0))), (q117, .inl (cI, 96, .inl (fun _ => 0)))]) K hnm hinX7_init_X7 tyX7 tyX7_ok nmX7 0 rfl rfl 22 (by decide) uX7_init_f53 rfl rfl rfl rfl rfl (Nat.le_of_ble_eq_true rfl) rfl dX7_init_119 rfl ?_
  refine x_aload_n (pc' := 123) K dX7_init_122 0 rfl rfl ?_
  refine x_bipush (pc' := 125) (v := 24) K dX7_init_123 (by decide) rfl ?_
  refine x_newa (pc' := 127) (N := 24) K 0 rfl uX7_init_ac (by decide) (by decide +kernel) (Nat.le_of_ble_eq_true rfl) (Nat.le_of_ble_eq_true rfl) (Nat.le_of_ble_eq_true rfl) dX7_init_125 rfl (fun q125 => ?_)
  refine x_putF (pc' := 130) (C := RX7) (T := TX7) (N := 24) (ci := 7) (fs := [.ref q8, .ref q17, .ref q25, .int 0, .ref q33, .int 0, .int 0, .int 0, .int 0, .ref q41, .ref q50, .ref q58, .ref q66, .int (-1 : Int32), .ref q79, .ref q87, .ref q95, .int 0, .int 0, .int 0, .ref q102, .ref q109, .ref q117, .null]) (w' := [(b, .inr (7, [.ref q8, .ref q17, .ref q25, .int 0, .ref q33, .int 0, .int 0, .int 0, .int 0, .ref q41, .ref q50, .ref q58, .ref q66, .int (-1 : Int32), .ref q79, .ref q87, .ref q95, .int 0, .int 0, .int 0, .ref q102, .ref q109, .ref q117, .ref q125])), (q8, .inl (cI, 455, .inl (fun _ => 0))), (q17, .inl (cI, 455, .inl (fun _ => 0))), (q25, .inl (cI, 121, .inl (fun _ => 0))), (q33, .inl (cI, 7, .inl (fun _ => 0))), (q41, .inl (cI, 124, .inl (fun _ => 0))), (q50, .inl (cI, 128, .inl (fun _ => 0))), (q58, .inl (cI, 64, .inl (fun _ => 0))), (q66, .inl (cI, 16, .inl (fun _ => 0))), (q79, .inl (cI, 9, .inl (fun _ => 0))), (q87, .inl (cI, 9, .inl (fun _ => 0))), (q95, .inl (cI, 30, .inl (fun _ => 0))), (q102, .inl (cI, 4, .inl (fun _ => 0))), (q109, .inl (cI, 4, .inl (fun _ => 0))), (q117, .inl (cI, 96, .inl (fun _ => 0))), (q125, .inl (cI, 24, .inl (fun _ => 0)))]) K hnm hinX7_init_X7 tyX7 tyX7_ok nmX7 0 rfl rfl 23 (by decide) uX7_init_f56 rfl rfl rfl rfl rfl (Nat.le_of_ble_eq_true rfl) rfl dX7_init_127 rfl ?_
  obtain ⟨a, ha⟩ : ∃ a : Nat → Nat, a = (fun i => ([b, q8, q17, q25, q33, q41, q50, q58, q66, q79, q87, q95, q102, q109, q117, q125] : List Nat).getD i 0) := ⟨_, rfl⟩
  have hb : a 0 = b := by rw [ha]; rfl
  refine x_wperm (w' := w7 cI a (fun k => ([(0 : Int32), (0 : Int32), (0 : Int32), (0 : Int32), (0 : Int32), (-1 : Int32), (0 : Int32), (0 : Int32), (0 : Int32)] : List Int32).getD k 0) (fun k => ([(fun _ => 0), (fun _ => 0), (fun _ => 0), (fun _ => 0), (fun _ => 0), (fun _ => 0), (fun _ => 0), (fun _ => 0), (fun _ => 0), (fun _ => 0), (fun _ => 0), (fun _ => 0), (fun _ => 0), (fun _ => 0), (fun _ => 0)] : List (Nat → Int32)).getD k (fun _ => 0))) (by rw [ha]; exact xpermC (bl := [[(b, .inr (7, [.ref q8, .ref q17, .ref q25, .int 0, .ref q33, .int 0, .int 0, .int 0, .int 0, .ref q41, .ref q50, .ref q58, .ref q66, .int (-1 : Int32), .ref q79, .ref q87, .ref q95, .int 0, .int 0, .int 0, .ref q102, .ref q109, .ref q117, .ref q125]))], [(q8, .inl (cI, 455, .inl (fun _ => 0)))], [(q17, .inl (cI, 455, .inl (fun _ => 0)))], [(q25, .inl (cI, 121, .inl (fun _ => 0)))], [(q33, .inl (cI, 7, .inl (fun _ => 0)))], [(q41, .inl (cI, 124, .inl (fun _ => 0)))], [(q50, .inl (cI, 128, .inl (fun _ => 0)))], [(q58, .inl (cI, 64, .inl (fun _ => 0)))], [(q66, .inl (cI, 16, .inl (fun _ => 0)))], [(q79, .inl (cI, 9, .inl (fun _ => 0)))], [(q87, .inl (cI, 9, .inl (fun _ => 0)))], [(q95, .inl (cI, 30, .inl (fun _ => 0)))], [(q102, .inl (cI, 4, .inl (fun _ => 0)))], [(q109, .inl (cI, 4, .inl (fun _ => 0)))], [(q117, .inl (cI, 96, .inl (fun _ => 0)))], [(q125, .inl (cI, 24, .inl (fun _ => 0)))]]) (n := 16) rfl rfl [0, 1, 2, 3, 4, 5, 6, 7, 8, 9, 10, 11, 12, 13, 14, 15] (by decide +kernel) rfl) ?_
  subst hb
  obtain ⟨F0, eF0⟩ : ∃ x : xF, x = (fun k => ([(0 : Int32), (0 : Int32), (0 : Int32), (0 : Int32), (0 : Int32), (-1 : Int32), (0 : Int32), (0 : Int32), (0 : Int32)] : List Int32).getD k 0) := ⟨_, rfl⟩
  obtain ⟨G0, eG0⟩ : ∃ x : xA, x = (fun k => ([(fun _ => 0), (fun _ => 0), (fun _ => 0), (fun _ => 0), (fun _ => 0), (fun _ => 0), (fun _ => 0), (fun _ => 0), (fun _ => 0), (fun _ => 0), (fun _ => 0), (fun _ => 0), (fun _ => 0), (fun _ => 0), (fun _ => 0)] : List (Nat → Int32)).getD k (fun _ => 0)) := ⟨_, rfl⟩
  refine x_weq (w' := w7 cI a F0 G0) (by subst eF0; subst eG0; rfl) ?_
  replace h := h F0 eF0 G0 eG0
  refine x_aload_n (pc' := 131) K dX7_init_130 0 rfl rfl ?_
  refine xw7_0g_s (pc' := 134) K hinX7_init_X7 uX7_init_f7 dX7_init_131 rfl ?_
  refine x_iconst (pc' := 135) (v := 1) K dX7_init_134 (by decide) rfl ?_
  refine x_iconst (pc' := 136) (v := 1) K dX7_init_135 (by decide) rfl ?_
  refine xw7_1s (pc' := 137) K (j := 1) (xin_of (by decide +kernel)) (by decide +kernel) dX7_init_136 rfl (fun G136 eG136 => ?_)
  replace h := h G136 eG136
  refine x_aload_n (pc' := 138) K dX7_init_137 0 rfl rfl ?_
  refine xw7_0g_s (pc' := 141) K hinX7_init_X7 uX7_init_f7 dX7_init_138 rfl ?_
  refine x_iconst (pc' := 142) (v := 3) K dX7_init_141 (by decide) rfl ?_
  refine x_iconst (pc' := 143) (v := 5) K dX7_init_142 (by decide) rfl ?_
  refine xw7_1s (pc' := 144) K (j := 3) (xin_of (by decide +kernel)) (by decide +kernel) dX7_init_143 rfl (fun G143 eG143 => ?_)
  replace h := h G143 eG143
  refine x_aload_n (pc' := 145) K dX7_init_144 0 rfl rfl ?_
  refine xw7_0g_s (pc' := 148) K hinX7_init_X7 uX7_init_f7 dX7_init_145 rfl ?_
  refine x_bipush (pc' := 150) (v := 6) K dX7_init_148 (by decide) rfl ?_
  refine x_iconst (pc' := 151) (v := 1) K dX7_init_150 (by decide) rfl ?_
  refine xw7_1s (pc' := 152) K (j := 6) (xin_of (by decide +kernel)) (by decide +kernel) dX7_init_151 rfl (fun G151 eG151 => ?_)
  replace h := h G151 eG151
  refine x_iconst (pc' := 153) (v := 0) K dX7_init_152 (by decide) rfl ?_
  refine x_istore_n (pc' := 154) (i := 1) K dX7_init_153 rfl (by decide) [1, 0] (L' := [(0, .ref (a 0)), (1, .int _)]) rfl rfl ?_
  obtain ⟨n154, h⟩ := h
  exact tX7_init_154 K n154 _ _ _ h
end
