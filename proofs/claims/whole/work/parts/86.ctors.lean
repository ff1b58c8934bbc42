section
variable {p : Program} {l : Launch} {e : Env} {s : State} {m : MethodId} {args : Array Value} {below : List Frame} {meth : Method} {c : Code} {D : va_G} {cI cO : ClassId} {A : Nat → Prop} {a : Nat → Nat} {d : Nat}
/-! X1_init_60 -/
abbrev rmX1_init_60 : Room := { frames := 2, cells := 1, slots := 60, locals := 60 }
theorem dsX1_init : xDesc yX1_init 1 := by decide +kernel
theorem uX1_init_m1 : Cond.methodLink RX1 1 objectInit ∈ wsX1_init := nw_in nwl_X1_init nwe_73 (by decide +kernel)
theorem uX1_init_oi : Cond.instanceMethod objectInit ∈ wsX1_init := nw_in nwl_X1_init nwe_74 (by decide +kernel)
theorem uX1_init_oc : Cond.code objectInit ⟨#[0xb1]⟩ 1 none ∈ wsX1_init := nw_in nwl_X1_init nwe_75 (by decide +kernel)
theorem uX1_init_f7 : Cond.fieldLink RX1 7 "PigNinths$Row" "size" "I" ∈ wsX1_init := nw_in nwl_X1_init nwe_76 (by decide +kernel)
theorem hinX1_init_X1 : ∀ w ∈ wsX10, w ∈ wsX1_init := nw_all nwl_X1_init nwl_X10 (by decide +kernel)
theorem uX1_init_m13 : Cond.methodLink RX1 13 Lib.Math.max.name ∈ wsX1_init := nw_in nwl_X1_init nwe_77 (by decide +kernel)
theorem uX1_init_msmax : Cond.static Lib.Math.max.name ∈ wsX1_init := nw_in nwl_X1_init nwe_78 (by decide +kernel)
theorem uX1_init_mi : Cond.initialized "java/lang/Math" ∈ wsX1_init := nw_in nwl_X1_init nwe_79 (by decide +kernel)
theorem uX1_init_mcmax : Cond.code Lib.Math.max.name Lib.Math.max.code 2 (some .int) ∈ wsX1_init := nw_in nwl_X1_init nwe_80 (by decide +kernel)
theorem uX1_init_ac : Cond.arrayClass .int ∈ wsX1_init := nw_in nwl_X1_init nwe_81 (by decide +kernel)
theorem uX1_init_f19 : Cond.fieldLink RX1 19 "PigNinths$Row" "numbers" "[I" ∈ wsX1_init := nw_in nwl_X1_init nwe_82 (by decide +kernel)
set_option maxHeartbeats 4000000 in
set_option maxRecDepth 100000 in
theorem mX1_init_60 (l : Launch) (D : va_G) (cI cO : ClassId) (b : Nat) : MC l yX1_init wsX1_init rmX1_init_60 D (xtys cI cO) [.ref b, .int (60 : Int32)] b [(b, .inr (1, [.null, .int 0]))] 1 60 (fun a F G => w1 60 cI a F G) qX1_init_60 := by
  refine MC_of (cc := cX1_init) (maxL := 2) (own := RX1) (by decide) rfl rfl (by decide) (Nat.le_of_ble_eq_true rfl) ?_
  intro p e s m args below meth c A Q h K hnm
  refine x_locals [0, 1] (L' := [(0, .ref b), (1, .int (60 : Int32))]) rfl ?_
  refine x_aload_n (pc' := 1) K dX1_init_0 0 rfl rfl ?_
  refine x_objinit (pc' := 4) K uX1_init_m1 uX1_init_oi uX1_init_oc (Nat.le_of_ble_eq_true rfl) (Nat.le_of_ble_eq_true rfl) dX1_init_1 rfl ?_
  refine x_aload_n (pc' := 5) K dX1_init_4 0 rfl rfl ?_
  refine x_iconst (pc' := 6) (v := 0) K dX1_init_5 (by decide) rfl ?_
  refine x_put (pc' := 9) (C := RX1) (T := TX1) (N := 2) (ci := 1) (fs := [.null, .int 0]) (ws' := [(b, .inr (1, [.null, .int (0 : Int32)]))]) K hinX1_init_X1 tyX1 tyX1_ok nmX1 0 rfl rfl 1 (by decide) uX1_init_f7 rfl rfl rfl rfl (Nat.le_of_ble_eq_true rfl) rfl dX1_init_6 rfl ?_
  refine x_aload_n (pc' := 10) K dX1_init_9 0 rfl rfl ?_
  refine x_iconst (pc' := 11) (v := 0) K dX1_init_10 (by decide) rfl ?_
  refine x_iload_n (pc' := 12) K dX1_init_11 1 rfl rfl ?_
  refine x_mmax (pc' := 15) K uX1_init_m13 uX1_init_msmax uX1_init_mi uX1_init_mcmax (Nat.le_of_ble_eq_true rfl) (Nat.le_of_ble_eq_true rfl) (Nat.le_of_ble_eq_true rfl) (Nat.le_of_ble_eq_true rfl) dX1_init_12 rfl ?_
  refine x_newa (pc' := 17) (N := 60) K 0 rfl uX1_init_ac (by decide) (by decide +kernel) (Nat.le_of_ble_eq_true rfl) (Nat.le_of_ble_eq_true rfl) (Nat.le_of_ble_eq_true rfl) dX1_init_15 rfl (fun q15 => ?_)
  refine x_putF (pc' := 20) (C := RX1) (T := TX1) (N := 2) (ci := 1) (fs := [.null, .int (0 : Int32)]) (w' := [(b, .inr (1, [.ref q15, .int (0 : Int32)])), (q15, .inl (cI, 60, .inl (fun _ => 0)))]) K hnm hinX1_init_X1 tyX1 tyX1_ok nmX1 0 rfl rfl 0 (by decide) uX1_init_f19 rfl rfl rfl rfl rfl (Nat.le_of_ble_eq_true rfl) rfl dX1_init_17 rfl ?_
  obtain ⟨a, ha⟩ : ∃ a : Nat → Nat, a = (fun i => ([b, q15] : List Nat).getD i 0) := ⟨_, rfl⟩
  have hb : a 0 = b := by rw [ha]; rfl
  refine x_wperm (w' := w1 60 cI a (fun k => ([(0 : Int32)] : List Int32).getD k 0) (fun k => ([(fun _ => 0)] : List (Nat → Int32)).getD k (fun _ => 0))) (by rw [ha]; exact xpermC (bl := [[(b, .inr (1, [.ref q15, .int (0 : Int32)]))], [(q15, .inl (cI, 60, .inl (fun _ => 0)))]]) (n := 2) rfl rfl [0, 1] (by decide +kernel) rfl) ?_
  subst hb
  obtain ⟨F0, eF0⟩ : ∃ x : xF, x = (fun k => ([(0 : Int32)] : List Int32).getD k 0) := ⟨_, rfl⟩
  obtain ⟨G0, eG0⟩ : ∃ x : xA, x = (fun k => ([(fun _ => 0)] : List (Nat → Int32)).getD k (fun _ => 0)) := ⟨_, rfl⟩
  refine x_weq (w' := w1 60 cI a F0 G0) (by subst eF0; subst eG0; rfl) ?_
  replace h := h F0 eF0 G0 eG0
  exact x_cret (wf := fun a F G => w1 60 cI a F G) K a rfl rfl h dX1_init_20
/-! X1_init_24 -/
abbrev rmX1_init_24 : Room := { frames := 2, cells := 1, slots := 24, locals := 60 }
set_option maxHeartbeats 4000000 in
set_option maxRecDepth 100000 in
theorem mX1_init_24 (l : Launch) (D : va_G) (cI cO : ClassId) (b : Nat) : MC l yX1_init wsX1_init rmX1_init_24 D (xtys cI cO) [.ref b, .int (24 : Int32)] b [(b, .inr (1, [.null, .int 0]))] 1 24 (fun a F G => w1 24 cI a F G) qX1_init_24 := by
  refine MC_of (cc := cX1_init) (maxL := 2) (own := RX1) (by decide) rfl rfl (by decide) (Nat.le_of_ble_eq_true rfl) ?_
  intro p e s m args below meth c A Q h K hnm
  refine x_locals [0, 1] (L' := [(0, .ref b), (1, .int (24 : Int32))]) rfl ?_
  refine x_aload_n (pc' := 1) K dX1_init_0 0 rfl rfl ?_
  refine x_objinit (pc' := 4) K uX1_init_m1 uX1_init_oi uX1_init_oc (Nat.le_of_ble_eq_true rfl) (Nat.le_of_ble_eq_true rfl) dX1_init_1 rfl ?_
  refine x_aload_n (pc' := 5) K dX1_init_4 0 rfl rfl ?_
  refine x_iconst (pc' := 6) (v := 0) K dX1_init_5 (by decide) rfl ?_
  refine x_put (pc' := 9) (C := RX1) (T := TX1) (N := 2) (ci := 1) (fs := [.null, .int 0]) (ws' := [(b, .inr (1, [.null, .int (0 : Int32)]))]) K hinX1_init_X1 tyX1 tyX1_ok nmX1 0 rfl rfl 1 (by decide) uX1_init_f7 rfl rfl rfl rfl (Nat.le_of_ble_eq_true rfl) rfl dX1_init_6 rfl ?_
  refine x_aload_n (pc' := 10) K dX1_init_9 0 rfl rfl ?_
  refine x_iconst (pc' := 11) (v := 0) K dX1_init_10 (by decide) rfl ?_
  refine x_iload_n (pc' := 12) K dX1_init_11 1 rfl rfl ?_
  refine x_mmax (pc' := 15) K uX1_init_m13 uX1_init_msmax uX1_init_mi uX1_init_mcmax (Nat.le_of_ble_eq_true rfl) (Nat.le_of_ble_eq_true rfl) (Nat.le_of_ble_eq_true rfl) (Nat.le_of_ble_eq_true rfl) dX1_init_12 rfl ?_
  refine x_newa (pc' := 17) (N := 24) K 0 rfl uX1_init_ac (by decide) (by decide +kernel) (Nat.le_of_ble_eq_true rfl) (Nat.le_of_ble_eq_true rfl) (Nat.le_of_ble_eq_true rfl) dX1_init_15 rfl (fun q15 => ?_)
  refine x_putF (pc' := 20) (C := RX1) (T := TX1) (N := 2) (ci := 1) (fs := [.null, .int (0 : Int32)]) (w' := [(b, .inr (1, [.ref q15, .int (0 : Int32)])), (q15, .inl (cI, 24, .inl (fun _ => 0)))]) K hnm hinX1_init_X1 tyX1 tyX1_ok nmX1 0 rfl rfl 0 (by decide) uX1_init_f19 rfl rfl rfl rfl rfl (Nat.le_of_ble_eq_true rfl) rfl dX1_init_17 rfl ?_
  obtain ⟨a, ha⟩ : ∃ a : Nat → Nat, a = (fun i => ([b, q15] : List Nat).getD i 0) := ⟨_, rfl⟩
  have hb : a 0 = b := by rw [ha]; rfl
  refine x_wperm (w' := w1 24 cI a (fun k => ([(0 : Int32)] : List Int32).getD k 0) (fun k => ([(fun _ => 0)] : List (Nat → Int32)).getD k (fun _ => 0))) (by rw [ha]; exact xpermC (bl := [[(b, .inr (1, [.ref q15, .int (0 : Int32)]))], [(q15, .inl (cI, 24, .inl (fun _ => 0)))]]) (n := 2) rfl rfl [0, 1] (by decide +kernel) rfl) ?_
  subst hb
  obtain ⟨F0, eF0⟩ : ∃ x : xF, x = (fun k => ([(0 : Int32)] : List Int32).getD k 0) := ⟨_, rfl⟩
  obtain ⟨G0, eG0⟩ : ∃ x : xA, x = (fun k => ([(fun _ => 0)] : List (Nat → Int32)).getD k (fun _ => 0)) := ⟨_, rfl⟩
  refine x_weq (w' := w1 24 cI a F0 G0) (by subst eF0; subst eG0; rfl) ?_
  replace h := h F0 eF0 G0 eG0
  exact x_cret (wf := fun a F G => w1 24 cI a F G) K a rfl rfl h dX1_init_20
/-! X1_init_30 -/
abbrev rmX1_init_30 : Room := { frames := 2, cells := 1, slots := 30, locals := 60 }
set_option maxHeartbeats 4000000 in
set_option maxRecDepth 100000 in
theorem mX1_init_30 (l : Launch) (D : va_G) (cI cO : ClassId) (b : Nat) : MC l yX1_init wsX1_init rmX1_init_30 D (xtys cI cO) [.ref b, .int (30 : Int32)] b [(b, .inr (1, [.null, .int 0]))] 1 30 (fun a F G => w1 30 cI a F G) qX1_init_30 := by
  refine MC_of (cc := cX1_init) (maxL := 2) (own := RX1) (by decide) rfl rfl (by decide) (Nat.le_of_ble_eq_true rfl) ?_
  intro p e s m args below meth c A Q h K hnm
  refine x_locals [0, 1] (L' := [(0, .ref b), (1, .int (30 : Int32))]) rfl ?_
  refine x_aload_n (pc' := 1) K dX1_init_0 0 rfl rfl ?_
  refine x_objinit (pc' := 4) K uX1_init_m1 uX1_init_oi uX1_init_oc (Nat.le_of_ble_eq_true rfl) (Nat.le_of_ble_eq_true rfl) dX1_init_1 rfl ?_
  refine x_aload_n (pc' := 5) K dX1_init_4 0 rfl rfl ?_
  refine x_iconst (pc' := 6) (v := 0) K dX1_init_5 (by decide) rfl ?_
  refine x_put (pc' := 9) (C := RX1) (T := TX1) (N := 2) (ci := 1) (fs := [.null, .int 0]) (ws' := [(b, .inr (1, [.null, .int (0 : Int32)]))]) K hinX1_init_X1 tyX1 tyX1_ok nmX1 0 rfl rfl 1 (by decide) uX1_init_f7 rfl rfl rfl rfl (Nat.le_of_ble_eq_true rfl) rfl dX1_init_6 rfl ?_
  refine x_aload_n (pc' := 10) K dX1_init_9 0 rfl rfl ?_
  refine x_iconst (pc' := 11) (v := 0) K dX1_init_10 (by decide) rfl ?_
  refine x_iload_n (pc' := 12) K dX1_init_11 1 rfl rfl ?_
  refine x_mmax (pc' := 15) K uX1_init_m13 uX1_init_msmax uX1_init_mi uX1_init_mcmax (Nat.le_of_ble_eq_true rfl) (Nat.le_of_ble_eq_true rfl) (Nat.le_of_ble_eq_true rfl) (Nat.le_of_ble_eq_true rfl) dX1_init_12 rfl ?_
  refine x_newa (pc' := 17) (N := 30) K 0 rfl uX1_init_ac (by decide) (by decide +kernel) (Nat.le_of_ble_eq_true rfl) (Nat.le_of_ble_eq_true rfl) (Nat.le_of_ble_eq_true rfl) dX1_init_15 rfl (fun q15 => ?_)
  refine x_putF (pc' := 20) (C := RX1) (T := TX1) (N := 2) (ci := 1) (fs := [.null, .int (0 : Int32)]) (w' := [(b, .inr (1, [.ref q15, .int (0 : Int32)])), (q15, .inl (cI, 30, .inl (fun _ => 0)))]) K hnm hinX1_init_X1 tyX1 tyX1_ok nmX1 0 rfl rfl 0 (by decide) uX1_init_f19 rfl rfl rfl rfl rfl (Nat.le_of_ble_eq_true rfl) rfl dX1_init_17 rfl ?_
  obtain ⟨a, ha⟩ : ∃ a : Nat → Nat, a = (fun i => ([b, q15] : List Nat).getD i 0) := ⟨_, rfl⟩
  have hb : a 0 = b := by rw [ha]; rfl
  refine x_wperm (w' := w1 30 cI a (fun k => ([(0 : Int32)] : List Int32).getD k 0) (fun k => ([(fun _ => 0)] : List (Nat → Int32)).getD k (fun _ => 0))) (by rw [ha]; exact xpermC (bl := [[(b, .inr (1, [.ref q15, .int (0 : Int32)]))], [(q15, .inl (cI, 30, .inl (fun _ => 0)))]]) (n := 2) rfl rfl [0, 1] (by decide +kernel) rfl) ?_
  subst hb
  obtain ⟨F0, eF0⟩ : ∃ x : xF, x = (fun k => ([(0 : Int32)] : List Int32).getD k 0) := ⟨_, rfl⟩
  obtain ⟨G0, eG0⟩ : ∃ x : xA, x = (fun k => ([(fun _ => 0)] : List (Nat → Int32)).getD k (fun _ => 0)) := ⟨_, rfl⟩
  refine x_weq (w' := w1 30 cI a F0 G0) (by subst eF0; subst eG0; rfl) ?_
  replace h := h F0 eF0 G0 eG0
  exact x_cret (wf := fun a F G => w1 30 cI a F G) K a rfl rfl h dX1_init_20
/-! X3_init -/
abbrev rmX3_init : Room := { frames := 3, cells := 3, slots := 122, locals := 81 }
theorem dsX3_init : xDesc yX3_init 0 := by decide +kernel
theorem uX3_init_m3 : Cond.methodLink RX3 3 objectInit ∈ wsX3_init := nw_in nwl_X3_init nwe_179 (by decide +kernel)
theorem uX3_init_oi : Cond.instanceMethod objectInit ∈ wsX3_init := nw_in nwl_X3_init nwe_74 (by decide +kernel)
theorem uX3_init_oc : Cond.code objectInit ⟨#[0xb1]⟩ 1 none ∈ wsX3_init := nw_in nwl_X3_init nwe_75 (by decide +kernel)
theorem uX3_init_l9 : Cond.classLink RX3 9 RX1 ∈ wsX3_init := nw_in nwl_X3_init nwe_180 (by decide +kernel)
theorem uX3_init_t1 : Cond.instantiable RX1 2 ∈ wsX3_init := nw_in nwl_X3_init nwe_86 (by decide +kernel)
theorem uX3_init_i1 : Cond.initialized RX1 ∈ wsX3_init := nw_in nwl_X3_init nwe_87 (by decide +kernel)
theorem hinX3_init_X1 : ∀ w ∈ wsX10, w ∈ wsX3_init := nw_all nwl_X3_init nwl_X10 (by decide +kernel)
theorem uX3_init_yi1 : Cond.initialized yX1_init.cls ∈ wsX3_init := nw_in nwl_X3_init nwe_87 (by decide +kernel)
theorem uX3_init_ym1 : Cond.instanceMethod yX1_init ∈ wsX3_init := nw_in nwl_X3_init nwe_93 (by decide +kernel)
theorem uX3_init_m11 : Cond.methodLink RX3 11 yX1_init ∈ wsX3_init := nw_in nwl_X3_init nwe_183 (by decide +kernel)
theorem uX3_init_f14 : Cond.fieldLink RX3 14 "PigNinths$Text" "code" "LPigNinths$Row;" ∈ wsX3_init := nw_in nwl_X3_init nwe_181 (by decide +kernel)
theorem hinX3_init_X3 : ∀ w ∈ wsX30, w ∈ wsX3_init := nw_all nwl_X3_init nwl_X30 (by decide +kernel)
theorem uX3_init_ac : Cond.arrayClass .int ∈ wsX3_init := nw_in nwl_X3_init nwe_81 (by decide +kernel)
theorem uX3_init_f20 : Cond.fieldLink RX3 20 "PigNinths$Text" "stack" "[I" ∈ wsX3_init := nw_in nwl_X3_init nwe_182 (by decide +kernel)
set_option maxHeartbeats 4000000 in
set_option maxRecDepth 100000 in
theorem mX3_init (l : Launch) (D : va_G) (cI cO : ClassId) (b : Nat) : MC l yX3_init wsX3_init rmX3_init D (xtys cI cO) [.ref b] b [(b, .inr (3, [.null, .null]))] 3 122 (fun a F G => w3 cI a F G) qX3_init := by
  refine MC_of (cc := cX3_init) (maxL := 1) (own := RX3) (by decide) rfl rfl (by decide) (Nat.le_of_ble_eq_true rfl) ?_
  intro p e s m args below meth c A Q h K hnm
  refine x_locals [0] (L' := [(0, .ref b)]) rfl ?_
  refine x_aload_n (pc' := 1) K dX3_init_0 0 rfl rfl ?_
  refine x_objinit (pc' := 4) K uX3_init_m3 uX3_init_oi uX3_init_oc (Nat.le_of_ble_eq_true rfl) (Nat.le_of_ble_eq_true rfl) dX3_init_1 rfl ?_
  refine x_aload_n (pc' := 5) K dX3_init_4 0 rfl rfl ?_
  refine x_new (pc' := 8) (C := RX1) (T := TX1) (N := 2) (ci := 1) (fs := [.null, .int 0]) K hinX3_init_X1 tyX1 tyX1_ok uX3_init_l9 uX3_init_t1 uX3_init_i1 rfl (by decide +kernel) (Nat.le_of_ble_eq_true rfl) (Nat.le_of_ble_eq_true rfl) dX3_init_5 rfl (fun q5 => ?_)
  refine x_dup (pc' := 9) K dX3_init_8 rfl rfl ?_
  refine x_bipush (pc' := 11) (v := 60) K dX3_init_9 (by decide) rfl ?_
  refine x_callC (pc' := 14) (X := [(b, .inr (3, [.null, .null]))]) K (mX1_init_60 l D cI cO q5) rfl gX3_init_X1_init uX3_init_m11 uX3_init_yi1 uX3_init_ym1 rfl dsX1_init ⟨rfl, rfl, ⟨Nat.le_of_ble_eq_true rfl, Nat.le_of_ble_eq_true rfl⟩⟩ ⟨Nat.le_of_ble_eq_true rfl, Nat.le_of_ble_eq_true rfl⟩ h rfl (st := [.ref q5, .ref b]) rfl rfl (Nat.le_of_ble_eq_true rfl) dX3_init_11 rfl (fun a11 F11 G11 e11 h => ?_)
  subst e11
  refine x_putF (pc' := 17) (C := RX3) (T := TX3) (N := 2) (ci := 3) (fs := [.null, .null]) (w' := ([(b, .inr (3, [.ref (a11 0), .null]))] ++ (w1 60 cI a11 F11 G11))) K hnm hinX3_init_X3 tyX3 tyX3_ok nmX3 0 rfl rfl 0 (by decide) uX3_init_f14 rfl rfl rfl rfl rfl (Nat.le_of_ble_eq_true rfl) rfl dX3_init_14 rfl ?_
  refine x_aload_n (pc' := 18) K dX3_init_17 0 rfl rfl ?_
  refine x_bipush (pc' := 20) (v := 60) K dX3_init_18 (by decide) rfl ?_
  refine x_newa (pc' := 22) (N := 60) K 0 rfl uX3_init_ac (by decide) (by decide +kernel) (Nat.le_of_ble_eq_true rfl) (Nat.le_of_ble_eq_true rfl) (Nat.le_of_ble_eq_true rfl) dX3_init_20 rfl (fun q20 => ?_)
  refine x_putF (pc' := 25) (C := RX3) (T := TX3) (N := 2) (ci := 3) (fs := [.ref (a11 0), .null]) (w' := ([(b, .inr (3, [.ref (a11 0), .ref q20]))] ++ ((w1 60 cI a11 F11 G11) ++ [(q20, .inl (cI, 60, .inl (fun _ => 0)))]))) K hnm hinX3_init_X3 tyX3 tyX3_ok nmX3 0 rfl rfl 1 (by decide) uX3_init_f20 rfl rfl rfl rfl rfl (Nat.le_of_ble_eq_true rfl) rfl dX3_init_22 rfl ?_
  obtain ⟨a, ha⟩ : ∃ a : Nat → Nat, a = (xcat 2 (fun i => ([b, q20] : List Nat).getD i 0) a11) := ⟨_, rfl⟩
  have hb : a 0 = b := by rw [ha]; rfl
  refine x_wperm (w' := w3 cI a F11 (xcat 1 (fun k => ([(fun _ => 0)] : List (Nat → Int32)).getD k (fun _ => 0)) G11)) (by rw [ha]; exact xpermC (bl := [[(b, .inr (3, [.ref (a11 0), .ref q20]))], (w1 60 cI a11 F11 G11), [(q20, .inl (cI, 60, .inl (fun _ => 0)))]]) (n := 3) rfl rfl [0, 2, 1] (by decide +kernel) rfl) ?_
  subst hb
  obtain ⟨F0, eF0⟩ : ∃ x : xF, x = F11 := ⟨_, rfl⟩
  obtain ⟨G0, eG0⟩ : ∃ x : xA, x = (xcat 1 (fun k => ([(fun _ => 0)] : List (Nat → Int32)).getD k (fun _ => 0)) G11) := ⟨_, rfl⟩
  refine x_weq (w' := w3 cI a F0 G0) (by subst eF0; subst eG0; rfl) ?_
  replace h := h F0 eF0 G0 eG0
  exact x_cret (wf := fun a F G => w3 cI a F G) K a rfl rfl h dX3_init_25
/-! X2_init -/
abbrev rmX2_init : Room := { frames := 2, cells := 1, slots := 24, locals := 60 }
theorem dsX2_init : xDesc yX2_init 0 := by decide +kernel
theorem uX2_init_m3 : Cond.methodLink RX2 3 objectInit ∈ wsX2_init := nw_in nwl_X2_init nwe_162 (by decide +kernel)
theorem uX2_init_oi : Cond.instanceMethod objectInit ∈ wsX2_init := nw_in nwl_X2_init nwe_74 (by decide +kernel)
theorem uX2_init_oc : Cond.code objectInit ⟨#[0xb1]⟩ 1 none ∈ wsX2_init := nw_in nwl_X2_init nwe_75 (by decide +kernel)
theorem uX2_init_ac : Cond.arrayClass .int ∈ wsX2_init := nw_in nwl_X2_init nwe_81 (by decide +kernel)
theorem uX2_init_f9 : Cond.fieldLink RX2 9 "PigNinths$Sheet" "numbers" "[I" ∈ wsX2_init := nw_in nwl_X2_init nwe_163 (by decide +kernel)
theorem hinX2_init_X2 : ∀ w ∈ wsX20, w ∈ wsX2_init := nw_all nwl_X2_init nwl_X20 (by decide +kernel)
theorem uX2_init_f15 : Cond.fieldLink RX2 15 "PigNinths$Sheet" "bits" "I" ∈ wsX2_init := nw_in nwl_X2_init nwe_164 (by decide +kernel)
theorem uX2_init_f19 : Cond.fieldLink RX2 19 "PigNinths$Sheet" "size" "I" ∈ wsX2_init := nw_in nwl_X2_init nwe_165 (by decide +kernel)
set_option maxHeartbeats 4000000 in
set_option maxRecDepth 100000 in
theorem mX2_init (l : Launch) (D : va_G) (cI cO : ClassId) (b : Nat) : MC l yX2_init wsX2_init rmX2_init D (xtys cI cO) [.ref b] b [(b, .inr (2, [.null, .int 0, .int 0]))] 1 24 (fun a F G => w2 cI a F G) qX2_init := by
  refine MC_of (cc := cX2_init) (maxL := 1) (own := RX2) (by decide) rfl rfl (by decide) (Nat.le_of_ble_eq_true rfl) ?_
  intro p e s m args below meth c A Q h K hnm
  refine x_locals [0] (L' := [(0, .ref b)]) rfl ?_
  refine x_aload_n (pc' := 1) K dX2_init_0 0 rfl rfl ?_
  refine x_objinit (pc' := 4) K uX2_init_m3 uX2_init_oi uX2_init_oc (Nat.le_of_ble_eq_true rfl) (Nat.le_of_ble_eq_true rfl) dX2_init_1 rfl ?_
  refine x_aload_n (pc' := 5) K dX2_init_4 0 rfl rfl ?_
  refine x_bipush (pc' := 7) (v := 24) K dX2_init_5 (by decide) rfl ?_
  refine x_newa (pc' := 9) (N := 24) K 0 rfl uX2_init_ac (by decide) (by decide +kernel) (Nat.le_of_ble_eq_true rfl) (Nat.le_of_ble_eq_true rfl) (Nat.le_of_ble_eq_true rfl) dX2_init_7 rfl (fun q7 => ?_)
  refine x_putF (pc' := 12) (C := RX2) (T := TX2) (N := 3) (ci := 2) (fs := [.null, .int 0, .int 0]) (w' := [(b, .inr (2, [.ref q7, .int 0, .int 0])), (q7, .inl (cI, 24, .inl (fun _ => 0)))]) K hnm hinX2_init_X2 tyX2 tyX2_ok nmX2 0 rfl rfl 0 (by decide) uX2_init_f9 rfl rfl rfl rfl rfl (Nat.le_of_ble_eq_true rfl) rfl dX2_init_9 rfl ?_
  refine x_aload_n (pc' := 13) K dX2_init_12 0 rfl rfl ?_
  refine x_iconst (pc' := 14) (v := 0) K dX2_init_13 (by decide) rfl ?_
  refine x_put (pc' := 17) (C := RX2) (T := TX2) (N := 3) (ci := 2) (fs := [.ref q7, .int 0, .int 0]) (ws' := [(b, .inr (2, [.ref q7, .int (0 : Int32), .int 0])), (q7, .inl (cI, 24, .inl (fun _ => 0)))]) K hinX2_init_X2 tyX2 tyX2_ok nmX2 0 rfl rfl 1 (by decide) uX2_init_f15 rfl rfl rfl rfl (Nat.le_of_ble_eq_true rfl) rfl dX2_init_14 rfl ?_
  refine x_aload_n (pc' := 18) K dX2_init_17 0 rfl rfl ?_
  refine x_iconst (pc' := 19) (v := 0) K dX2_init_18 (by decide) rfl ?_
  refine x_put (pc' := 22) (C := RX2) (T := TX2) (N := 3) (ci := 2) (fs := [.ref q7, .int (0 : Int32), .int 0]) (ws' := [(b, .inr (2, [.ref q7, .int (0 : Int32), .int (0 : Int32)])), (q7, .inl (cI, 24, .inl (fun _ => 0)))]) K hinX2_init_X2 tyX2 tyX2_ok nmX2 0 rfl rfl 2 (by decide) uX2_init_f19 rfl rfl rfl rfl (Nat.le_of_ble_eq_true rfl) rfl dX2_init_19 rfl ?_
  obtain ⟨a, ha⟩ : ∃ a : Nat → Nat, a = (fun i => ([b, q7] : List Nat).getD i 0) := ⟨_, rfl⟩
  have hb : a 0 = b := by rw [ha]; rfl
  refine x_wperm (w' := w2 cI a (fun k => ([(0 : Int32), (0 : Int32)] : List Int32).getD k 0) (fun k => ([(fun _ => 0)] : List (Nat → Int32)).getD k (fun _ => 0))) (by rw [ha]; exact xpermC (bl := [[(b, .inr (2, [.ref q7, .int (0 : Int32), .int (0 : Int32)]))], [(q7, .inl (cI, 24, .inl (fun _ => 0)))]]) (n := 2) rfl rfl [0, 1] (by decide +kernel) rfl) ?_
  subst hb
  obtain ⟨F0, eF0⟩ : ∃ x : xF, x = (fun k => ([(0 : Int32), (0 : Int32)] : List Int32).getD k 0) := ⟨_, rfl⟩
  obtain ⟨G0, eG0⟩ : ∃ x : xA, x = (fun k => ([(fun _ => 0)] : List (Nat → Int32)).getD k (fun _ => 0)) := ⟨_, rfl⟩
  refine x_weq (w' := w2 cI a F0 G0) (by subst eF0; subst eG0; rfl) ?_
  replace h := h F0 eF0 G0 eG0
  exact x_cret (wf := fun a F G => w2 cI a F G) K a rfl rfl h dX2_init_22
/-! X0_init -/
abbrev rmX0_init : Room := { frames := 3, cells := 4, slots := 124, locals := 81 }
theorem dsX0_init : xDesc yX0_init 0 := by decide +kernel
theorem uX0_init_m3 : Cond.methodLink RX0 3 objectInit ∈ wsX0_init := nw_in nwl_X0_init nwe_84 (by decide +kernel)
theorem uX0_init_oi : Cond.instanceMethod objectInit ∈ wsX0_init := nw_in nwl_X0_init nwe_74 (by decide +kernel)
theorem uX0_init_oc : Cond.code objectInit ⟨#[0xb1]⟩ 1 none ∈ wsX0_init := nw_in nwl_X0_init nwe_75 (by decide +kernel)
theorem uX0_init_l9 : Cond.classLink RX0 9 RX1 ∈ wsX0_init := nw_in nwl_X0_init nwe_85 (by decide +kernel)
theorem uX0_init_t1 : Cond.instantiable RX1 2 ∈ wsX0_init := nw_in nwl_X0_init nwe_86 (by decide +kernel)
theorem uX0_init_i1 : Cond.initialized RX1 ∈ wsX0_init := nw_in nwl_X0_init nwe_87 (by decide +kernel)
theorem hinX0_init_X1 : ∀ w ∈ wsX10, w ∈ wsX0_init := nw_all nwl_X0_init nwl_X10 (by decide +kernel)
theorem uX0_init_yi1 : Cond.initialized yX1_init.cls ∈ wsX0_init := nw_in nwl_X0_init nwe_87 (by decide +kernel)
theorem uX0_init_ym1 : Cond.instanceMethod yX1_init ∈ wsX0_init := nw_in nwl_X0_init nwe_93 (by decide +kernel)
theorem uX0_init_m11 : Cond.methodLink RX0 11 yX1_init ∈ wsX0_init := nw_in nwl_X0_init nwe_92 (by decide +kernel)
theorem uX0_init_f14 : Cond.fieldLink RX0 14 "PigNinths$Reader" "code" "LPigNinths$Row;" ∈ wsX0_init := nw_in nwl_X0_init nwe_88 (by decide +kernel)
theorem hinX0_init_X0 : ∀ w ∈ wsX00, w ∈ wsX0_init := nw_all nwl_X0_init nwl_X00 (by decide +kernel)
theorem uX0_init_f20 : Cond.fieldLink RX0 20 "PigNinths$Reader" "bytes" "LPigNinths$Row;" ∈ wsX0_init := nw_in nwl_X0_init nwe_89 (by decide +kernel)
theorem uX0_init_f23 : Cond.fieldLink RX0 23 "PigNinths$Reader" "names" "I" ∈ wsX0_init := nw_in nwl_X0_init nwe_90 (by decide +kernel)
theorem uX0_init_f27 : Cond.fieldLink RX0 27 "PigNinths$Reader" "at" "I" ∈ wsX0_init := nw_in nwl_X0_init nwe_91 (by decide +kernel)
set_option maxHeartbeats 4000000 in
set_option maxRecDepth 100000 in
theorem mX0_init (l : Launch) (D : va_G) (cI cO : ClassId) (b : Nat) : MC l yX0_init wsX0_init rmX0_init D (xtys cI cO) [.ref b] b [(b, .inr (0, [.null, .null, .int 0, .int 0]))] 4 124 (fun a F G => w0 cI a F G) qX0_init := by
  refine MC_of (cc := cX0_init) (maxL := 1) (own := RX0) (by decide) rfl rfl (by decide) (Nat.le_of_ble_eq_true rfl) ?_
  intro p e s m args below meth c A Q h K hnm
  refine x_locals [0] (L' := [(0, .ref b)]) rfl ?_
  refine x_aload_n (pc' := 1) K dX0_init_0 0 rfl rfl ?_
  refine x_objinit (pc' := 4) K uX0_init_m3 uX0_init_oi uX0_init_oc (Nat.le_of_ble_eq_true rfl) (Nat.le_of_ble_eq_true rfl) dX0_init_1 rfl ?_
  refine x_aload_n (pc' := 5) K dX0_init_4 0 rfl rfl ?_
  refine x_new (pc' := 8) (C := RX1) (T := TX1) (N := 2) (ci := 1) (fs := [.null, .int 0]) K hinX0_init_X1 tyX1 tyX1_ok uX0_init_l9 uX0_init_t1 uX0_init_i1 rfl (by decide +kernel) (Nat.le_of_ble_eq_true rfl) (Nat.le_of_ble_eq_true rfl) dX0_init_5 rfl (fun q5 => ?_)
  refine x_dup (pc' := 9) K dX0_init_8 rfl rfl ?_
  refine x_bipush (pc' := 11) (v := 60) K dX0_init_9 (by decide) rfl ?_
  refine x_callC (pc' := 14) (X := [(b, .inr (0, [.null, .null, .int 0, .int 0]))]) K (mX1_init_60 l D cI cO q5) rfl gX0_init_X1_init uX0_init_m11 uX0_init_yi1 uX0_init_ym1 rfl dsX1_init ⟨rfl, rfl, ⟨Nat.le_of_ble_eq_true rfl, Nat.le_of_ble_eq_true rfl⟩⟩ ⟨Nat.le_of_ble_eq_true rfl, Nat.le_of_ble_eq_true rfl⟩ h rfl (st := [.ref q5, .ref b]) rfl rfl (Nat.le_of_ble_eq_true rfl) dX0_init_11 rfl (fun a11 F11 G11 e11 h => ?_)
  subst e11
  refine x_putF (pc' := 17) (C := RX0) (T := TX0) (N := 4) (ci := 0) (fs := [.null, .null, .int 0, .int 0]) (w' := ([(b, .inr (0, [.ref (a11 0), .null, .int 0, .int 0]))] ++ (w1 60 cI a11 F11 G11))) K hnm hinX0_init_X0 tyX0 tyX0_ok nmX0 0 rfl rfl 0 (by decide) uX0_init_f14 rfl rfl rfl rfl rfl (Nat.le_of_ble_eq_true rfl) rfl dX0_init_14 rfl ?_
  refine x_aload_n (pc' := 18) K dX0_init_17 0 rfl rfl ?_
  refine x_new (pc' := 21) (C := RX1) (T := TX1) (N := 2) (ci := 1) (fs := [.null, .int 0]) K hinX0_init_X1 tyX1 tyX1_ok uX0_init_l9 uX0_init_t1 uX0_init_i1 rfl (by decide +kernel) (Nat.le_of_ble_eq_true rfl) (Nat.le_of_ble_eq_true rfl) dX0_init_18 rfl (fun q18 => ?_)
  refine x_dup (pc' := 22) K dX0_init_21 rfl rfl ?_
  refine x_bipush (pc' := 24) (v := 60) K dX0_init_22 (by decide) rfl ?_
  refine x_callC (pc' := 27) (X := ([(b, .inr (0, [.ref (a11 0), .null, .int 0, .int 0]))] ++ (w1 60 cI a11 F11 G11))) K (mX1_init_60 l D cI cO q18) rfl gX0_init_X1_init uX0_init_m11 uX0_init_yi1 uX0_init_ym1 rfl dsX1_init ⟨rfl, rfl, ⟨Nat.le_of_ble_eq_true rfl, Nat.le_of_ble_eq_true rfl⟩⟩ ⟨Nat.le_of_ble_eq_true rfl, Nat.le_of_ble_eq_true rfl⟩ h rfl (st := [.ref q18, .ref b]) rfl rfl (Nat.le_of_ble_eq_true rfl) dX0_init_24 rfl (fun a24 F24 G24 e24 h => ?_)
  subst e24
  refine x_putF (pc' := 30) (C := RX0) (T := TX0) (N := 4) (ci := 0) (fs := [.ref (a11 0), .null, .int 0, .int 0]) (w' := ([(b, .inr (0, [.ref (a11 0), .ref (a24 0), .int 0, .int 0]))] ++ ((w1 60 cI a11 F11 G11) ++ (w1 60 cI a24 F24 G24)))) K hnm hinX0_init_X0 tyX0 tyX0_ok nmX0 0 rfl rfl 1 (by decide) uX0_init_f20 rfl rfl rfl rfl rfl (Nat.le_of_ble_eq_true rfl) rfl dX0_init_27 rfl ?_
  refine x_aload_n (pc' := 31) K dX0_init_30 0 rfl rfl ?_
  refine x_iconst (pc' := 32) (v := 0) K dX0_init_31 (by decide) rfl ?_
  refine x_put (pc' := 35) (C := RX0) (T := TX0) (N := 4) (ci := 0) (fs := [.ref (a11 0), .ref (a24 0), .int 0, .int 0]) (ws' := ([(b, .inr (0, [.ref (a11 0), .ref (a24 0), .int (0 : Int32), .int 0]))] ++ ((w1 60 cI a11 F11 G11) ++ (w1 60 cI a24 F24 G24)))) K hinX0_init_X0 tyX0 tyX0_ok nmX0 0 rfl rfl 2 (by decide) uX0_init_f23 rfl rfl rfl rfl (Nat.le_of_ble_eq_true rfl) rfl dX0_init_32 rfl ?_
  refine x_aload_n (pc' := 36) K dX0_init_35 0 rfl rfl ?_
  refine x_iconst (pc' := 37) (v := 0) K dX0_init_36 (by decide) rfl ?_
  refine x_put (pc' := 40) (C := RX0) (T := TX0) (N := 4) (ci := 0) (fs := [.ref (a11 0), .ref (a24 0), .int (0 : Int32), .int 0]) (ws' := ([(b, .inr (0, [.ref (a11 0), .ref (a24 0), .int (0 : Int32), .int (0 : Int32)]))] ++ ((w1 60 cI a11 F11 G11) ++ (w1 60 cI a24 F24 G24)))) K hinX0_init_X0 tyX0 tyX0_ok nmX0 0 rfl rfl 3 (by decide) uX0_init_f27 rfl rfl rfl rfl (Nat.le_of_ble_eq_true rfl) rfl dX0_init_37 rfl ?_
  obtain ⟨a, ha⟩ : ∃ a : Nat → Nat, a = (xcat 1 (fun i => ([b] : List Nat).getD i 0) (xcat 2 a11 a24)) := ⟨_, rfl⟩
  have hb : a 0 = b := by rw [ha]; rfl
  refine x_wperm (w' := w0 cI a (xcat 2 (fun k => ([(0 : Int32), (0 : Int32)] : List Int32).getD k 0) (xcat 1 F11 F24)) (xcat 1 G11 G24)) (by rw [ha]; exact xpermC (bl := [[(b, .inr (0, [.ref (a11 0), .ref (a24 0), .int (0 : Int32), .int (0 : Int32)]))], (w1 60 cI a11 F11 G11), (w1 60 cI a24 F24 G24)]) (n := 3) rfl rfl [0, 1, 2] (by decide +kernel) rfl) ?_
  subst hb
  obtain ⟨F0, eF0⟩ : ∃ x : xF, x = (xcat 2 (fun k => ([(0 : Int32), (0 : Int32)] : List Int32).getD k 0) (xcat 1 F11 F24)) := ⟨_, rfl⟩
  obtain ⟨G0, eG0⟩ : ∃ x : xA, x = (xcat 1 G11 G24) := ⟨_, rfl⟩
  refine x_weq (w' := w0 cI a F0 G0) (by subst eF0; subst eG0; rfl) ?_
  replace h := h F0 eF0 G0 eG0
  exact x_cret (wf := fun a F G => w0 cI a F G) K a rfl rfl h dX0_init_40
/-! X4_init -/
abbrev rmX4_init : Room := { frames := 3, cells := 2, slots := 32, locals := 81 }
theorem dsX4_init : xDesc yX4_init 0 := by decide +kernel
theorem uX4_init_m3 : Cond.methodLink RX4 3 objectInit ∈ wsX4_init := nw_in nwl_X4_init nwe_196 (by decide +kernel)
theorem uX4_init_oi : Cond.instanceMethod objectInit ∈ wsX4_init := nw_in nwl_X4_init nwe_74 (by decide +kernel)
theorem uX4_init_oc : Cond.code objectInit ⟨#[0xb1]⟩ 1 none ∈ wsX4_init := nw_in nwl_X4_init nwe_75 (by decide +kernel)
theorem uX4_init_l9 : Cond.classLink RX4 9 RX1 ∈ wsX4_init := nw_in nwl_X4_init nwe_197 (by decide +kernel)
theorem uX4_init_t1 : Cond.instantiable RX1 2 ∈ wsX4_init := nw_in nwl_X4_init nwe_86 (by decide +kernel)
theorem uX4_init_i1 : Cond.initialized RX1 ∈ wsX4_init := nw_in nwl_X4_init nwe_87 (by decide +kernel)
theorem hinX4_init_X1 : ∀ w ∈ wsX10, w ∈ wsX4_init := nw_all nwl_X4_init nwl_X10 (by decide +kernel)
theorem uX4_init_yi1 : Cond.initialized yX1_init.cls ∈ wsX4_init := nw_in nwl_X4_init nwe_87 (by decide +kernel)
theorem uX4_init_ym1 : Cond.instanceMethod yX1_init ∈ wsX4_init := nw_in nwl_X4_init nwe_93 (by decide +kernel)
theorem uX4_init_m11 : Cond.methodLink RX4 11 yX1_init ∈ wsX4_init := nw_in nwl_X4_init nwe_203 (by decide +kernel)
theorem uX4_init_f14 : Cond.fieldLink RX4 14 "PigNinths$Voices" "trace" "LPigNinths$Row;" ∈ wsX4_init := nw_in nwl_X4_init nwe_198 (by decide +kernel)
theorem hinX4_init_X4 : ∀ w ∈ wsX40, w ∈ wsX4_init := nw_all nwl_X4_init nwl_X40 (by decide +kernel)
theorem uX4_init_f20 : Cond.fieldLink RX4 20 "PigNinths$Voices" "parted" "Z" ∈ wsX4_init := nw_in nwl_X4_init nwe_199 (by decide +kernel)
theorem uX4_init_f24 : Cond.fieldLink RX4 24 "PigNinths$Voices" "k" "I" ∈ wsX4_init := nw_in nwl_X4_init nwe_200 (by decide +kernel)
theorem uX4_init_f28 : Cond.fieldLink RX4 28 "PigNinths$Voices" "m" "I" ∈ wsX4_init := nw_in nwl_X4_init nwe_201 (by decide +kernel)
theorem uX4_init_f31 : Cond.fieldLink RX4 31 "PigNinths$Voices" "ownKind" "I" ∈ wsX4_init := nw_in nwl_X4_init nwe_202 (by decide +kernel)
set_option maxHeartbeats 4000000 in
set_option maxRecDepth 100000 in
theorem mX4_init (l : Launch) (D : va_G) (cI cO : ClassId) (b : Nat) : MC l yX4_init wsX4_init rmX4_init D (xtys cI cO) [.ref b] b [(b, .inr (4, [.null, .int 0, .int 0, .int 0, .int 0]))] 2 32 (fun a F G => w4 cI a F G) qX4_init := by
  refine MC_of (cc := cX4_init) (maxL := 1) (own := RX4) (by decide) rfl rfl (by decide) (Nat.le_of_ble_eq_true rfl) ?_
  intro p e s m args below meth c A Q h K hnm
  refine x_locals [0] (L' := [(0, .ref b)]) rfl ?_
  refine x_aload_n (pc' := 1) K dX4_init_0 0 rfl rfl ?_
  refine x_objinit (pc' := 4) K uX4_init_m3 uX4_init_oi uX4_init_oc (Nat.le_of_ble_eq_true rfl) (Nat.le_of_ble_eq_true rfl) dX4_init_1 rfl ?_
  refine x_aload_n (pc' := 5) K dX4_init_4 0 rfl rfl ?_
  refine x_new (pc' := 8) (C := RX1) (T := TX1) (N := 2) (ci := 1) (fs := [.null, .int 0]) K hinX4_init_X1 tyX1 tyX1_ok uX4_init_l9 uX4_init_t1 uX4_init_i1 rfl (by decide +kernel) (Nat.le_of_ble_eq_true rfl) (Nat.le_of_ble_eq_true rfl) dX4_init_5 rfl (fun q5 => ?_)
  refine x_dup (pc' := 9) K dX4_init_8 rfl rfl ?_
  refine x_bipush (pc' := 11) (v := 30) K dX4_init_9 (by decide) rfl ?_
  refine x_callC (pc' := 14) (X := [(b, .inr (4, [.null, .int 0, .int 0, .int 0, .int 0]))]) K (mX1_init_30 l D cI cO q5) rfl gX4_init_X1_init uX4_init_m11 uX4_init_yi1 uX4_init_ym1 rfl dsX1_init ⟨rfl, rfl, ⟨Nat.le_of_ble_eq_true rfl, Nat.le_of_ble_eq_true rfl⟩⟩ ⟨Nat.le_of_ble_eq_true rfl, Nat.le_of_ble_eq_true rfl⟩ h rfl (st := [.ref q5, .ref b]) rfl rfl (Nat.le_of_ble_eq_true rfl) dX4_init_11 rfl (fun a11 F11 G11 e11 h => ?_)
  subst e11
  refine x_putF (pc' := 17) (C := RX4) (T := TX4) (N := 5) (ci := 4) (fs := [.null, .int 0, .int 0, .int 0, .int 0]) (w' := ([(b, .inr (4, [.ref (a11 0), .int 0, .int 0, .int 0, .int 0]))] ++ (w1 30 cI a11 F11 G11))) K hnm hinX4_init_X4 tyX4 tyX4_ok nmX4 0 rfl rfl 0 (by decide) uX4_init_f14 rfl rfl rfl rfl rfl (Nat.le_of_ble_eq_true rfl) rfl dX4_init_14 rfl ?_
  refine x_aload_n (pc' := 18) K dX4_init_17 0 rfl rfl ?_
  refine x_iconst (pc' := 19) (v := 0) K dX4_init_18 (by decide) rfl ?_
  refine x_put (pc' := 22) (C := RX4) (T := TX4) (N := 5) (ci := 4) (fs := [.ref (a11 0), .int 0, .int 0, .int 0, .int 0]) (ws' := ([(b, .inr (4, [.ref (a11 0), .int (0 : Int32), .int 0, .int 0, .int 0]))] ++ (w1 30 cI a11 F11 G11))) K hinX4_init_X4 tyX4 tyX4_ok nmX4 0 rfl rfl 1 (by decide) uX4_init_f20 rfl rfl rfl rfl (Nat.le_of_ble_eq_true rfl) rfl dX4_init_19 rfl ?_
  refine x_aload_n (pc' := 23) K dX4_init_22 0 rfl rfl ?_
  refine x_iconst (pc' := 24) (v := 0) K dX4_init_23 (by decide) rfl ?_
  refine x_put (pc' := 27) (C := RX4) (T := TX4) (N := 5) (ci := 4) (fs := [.ref (a11 0), .int (0 : Int32), .int 0, .int 0, .int 0]) (ws' := ([(b, .inr (4, [.ref (a11 0), .int (0 : Int32), .int (0 : Int32), .int 0, .int 0]))] ++ (w1 30 cI a11 F11 G11))) K hinX4_init_X4 tyX4 tyX4_ok nmX4 0 rfl rfl 2 (by decide) uX4_init_f24 rfl rfl rfl rfl (Nat.le_of_ble_eq_true rfl) rfl dX4_init_24 rfl ?_
  refine x_aload_n (pc' := 28) K dX4_init_27 0 rfl rfl ?_
  refine x_iconst (pc' := 29) (v := 0) K dX4_init_28 (by decide) rfl ?_
  refine x_put (pc' := 32) (C := RX4) (T := TX4) (N := 5) (ci := 4) (fs := [.ref (a11 0), .int (0 : Int32), .int (0 : Int32), .int 0, .int 0]) (ws' := ([(b, .inr (4, [.ref (a11 0), .int (0 : Int32), .int (0 : Int32), .int (0 : Int32), .int 0]))] ++ (w1 30 cI a11 F11 G11))) K hinX4_init_X4 tyX4 tyX4_ok nmX4 0 rfl rfl 3 (by decide) uX4_init_f28 rfl rfl rfl rfl (Nat.le_of_ble_eq_true rfl) rfl dX4_init_29 rfl ?_
  refine x_aload_n (pc' := 33) K dX4_init_32 0 rfl rfl ?_
  refine x_iconst (pc' := 34) (v := 0) K dX4_init_33 (by decide) rfl ?_
  refine x_put (pc' := 37) (C := RX4) (T := TX4) (N := 5) (ci := 4) (fs := [.ref (a11 0), .int (0 : Int32), .int (0 : Int32), .int (0 : Int32), .int 0]) (ws' := ([(b, .inr (4, [.ref (a11 0), .int (0 : Int32), .int (0 : Int32), .int (0 : Int32), .int (0 : Int32)]))] ++ (w1 30 cI a11 F11 G11))) K hinX4_init_X4 tyX4 tyX4_ok nmX4 0 rfl rfl 4 (by decide) uX4_init_f31 rfl rfl rfl rfl (Nat.le_of_ble_eq_true rfl) rfl dX4_init_34 rfl ?_
  obtain ⟨a, ha⟩ : ∃ a : Nat → Nat, a = (xcat 1 (fun i => ([b] : List Nat).getD i 0) a11) := ⟨_, rfl⟩
  have hb : a 0 = b := by rw [ha]; rfl
  refine x_wperm (w' := w4 cI a (xcat 4 (fun k => ([(0 : Int32), (0 : Int32), (0 : Int32), (0 : Int32)] : List Int32).getD k 0) F11) G11) (by rw [ha]; exact xpermC (bl := [[(b, .inr (4, [.ref (a11 0), .int (0 : Int32), .int (0 : Int32), .int (0 : Int32), .int (0 : Int32)]))], (w1 30 cI a11 F11 G11)]) (n := 2) rfl rfl [0, 1] (by decide +kernel) rfl) ?_
  subst hb
  obtain ⟨F0, eF0⟩ : ∃ x : xF, x = (xcat 4 (fun k => ([(0 : Int32), (0 : Int32), (0 : Int32), (0 : Int32)] : List Int32).getD k 0) F11) := ⟨_, rfl⟩
  obtain ⟨G0, eG0⟩ : ∃ x : xA, x = G11 := ⟨_, rfl⟩
  refine x_weq (w' := w4 cI a F0 G0) (by subst eF0; subst eG0; rfl) ?_
  replace h := h F0 eF0 G0 eG0
  exact x_cret (wf := fun a F G => w4 cI a F G) K a rfl rfl h dX4_init_37
/-! X5_init -/
abbrev rmX5_init : Room := { frames := 4, cells := 18, slots := 393, locals := 101 }
theorem dsX5_init : xDesc yX5_init 0 := by decide +kernel
set_option maxHeartbeats 4000000 in
set_option maxRecDepth 100000 in
theorem xpl41 (cI : ClassId) (a : Nat → Nat) (F : xF) (G : xA) : (w5 cI a F G).Perm (xpick (bw5 cI a F G) [0, 2, 3, 4, 5, 6, 7] ++ wa 36 cI (xsub a 8) (xsub F 0) (xsub G 7)) := xperm0 (bl := bw5 cI a F G) (n := 8) rfl rfl [0, 2, 3, 4, 5, 6, 7] [1] (by decide +kernel) rfl rfl
set_option maxHeartbeats 4000000 in
set_option maxRecDepth 100000 in
theorem xpr41 (cI : ClassId) (a : Nat → Nat) (F : xF) (G : xA) (F' : xF) (G' : xA) : (w5 cI a F (xspl G 7 1 G')).Perm (xpick (bw5 cI a F G) [0, 2, 3, 4, 5, 6, 7] ++ wa 36 cI (xsub a 8) F' G') := xperm0 (bl := bw5 cI a F (xspl G 7 1 G')) (n := 8) rfl rfl [0, 2, 3, 4, 5, 6, 7] [1] (by decide +kernel) rfl rfl
theorem uX5_init_m3 : Cond.methodLink RX5 3 objectInit ∈ wsX5_init := nw_in nwl_X5_init nwe_229 (by decide +kernel)
theorem uX5_init_oi : Cond.instanceMethod objectInit ∈ wsX5_init := nw_in nwl_X5_init nwe_74 (by decide +kernel)
theorem uX5_init_oc : Cond.code objectInit ⟨#[0xb1]⟩ 1 none ∈ wsX5_init := nw_in nwl_X5_init nwe_75 (by decide +kernel)
theorem uX5_init_ac : Cond.arrayClass .int ∈ wsX5_init := nw_in nwl_X5_init nwe_81 (by decide +kernel)
theorem uX5_init_f9 : Cond.fieldLink RX5 9 "PigNinths$World" "owner" "[I" ∈ wsX5_init := nw_in nwl_X5_init nwe_230 (by decide +kernel)
theorem hinX5_init_X5 : ∀ w ∈ wsX50, w ∈ wsX5_init := nw_all nwl_X5_init nwl_X50 (by decide +kernel)
theorem uX5_init_f15 : Cond.fieldLink RX5 15 "PigNinths$World" "under" "[I" ∈ wsX5_init := nw_in nwl_X5_init nwe_231 (by decide +kernel)
theorem uX5_init_f18 : Cond.fieldLink RX5 18 "PigNinths$World" "kind" "[I" ∈ wsX5_init := nw_in nwl_X5_init nwe_232 (by decide +kernel)
theorem uX5_init_f21 : Cond.fieldLink RX5 21 "PigNinths$World" "mark" "[I" ∈ wsX5_init := nw_in nwl_X5_init nwe_233 (by decide +kernel)
theorem uX5_init_f24 : Cond.fieldLink RX5 24 "PigNinths$World" "purse" "[I" ∈ wsX5_init := nw_in nwl_X5_init nwe_234 (by decide +kernel)
theorem uX5_init_f27 : Cond.fieldLink RX5 27 "PigNinths$World" "hid" "[I" ∈ wsX5_init := nw_in nwl_X5_init nwe_235 (by decide +kernel)
theorem uX5_init_f30 : Cond.fieldLink RX5 30 "PigNinths$World" "turn" "[I" ∈ wsX5_init := nw_in nwl_X5_init nwe_236 (by decide +kernel)
theorem uX5_init_f33 : Cond.fieldLink RX5 33 "PigNinths$World" "leash" "[I" ∈ wsX5_init := nw_in nwl_X5_init nwe_237 (by decide +kernel)
theorem uX5_init_l36 : Cond.classLink RX5 36 RX3 ∈ wsX5_init := nw_in nwl_X5_init nwe_238 (by decide +kernel)
theorem uX5_init_t3 : Cond.instantiable RX3 2 ∈ wsX5_init := nw_in nwl_X5_init nwe_239 (by decide +kernel)
theorem uX5_init_i3 : Cond.initialized RX3 ∈ wsX5_init := nw_in nwl_X5_init nwe_192 (by decide +kernel)
theorem hinX5_init_X3 : ∀ w ∈ wsX30, w ∈ wsX5_init := nw_all nwl_X5_init nwl_X30 (by decide +kernel)
theorem uX5_init_yi3 : Cond.initialized yX3_init.cls ∈ wsX5_init := nw_in nwl_X5_init nwe_192 (by decide +kernel)
theorem uX5_init_ym3 : Cond.instanceMethod yX3_init ∈ wsX5_init := nw_in nwl_X5_init nwe_249 (by decide +kernel)
theorem uX5_init_f39 : Cond.fieldLink RX5 39 "PigNinths$World" "feeding" "LPigNinths$Text;" ∈ wsX5_init := nw_in nwl_X5_init nwe_240 (by decide +kernel)
theorem uX5_init_f43 : Cond.fieldLink RX5 43 "PigNinths$World" "nose" "LPigNinths$Text;" ∈ wsX5_init := nw_in nwl_X5_init nwe_241 (by decide +kernel)
theorem uX5_init_f46 : Cond.fieldLink RX5 46 "PigNinths$World" "rain" "I" ∈ wsX5_init := nw_in nwl_X5_init nwe_242 (by decide +kernel)
theorem uX5_init_f50 : Cond.fieldLink RX5 50 "PigNinths$World" "place" "I" ∈ wsX5_init := nw_in nwl_X5_init nwe_243 (by decide +kernel)
theorem uX5_init_f53 : Cond.fieldLink RX5 53 "PigNinths$World" "hunger" "I" ∈ wsX5_init := nw_in nwl_X5_init nwe_244 (by decide +kernel)
theorem uX5_init_f56 : Cond.fieldLink RX5 56 "PigNinths$World" "day" "I" ∈ wsX5_init := nw_in nwl_X5_init nwe_245 (by decide +kernel)
theorem uX5_init_f59 : Cond.fieldLink RX5 59 "PigNinths$World" "drawn" "I" ∈ wsX5_init := nw_in nwl_X5_init nwe_246 (by decide +kernel)
theorem uX5_init_f62 : Cond.fieldLink RX5 62 "PigNinths$World" "smell" "[I" ∈ wsX5_init := nw_in nwl_X5_init nwe_247 (by decide +kernel)
theorem uX5_init_f65 : Cond.fieldLink RX5 65 "PigNinths$World" "dug" "[I" ∈ wsX5_init := nw_in nwl_X5_init nwe_248 (by decide +kernel)
set_option maxHeartbeats 4000000 in
set_option maxRecDepth 100000 in
theorem tX5_init_157 (K : XK p m c cX5_init 2 s args wsX5_init RX5 D (xtys cI cO) A meth none) {Q : xF → xA → Prop} : ∀ (n : Nat), ∀ (x1 : Int32) (F : xF) (G : xA), qX5_init_157 Q n x1 F G → XJ p l e rmX5_init s m args below meth c 18 393 (MQ below (xQc D (fun a F G => w5 cI a F G) A (a 0) Q) args s 18 393 A) D (xtys cI cO) A 2 (w5 cI a F G) 157 [(0, .ref (a 0)), (1, .int x1)] [] := by
  intro n
  induction n with
  | zero =>
    intro x1 F G h
    exact False.elim h
  | succ n ih =>
    intro x1 F G h
    refine x_iload_n (pc' := 158) K dX5_init_157 1 rfl rfl ?_
    refine x_bipush (pc' := 160) (v := 9) K dX5_init_158 (by decide) rfl ?_
    refine x_icmp_ge (tgt := 176) (pc' := 163) K dX5_init_160 rfl rfl (fun c160 => ?_) (fun c160 => ?_)
    · replace h := h.1 c160
      refine x_aload_n (pc' := 177) K dX5_init_176 0 rfl rfl ?_
      refine xw5_0g_leash (pc' := 180) K hinX5_init_X5 uX5_init_f33 dX5_init_177 rfl ?_
      refine x_iconst (pc' := 181) (v := 4) K dX5_init_180 (by decide) rfl ?_
      refine x_subVS (pc' := 184) (wn := fun F' G' => w5 cI a F (xspl G 7 1 G')) K (mJ7_fill_53178 l D cI cO (xsub a 8) 36 _) rfl gX5_init_J7_fill_53178 dsJ7_fill_53178 ⟨rfl, rfl, ⟨Nat.le_of_ble_eq_true rfl, Nat.le_of_ble_eq_true rfl⟩, Nat.le_of_ble_eq_true rfl, Nat.le_of_ble_eq_true rfl⟩ h (xpl41 cI a _ _) (fun F' G' => xpr41 cI a _ _ F' G') (st := []) rfl rfl (Nat.le_of_ble_eq_true rfl) dX5_init_181 rfl (fun F181 G181 h => ?_)
      obtain ⟨H181, eH181⟩ : ∃ x : xA, x = (xspl G 7 1 G181) := ⟨_, rfl⟩
      refine x_weq (w' := w5 cI a F H181) (by subst eH181; rfl) ?_
      replace h := h H181 eH181
      exact x_cret (wf := fun a F G => w5 cI a F G) K a rfl rfl h dX5_init_184
    · replace h := h.2 c160
      refine x_aload_n (pc' := 164) K dX5_init_163 0 rfl rfl ?_
      refine xw5_0g_turn (pc' := 167) K hinX5_init_X5 uX5_init_f30 dX5_init_164 rfl ?_
      refine x_iload_n (pc' := 168) K dX5_init_167 1 rfl rfl ?_
      refine x_iload_n (pc' := 169) K dX5_init_168 1 rfl rfl ?_
      obtain ⟨i169, h⟩ := h
      refine xw5_7s (pc' := 170) K i169 rfl dX5_init_169 rfl (fun G169 eG169 => ?_)
      replace h := h G169 eG169
      refine x_iinc (pc' := 173) (v := _ + (1 : Int32)) K dX5_init_170 1 rfl rfl (by decide) [1, 0] (L' := [(0, .ref (a 0)), (1, .int _)]) rfl rfl ?_
      refine x_goto (tgt := 157) K dX5_init_173 rfl ?_
      exact ih _ _ _ h
set_option maxHeartbeats 4000000 in
set_option maxRecDepth 100000 in
theorem tX5_init_133 (K : XK p m c cX5_init 2 s args wsX5_init RX5 D (xtys cI cO) A meth none) {Q : xF → xA → Prop} : ∀ (n : Nat), ∀ (x1 : Int32) (F : xF) (G : xA), qX5_init_133 Q n x1 F G → XJ p l e rmX5_init s m args below meth c 18 393 (MQ below (xQc D (fun a F G => w5 cI a F G) A (a 0) Q) args s 18 393 A) D (xtys cI cO) A 2 (w5 cI a F G) 133 [(0, .ref (a 0)), (1, .int x1)] [] := by
  intro n
  induction n with
  | zero =>
    intro x1 F G h
    exact False.elim h
  | succ n ih =>
    intro x1 F G h
    refine x_iload_n (pc' := 134) K dX5_init_133 1 rfl rfl ?_
    refine x_bipush (pc' := 136) (v := 16) K dX5_init_134 (by decide) rfl ?_
    refine x_icmp_ge (tgt := 155) (pc' := 139) K dX5_init_136 rfl rfl (fun c136 => ?_) (fun c136 => ?_)
    · replace h := h.1 c136
      refine x_iconst (pc' := 156) (v := 0) K dX5_init_155 (by decide) rfl ?_
      refine x_istore_n (pc' := 157) (i := 1) K dX5_init_156 rfl (by decide) [1, 0] (L' := [(0, .ref (a 0)), (1, .int _)]) rfl rfl ?_
      obtain ⟨n157, h⟩ := h
      exact tX5_init_157 K n157 _ _ _ h
    · replace h := h.2 c136
      refine x_aload_n (pc' := 140) K dX5_init_139 0 rfl rfl ?_
      refine xw5_0g_owner (pc' := 143) K hinX5_init_X5 uX5_init_f9 dX5_init_140 rfl ?_
      refine x_iload_n (pc' := 144) K dX5_init_143 1 rfl rfl ?_
      refine x_iload_n (pc' := 145) K dX5_init_144 1 rfl rfl ?_
      refine x_bipush (pc' := 147) (v := 9) K dX5_init_145 (by decide) rfl ?_
      refine x_irem (pc' := 148) K dX5_init_147 (by decide) rfl ?_
      obtain ⟨i148, h⟩ := h
      refine xw5_1s (pc' := 149) K i148 rfl dX5_init_148 rfl (fun G148 eG148 => ?_)
      replace h := h G148 eG148
      refine x_iinc (pc' := 152) (v := _ + (1 : Int32)) K dX5_init_149 1 rfl rfl (by decide) [1, 0] (L' := [(0, .ref (a 0)), (1, .int _)]) rfl rfl ?_
      refine x_goto (tgt := 133) K dX5_init_152 rfl ?_
      exact ih _ _ _ h
set_option maxHeartbeats 4000000 in
set_option maxRecDepth 100000 in
theorem mX5_init (l : Launch) (D : va_G) (cI cO : ClassId) (b : Nat) : MC l yX5_init wsX5_init rmX5_init D (xtys cI cO) [.ref b] b [(b, .inr (5, [.null, .null, .null, .null, .null, .null, .null, .null, .null, .null, .int 0, .int 0, .int 0, .int 0, .int 0, .null, .null]))] 18 393 (fun a F G => w5 cI a F G) qX5_init := by
  refine MC_of (cc := cX5_init) (maxL := 2) (own := RX5) (by decide) rfl rfl (by decide) (Nat.le_of_ble_eq_true rfl) ?_
  intro p e s m args below meth c A Q h K hnm
  refine x_locals [0] (L' := [(0, .ref b)]) rfl ?_
  refine x_aload_n (pc' := 1) K dX5_init_0 0 rfl rfl ?_
  refine x_objinit (pc' := 4) K uX5_init_m3 uX5_init_oi uX5_init_oc (Nat.le_of_ble_eq_true rfl) (Nat.le_of_ble_eq_true rfl) dX5_init_1 rfl ?_
  refine x_aload_n (pc' := 5) K dX5_init_4 0 rfl rfl ?_
  refine x_bipush (pc' := 7) (v := 16) K dX5_init_5 (by decide) rfl ?_
  refine x_newa (pc' := 9) (N := 16) K 0 rfl uX5_init_ac (by decide) (by decide +kernel) (Nat.le_of_ble_eq_true rfl) (Nat.le_of_ble_eq_true rfl) (Nat.le_of_ble_eq_true rfl) dX5_init_7 rfl (fun q7 => ?_)
  refine x_putF (pc' := 12) (C := RX5) (T := TX5) (N := 17) (ci := 5) (fs := [.null, .null, .null, .null, .null, .null, .null, .null, .null, .null, .int 0, .int 0, .int 0, .int 0, .int 0, .null, .null]) (w' := [(b, .inr (5, [.ref q7, .null, .null, .null, .null, .null, .null, .null, .null, .null, .int 0, .int 0, .int 0, .int 0, .int 0, .null, .null])), (q7, .inl (cI, 16, .inl (fun _ => 0)))]) K hnm hinX5_init_X5 tyX5 tyX5_ok nmX5 0 rfl rfl 0 (by decide) uX5_init_f9 rfl rfl rfl rfl rfl (Nat.le_of_ble_eq_true rfl) rfl dX5_init_9 rfl ?_
  refine x_aload_n (pc' := 13) K dX5_init_12 0 rfl rfl ?_
  refine x_bipush (pc' := 15) (v := 16) K dX5_init_13 (by decide) rfl ?_
  refine x_newa (pc' := 17) (N := 16) K 0 rfl uX5_init_ac (by decide) (by decide +kernel) (Nat.le_of_ble_eq_true rfl) (Nat.le_of_ble_eq_true rfl) (Nat.le_of_ble_eq_true rfl) dX5_init_15 rfl (fun q15 => ?_)
  refine x_putF (pc' := 20) (C := RX5) (T := TX5) (N := 17) (ci := 5) (fs := [.ref q7, .null, .null, .null, .null, .null, .null, .null, .null, .null, .int 0, .int 0, .int 0, .int 0, .int 0, .null, .null]) (w' := [(b, .inr (5, [.ref q7, .ref q15, .null, .null, .null, .null, .null, .null, .null, .null, .int 0, .int 0, .int 0, .int 0, .int 0, .null, .null])), (q7, .inl (cI, 16, .inl (fun _ => 0))), (q15, .inl (cI, 16, .inl (fun _ => 0)))]) K hnm hinX5_init_X5 tyX5 tyX5_ok nmX5 0 rfl rfl 1 (by decide) uX5_init_f15 rfl rfl rfl rfl rfl (Nat.le_of_ble_eq_true rfl) rfl dX5_init_17 rfl ?_
  refine x_aload_n (pc' := 21) K dX5_init_20 0 rfl rfl ?_
  refine x_bipush (pc' := 23) (v := 9) K dX5_init_21 (by decide) rfl ?_
  refine x_newa (pc' := 25) (N := 9) K 0 rfl uX5_init_ac (by decide) (by decide +kernel) (Nat.le_of_ble_eq_true rfl) (Nat.le_of_ble_eq_true rfl) (Nat.le_of_ble_eq_true rfl) dX5_init_23 rfl (fun q23 => ?_)
  refine x_putF (pc' := 28) (C := RX5) (T := TX5) (N := 17) (ci := 5) (fs := [.ref q7, .ref q15, .null, .null, .null, .null, .null, .null, .null, .null, .int 0, .int 0, .int 0, .int 0, .int 0, .null, .null]) (w' := [(b, .inr (5, [.ref q7, .ref q15, .ref q23, .null, .null, .null, .null, .null, .null, .null, .int 0, .int 0, .int 0, .int 0, .int 0, .null, .null])), (q7, .inl (cI, 16, .inl (fun _ => 0))), (q15, .inl (cI, 16, .inl (fun _ => 0))), (q23, .inl (cI, 9, .inl (fun _ => 0)))]) K hnm hinX5_init_X5 tyX5 tyX5_ok nmX5 0 rfl rfl 2 (by decide) uX5_init_f18 rfl rfl rfl rfl rfl (Nat.le_of_ble_eq_true rfl) rfl dX5_init_25 rfl ?_
  refine x_aload_n (pc' := 29) K dX5_init_28 0 rfl rfl ?_
  refine x_bipush (pc' := 31) (v := 9) K dX5_init_29 (by decide) rfl ?_
  refine x_newa (pc' := 33) (N := 9) K 0 rfl uX5_init_ac (by decide) (by decide +kernel) (Nat.le_of_ble_eq_true rfl) (Nat.le_of_ble_eq_true rfl) (Nat.le_of_ble_eq_true rfl) dX5_init_31 rfl (fun q31 => ?_)
  refine x_putF (pc' := 36) (C := RX5) (T := TX5) (N := 17) (ci := 5) (fs := [.ref q7, .ref q15, .ref q23, .null, .null, .null, .null, .null, .null, .null, .int 0, .int 0, .int 0, .int 0, .int 0, .null, .null]) (w' := [(b, .inr (5, [.ref q7, .ref q15, .ref q23, .ref q31, .null, .null, .null, .null, .null, .null, .int 0, .int 0, .int 0, .int 0, .int 0, .null, .null])), (q7, .inl (cI, 16, .inl (fun _ => 0))), (q15, .inl (cI, 16, .inl (fun _ => 0))), (q23, .inl (cI, 9, .inl (fun _ => 0))), (q31, .inl (cI, 9, .inl (fun _ => 0)))]) K hnm hinX5_init_X5 tyX5 tyX5_ok nmX5 0 rfl rfl 3 (by decide) uX5_init_f21 rfl rfl rfl rfl rfl (Nat.le_of_ble_eq_true rfl) rfl dX5_init_33 rfl ?_
  refine x_aload_n (pc' := 37) K dX5_init_36 0 rfl rfl ?_
  refine x_bipush (pc' := 39) (v := 9) K dX5_init_37 (by decide) rfl ?_
  refine x_newa (pc' := 41) (N := 9) K 0 rfl uX5_init_ac (by decide) (by decide +kernel) (Nat.le_of_ble_eq_true rfl) (Nat.le_of_ble_eq_true rfl) (Nat.le_of_ble_eq_true rfl) dX5_init_39 rfl (fun q39 => ?_)
  refine x_putF (pc' := 44) (C := RX5) (T := TX5) (N := 17) (ci := 5) (fs := [.ref q7, .ref q15, .ref q23, .ref q31, .null, .null, .null, .null, .null, .null, .int 0, .int 0, .int 0, .int 0, .int 0, .null, .null]) (w' := [(b, .inr (5, [.ref q7, .ref q15, .ref q23, .ref q31, .ref q39, .null, .null, .null, .null, .null, .int 0, .int 0, .int 0, .int 0, .int 0, .null, .null])), (q7, .inl (cI, 16, .inl (fun _ => 0))), (q15, .inl (cI, 16, .inl (fun _ => 0))), (q23, .inl (cI, 9, .inl (fun _ => 0))), (q31, .inl (cI, 9, .inl (fun _ => 0))), (q39, .inl (cI, 9, .inl (fun _ => 0)))]) K hnm hinX5_init_X5 tyX5 tyX5_ok nmX5 0 rfl rfl 4 (by decide) uX5_init_f24 rfl rfl rfl rfl rfl (Nat.le_of_ble_eq_true rfl) rfl dX5_init_41 rfl ?_
  refine x_aload_n (pc' := 45) K dX5_init_44 0 rfl rfl ?_
  refine x_bipush (pc' := 47) (v := 9) K dX5_init_45 (by decide) rfl ?_
  refine x_newa (pc' := 49) (N := 9) K 0 rfl uX5_init_ac (by decide) (by decide +kernel) (Nat.le_of_ble_eq_true rfl) (Nat.le_of_ble_eq_true rfl) (Nat.le_of_ble_eq_true rfl) dX5_init_47 rfl (fun q47 => ?_)
  refine x_putF (pc' := 52) (C := RX5) (T := TX5) (N := 17) (ci := 5) (fs := [.ref q7, .ref q15, .ref q23, .ref q31, .ref q39, .null, .null, .null, .null, .null, .int 0, .int 0, .int 0, .int 0, .int 0, .null, .null]) (w' := [(b, .inr (5, [.ref q7, .ref q15, .ref q23, .ref q31, .ref q39, .ref q47, .null, .null, .null, .null, .int 0, .int 0, .int 0, .int 0, .int 0, .null, .null])), (q7, .inl (cI, 16, .inl (fun _ => 0))), (q15, .inl (cI, 16, .inl (fun _ => 0))), (q23, .inl (cI, 9, .inl (fun _ => 0))), (q31, .inl (cI, 9, .inl (fun _ => 0))), (q39, .inl (cI, 9, .inl (fun _ => 0))), (q47, .inl (cI, 9, .inl (fun _ => 0)))]) K hnm hinX5_init_X5 tyX5 tyX5_ok nmX5 0 rfl rfl 5 (by decide) uX5_init_f27 rfl rfl rfl rfl rfl (Nat.le_of_ble_eq_true rfl) rfl dX5_init_49 rfl ?_
  refine x_aload_n (pc' := 53) K dX5_init_52 0 rfl rfl ?_
  refine x_bipush (pc' := 55) (v := 9) K dX5_init_53 (by decide) rfl ?_
  refine x_newa (pc' := 57) (N := 9) K 0 rfl uX5_init_ac (by decide) (by decide +kernel) (Nat.le_of_ble_eq_true rfl) (Nat.le_of_ble_eq_true rfl) (Nat.le_of_ble_eq_true rfl) dX5_init_55 rfl (fun q55 => ?_)
  refine x_putF (pc' := 60) (C := RX5) (T := TX5) (N := 17) (ci := 5) (fs := [.ref q7, .ref q15, .ref q23, .ref q31, .ref q39, .ref q47, .null, .null, .null, .null, .int 0, .int 0, .int 0, .int 0, .int 0, .null, .null]) (w' := [(b, .inr (5, [.ref q7, .ref q15, .ref q23, .ref q31, .ref q39, .ref q47, .ref q55, .null, .null, .null, .int 0, .int 0, .int 0, .int 0, .int 0, .null, .null])), (q7, .inl (cI, 16, .inl (fun _ => 0))), (q15, .inl (cI, 16, .inl (fun _ => 0))), (q23, .inl (cI, 9, .inl (fun _ => 0))), (q31, .inl (cI, 9, .inl (fun _ => 0))), (q39, .inl (cI, 9, .inl (fun _ => 0))), (q47, .inl (cI, 9, .inl (fun _ => 0))), (q55, .inl (cI, 9, .inl (fun _ => 0)))]) K hnm hinX5_init_X5 tyX5 tyX5_ok nmX5 0 rfl rfl 6 (by decide) uX5_init_f30 rfl rfl rfl rfl rfl (Nat.le_of_ble_eq_true rfl) rfl dX5_init_57 rfl ?_
  refine x_aload_n (pc' := 61) K dX5_init_60 0 rfl rfl ?_
  refine x_bipush (pc' := 63) (v := 36) K dX5_init_61 (by decide) rfl ?_
  refine x_newa (pc' := 65) (N := 36) K 0 rfl uX5_init_ac (by decide) (by decide +kernel) (Nat.le_of_ble_eq_true rfl) (Nat.le_of_ble_eq_true rfl) (Nat.le_of_ble_eq_true rfl) dX5_init_63 rfl (fun q63 => ?_)
  refine x_putF (pc' := 68) (C := RX5) (T := TX5) (N := 17) (ci := 5) (fs := [.ref q7, .ref q15, .ref q23, .ref q31, .ref q39, .ref q47, .ref q55, .null, .null, .null, .int 0, .int 0, .int 0, .int 0, .int 0, .null, .null]) (w' := [(b, .inr (5, [.ref q7, .ref q15, .ref q23, .ref q31, .ref q39, .ref q47, .ref q55, .ref q63, .null, .null, .int 0, .int 0, .int 0, .int 0, .int 0, .null, .null])), (q7, .inl (cI, 16, .inl (fun _ => 0))), (q15, .inl (cI, 16, .inl (fun _ => 0))), (q23, .inl (cI, 9, .inl (fun _ => 0))), (q31, .inl (cI, 9, .inl (fun _ => 0))), (q39, .inl (cI, 9, .inl (fun _ => 0))), (q47, .inl (cI, 9, .inl (fun _ => 0))), (q55, .inl (cI, 9, .inl (fun _ => 0))), (q63, .inl (cI, 36, .inl (fun _ => 0)))]) K hnm hinX5_init_X5 tyX5 tyX5_ok nmX5 0 rfl rfl 7 (by decide) uX5_init_f33 rfl rfl rfl rfl rfl (Nat.le_of_ble_eq_true rfl) rfl dX5_init_65 rfl ?_
  refine x_aload_n (pc' := 69) K dX5_init_68 0 rfl rfl ?_
  refine x_new (pc' := 72) (C := RX3) (T := TX3) (N := 2) (ci := 3) (fs := [.null, .null]) K hinX5_init_X3 tyX3 tyX3_ok uX5_init_l36 uX5_init_t3 uX5_init_i3 rfl (by decide +kernel) (Nat.le_of_ble_eq_true rfl) (Nat.le_of_ble_eq_true rfl) dX5_init_69 rfl (fun q69 => ?_)
  refine x_dup (pc' := 73) K dX5_init_72 rfl rfl ?_
  refine x_callCN (pc' := 76) (X := (((((((([(b, .inr (5, [.ref q7, .ref q15, .ref q23, .ref q31, .ref q39, .ref q47, .ref q55, .ref q63, .null, .null, .int 0, .int 0, .int 0, .int 0, .int 0, .null, .null]))] ++ [(q7, .inl (cI, 16, .inl (fun _ => 0)))]) ++ [(q15, .inl (cI, 16, .inl (fun _ => 0)))]) ++ [(q23, .inl (cI, 9, .inl (fun _ => 0)))]) ++ [(q31, .inl (cI, 9, .inl (fun _ => 0)))]) ++ [(q39, .inl (cI, 9, .inl (fun _ => 0)))]) ++ [(q47, .inl (cI, 9, .inl (fun _ => 0)))]) ++ [(q55, .inl (cI, 9, .inl (fun _ => 0)))]) ++ [(q63, .inl (cI, 36, .inl (fun _ => 0)))])) K (mX3_init l D cI cO q69) rfl gX5_init_X3_init_n38 K.2.2.2.2.2.2.2.2.2.2.1 uX5_init_yi3 uX5_init_ym3 rfl dsX3_init ⟨rfl, rfl, ⟨Nat.le_of_ble_eq_true rfl, Nat.le_of_ble_eq_true rfl⟩⟩ ⟨Nat.le_of_ble_eq_true rfl, Nat.le_of_ble_eq_true rfl⟩ h rfl (st := [.ref q69, .ref b]) rfl rfl (Nat.le_of_ble_eq_true rfl) dX5_init_73 rfl (fun a73 F73 G73 e73 h => ?_)
  subst e73
  refine x_putF (pc' := 79) (C := RX5) (T := TX5) (N := 17) (ci := 5) (fs := [.ref q7, .ref q15, .ref q23, .ref q31, .ref q39, .ref q47, .ref q55, .ref q63, .null, .null, .int 0, .int 0, .int 0, .int 0, .int 0, .null, .null]) (w' := ([(b, .inr (5, [.ref q7, .ref q15, .ref q23, .ref q31, .ref q39, .ref q47, .ref q55, .ref q63, .ref (a73 0), .null, .int 0, .int 0, .int 0, .int 0, .int 0, .null, .null])), (q7, .inl (cI, 16, .inl (fun _ => 0))), (q15, .inl (cI, 16, .inl (fun _ => 0))), (q23, .inl (cI, 9, .inl (fun _ => 0))), (q31, .inl (cI, 9, .inl (fun _ => 0))), (q39, .inl (cI, 9, .inl (fun _ => 0))), (q47, .inl (cI, 9, .inl (fun _ => 0))), (q55, .inl (cI, 9, .inl (fun _ => 0))), (q63, .inl (cI, 36, .inl (fun _ => 0)))] ++ (w3 cI a73 F73 G73))) K hnm hinX5_init_X5 tyX5 tyX5_ok nmX5 0 rfl rfl 8 (by decide) uX5_init_f39 rfl rfl rfl rfl rfl (Nat.le_of_ble_eq_true rfl) rfl dX5_init_76 rfl ?_
  refine x_aload_n (pc' := 80) K dX5_init_79 0 rfl rfl ?_
  refine x_new (pc' := 83) (C := RX3) (T := TX3) (N := 2) (ci := 3) (fs := [.null, .null]) K hinX5_init_X3 tyX3 tyX3_ok uX5_init_l36 uX5_init_t3 uX5_init_i3 rfl (by decide +kernel) (Nat.le_of_ble_eq_true rfl) (Nat.le_of_ble_eq_true rfl) dX5_init_80 rfl (fun q80 => ?_)
  refine x_dup (pc' := 84) K dX5_init_83 rfl rfl ?_
  refine x_callCN (pc' := 87) (X := ((((((((([(b, .inr (5, [.ref q7, .ref q15, .ref q23, .ref q31, .ref q39, .ref q47, .ref q55, .ref q63, .ref (a73 0), .null, .int 0, .int 0, .int 0, .int 0, .int 0, .null, .null]))] ++ [(q7, .inl (cI, 16, .inl (fun _ => 0)))]) ++ [(q15, .inl (cI, 16, .inl (fun _ => 0)))]) ++ [(q23, .inl (cI, 9, .inl (fun _ => 0)))]) ++ [(q31, .inl (cI, 9, .inl (fun _ => 0)))]) ++ [(q39, .inl (cI, 9, .inl (fun _ => 0)))]) ++ [(q47, .inl (cI, 9, .inl (fun _ => 0)))]) ++ [(q55, .inl (cI, 9, .inl (fun _ => 0)))]) ++ [(q63, .inl (cI, 36, .inl (fun _ => 0)))]) ++ (w3 cI a73 F73 G73))) K (mX3_init l D cI cO q80) rfl gX5_init_X3_init_n38 K.2.2.2.2.2.2.2.2.2.2.1 uX5_init_yi3 uX5_init_ym3 rfl dsX3_init ⟨rfl, rfl, ⟨Nat.le_of_ble_eq_true rfl, Nat.le_of_ble_eq_true rfl⟩⟩ ⟨Nat.le_of_ble_eq_true rfl, Nat.le_of_ble_eq_true rfl⟩ h rfl (st := [.ref q80, .ref b]) rfl rfl (Nat.le_of_ble_eq_true rfl) dX5_init_84 rfl (fun a84 F84 G84 e84 h => ?_)
  subst e84
  refine x_putF (pc' := 90) (C := RX5) (T := TX5) (N := 17) (ci := 5) (fs := [.ref q7, .ref q15, .ref q23, .ref q31, .ref q39, .ref q47, .ref q55, .ref q63, .ref (a73 0), .null, .int 0, .int 0, .int 0, .int 0, .int 0, .null, .null]) (w' := ([(b, .inr (5, [.ref q7, .ref q15, .ref q23, .ref q31, .ref q39, .ref q47, .ref q55, .ref q63, .ref (a73 0), .ref (a84 0), .int 0, .int 0, .int 0, .int 0, .int 0, .null, .null])), (q7, .inl (cI, 16, .inl (fun _ => 0))), (q15, .inl (cI, 16, .inl (fun _ => 0))), (q23, .inl (cI, 9, .inl (fun _ => 0))), (q31, .inl (cI, 9, .inl (fun _ => 0))), (q39, .inl (cI, 9, .inl (fun _ => 0))), (q47, .inl (cI, 9, .inl (fun _ => 0))), (q55, .inl (cI, 9, .inl (fun _ => 0))), (q63, .inl (cI, 36, .inl (fun _ => 0)))] ++ ((w3 cI a73 F73 G73) ++ (w3 cI a84 F84 G84)))) K hnm hinX5_init_X5 tyX5 tyX5_ok nmX5 0 rfl rfl 9 (by decide) uX5_init_f43 rfl rfl rfl rfl rfl (Nat.le_of_ble_eq_true rfl) rfl dX5_init_87 rfl ?_
  refine x_aload_n (pc' := 91) K dX5_init_90 0 rfl rfl ?_
  refine x_iconst (pc' := 92) (v := 1) K dX5_init_91 (by decide) rfl ?_
  refine x_put (pc' := 95) (C := RX5) (T := TX5) (N := 17) (ci := 5) (fs := [.ref q7, .ref q15, .ref q23, .ref q31, .ref q39, .ref q47, .ref q55, .ref q63, .ref (a73 0), .ref (a84 0), .int 0, .int 0, .int 0, .int 0, .int 0, .null, .null]) (ws' := ([(b, .inr (5, [.ref q7, .ref q15, .ref q23, .ref q31, .ref q39, .ref q47, .ref q55, .ref q63, .ref (a73 0), .ref (a84 0), .int (1 : Int32), .int 0, .int 0, .int 0, .int 0, .null, .null])), (q7, .inl (cI, 16, .inl (fun _ => 0))), (q15, .inl (cI, 16, .inl (fun _ => 0))), (q23, .inl (cI, 9, .inl (fun _ => 0))), (q31, .inl (cI, 9, .inl (fun _ => 0))), (q39, .inl (cI, 9, .inl (fun _ => 0))), (q47, .inl (cI, 9, .inl (fun _ => 0))), (q55, .inl (cI, 9, .inl (fun _ => 0))), (q63, .inl (cI, 36, .inl (fun _ => 0)))] ++ ((w3 cI a73 F73 G73) ++ (w3 cI a84 F84 G84)))) K hinX5_init_X5 tyX5 tyX5_ok nmX5 0 rfl rfl 10 (by decide) uX5_init_f46 rfl rfl rfl rfl (Nat.le_of_ble_eq_true rfl) rfl dX5_init_92 rfl ?_
  refine x_aload_n (pc' := 96) K dX5_init_95 0 rfl rfl ?_
  refine x_iconst (pc' := 97) (v := 0) K dX5_init_96 (by decide) rfl ?_
  refine x_put (pc' := 100) (C := RX5) (T := TX5) (N := 17) (ci := 5) (fs := [.ref q7, .ref q15, .ref q23, .ref q31, .ref q39, .ref q47, .ref q55, .ref q63, .ref (a73 0), .ref (a84 0), .int (1 : Int32), .int 0, .int 0, .int 0, .int 0, .null, .null]) (ws' := ([(b, .inr (5, [.ref q7, .ref q15, .ref q23, .ref q31, .ref q39, .ref q47, .ref q55, .ref q63, .ref (a73 0), .ref (a84 0), .int (1 : Int32), .int (0 : Int32), .int 0, .int 0, .int 0, .null, .null])), (q7, .inl (cI, 16, .inl (fun _ => 0))), (q15, .inl (cI, 16, .inl (fun _ => 0))), (q23, .inl (cI, 9, .inl (fun _ => 0))), (q31, .inl (cI, 9, .inl (fun _ => 0))), (q39, .inl (cI, 9, .inl (fun _ => 0))), (q47, .inl (cI, 9, .inl (fun _ => 0))), (q55, .inl (cI, 9, .inl (fun _ => 0))), (q63, .inl (cI, 36, .inl (fun _ => 0)))] ++ ((w3 cI a73 F73 G73) ++ (w3 cI a84 F84 G84)))) K hinX5_init_X5 tyX5 tyX5_ok nmX5 0 rfl rfl 11 (by decide) uX5_init_f50 rfl rfl rfl rfl (Nat.le_of_ble_eq_true rfl) rfl dX5_init_97 rfl ?_
  refine x_aload_n (pc' := 101) K dX5_init_100 0 rfl rfl ?_
  refine x_iconst (pc' := 102) (v := 5) K dX5_init_101 (by decide) rfl ?_
  refine x_put (pc' := 105) (C := RX5) (T := TX5) (N := 17) (ci := 5) (fs := [.ref q7, .ref q15, .ref q23, .ref q31, .ref q39, .ref q47, .ref q55, .ref q63, .ref (a73 0), .ref (a84 0), .int (1 : Int32), .int (0 : Int32), .int 0, .int 0, .int 0, .null, .null]) (ws' := ([(b, .inr (5, [.ref q7, .ref q15, .ref q23, .ref q31, .ref q39, .ref q47, .ref q55, .ref q63, .ref (a73 0), .ref (a84 0), .int (1 : Int32), .int (0 : Int32), .int (5 : Int32), .int 0, .int 0, .null, .null])), (q7, .inl (cI, 16, .inl (fun _ => 0))), (q15, .inl (cI, 16, .inl (fun _ => 0))), (q23, .inl (cI, 9, .inl (fun _ => 0))), (q31, .inl (cI, 9, .inl (fun _ => 0))), (q39, .inl (cI, 9, .inl (fun _ => 0))), (q47, .inl (cI, 9, .inl (fun _ => 0))), (q55, .inl (cI, 9, .inl (fun _ => 0))), (q63, .inl (cI, 36, .inl (fun _ => 0)))] ++ ((w3 cI a73 F73 G73) ++ (w3 cI a84 F84 G84)))) K hinX5_init_X5 tyX5 tyX5_ok nmX5 0 rfl rfl 12 (by decide) uX5_init_f53 rfl rfl rfl rfl (Nat.le_of_ble_eq_true rfl) rfl dX5_init_102 rfl ?_
  refine x_aload_n (pc' := 106) K dX5_init_105 0 rfl rfl ?_
  refine x_iconst (pc' := 107) (v := 0) K dX5_init_106 (by decide) rfl ?_
  refine x_put (pc' := 110) (C := RX5) (T := TX5) (N := 17) (ci := 5) (fs := [.ref q7, .ref q15, .ref q23, .ref q31, .ref q39, .ref q47, .ref q55, .ref q63, .ref (a73 0), .ref (a84 0), .int (1 : Int32), .int (0 : Int32), .int (5 : Int32), .int 0, .int 0, .null, .null]) (ws' := ([(b, .inr (5, [.ref q7, .ref q15, .ref q23, .ref q31, .ref q39, .ref q47, .ref q55, .ref q63, .ref (a73 0), .ref (a84 0), .int (1 : Int32), .int (0 : Int32), .int (5 : Int32), .int (0 : Int32), .int 0, .null, .null])), (q7, .inl (cI, 16, .inl (fun _ => 0))), (q15, .inl (cI, 16, .inl (fun _ => 0))), (q23, .inl (cI, 9, .inl (fun _ => 0))), (q31, .inl (cI, 9, .inl (fun _ => 0))), (q39, .inl (cI, 9, .inl (fun _ => 0))), (q47, .inl (cI, 9, .inl (fun _ => 0))), (q55, .inl (cI, 9, .inl (fun _ => 0))), (q63, .inl (cI, 36, .inl (fun _ => 0)))] ++ ((w3 cI a73 F73 G73) ++ (w3 cI a84 F84 G84)))) K hinX5_init_X5 tyX5 tyX5_ok nmX5 0 rfl rfl 13 (by decide) uX5_init_f56 rfl rfl rfl rfl (Nat.le_of_ble_eq_true rfl) rfl dX5_init_107 rfl ?_
  refine x_aload_n (pc' := 111) K dX5_init_110 0 rfl rfl ?_
  refine x_iconst (pc' := 112) (v := 1) K dX5_init_111 (by decide) rfl ?_
  refine x_put (pc' := 115) (C := RX5) (T := TX5) (N := 17) (ci := 5) (fs := [.ref q7, .ref q15, .ref q23, .ref q31, .ref q39, .ref q47, .ref q55, .ref q63, .ref (a73 0), .ref (a84 0), .int (1 : Int32), .int (0 : Int32), .int (5 : Int32), .int (0 : Int32), .int 0, .null, .null]) (ws' := ([(b, .inr (5, [.ref q7, .ref q15, .ref q23, .ref q31, .ref q39, .ref q47, .ref q55, .ref q63, .ref (a73 0), .ref (a84 0), .int (1 : Int32), .int (0 : Int32), .int (5 : Int32), .int (0 : Int32), .int (1 : Int32), .null, .null])), (q7, .inl (cI, 16, .inl (fun _ => 0))), (q15, .inl (cI, 16, .inl (fun _ => 0))), (q23, .inl (cI, 9, .inl (fun _ => 0))), (q31, .inl (cI, 9, .inl (fun _ => 0))), (q39, .inl (cI, 9, .inl (fun _ => 0))), (q47, .inl (cI, 9, .inl (fun _ => 0))), (q55, .inl (cI, 9, .inl (fun _ => 0))), (q63, .inl (cI, 36, .inl (fun _ => 0)))] ++ ((w3 cI a73 F73 G73) ++ (w3 cI a84 F84 G84)))) K hinX5_init_X5 tyX5 tyX5_ok nmX5 0 rfl rfl 14 (by decide) uX5_init_f59 rfl rfl rfl rfl (Nat.le_of_ble_eq_true rfl) rfl dX5_init_112 rfl ?_
  refine x_aload_n (pc' := 116) K dX5_init_115 0 rfl rfl ?_
  refine x_bipush (pc' := 118) (v := 16) K dX5_init_116 (by decide) rfl ?_
  refine x_newa (pc' := 120) (N := 16) K 0 rfl uX5_init_ac (by decide) (by decide +kernel) (Nat.le_of_ble_eq_true rfl) (Nat.le_of_ble_eq_true rfl) (Nat.le_of_ble_eq_true rfl) dX5_init_118 rfl (fun q118 => ?_)
  refine x_putF (pc' := 123) (C := RX5) (T := TX5) (N := 17) (ci := 5) (fs := [.ref q7, .ref q15, .ref q23, .ref q31, .ref q39, .ref q47, .ref q55, .ref q63, .ref (a73 0), .ref (a84 0), .int (1 : Int32), .int (0 : Int32), .int (5 : Int32), .int (0 : Int32), .int (1 : Int32), .null, .null]) (w' := ([(b, .inr (5, [.ref q7, .ref q15, .ref q23, .ref q31, .ref q39, .ref q47, .ref q55, .ref q63, .ref (a73 0), .ref (a84 0), .int (1 : Int32), .int (0 : Int32), .int (5 : Int32), .int (0 : Int32), .int (1 : Int32), .ref q118, .null])), (q7, .inl (cI, 16, .inl (fun _ => 0))), (q15, .inl (cI, 16, .inl (fun _ => 0))), (q23, .inl (cI, 9, .inl (fun _ => 0))), (q31, .inl (cI, 9, .inl (fun _ => 0))), (q39, .inl (cI, 9, .inl (fun _ => 0))), (q47, .inl (cI, 9, .inl (fun _ => 0))), (q55, .inl (cI, 9, .inl (fun _ => 0))), (q63, .inl (cI, 36, .inl (fun _ => 0)))] ++ ((w3 cI a73 F73 G73) ++ ((w3 cI a84 F84 G84) ++ [(q118, .inl (cI, 16, .inl (fun _ => 0)))])))) K hnm hinX5_init_X5 tyX5 tyX5_ok nmX5 0 rfl rfl 15 (by decide) uX5_init_f62 rfl rfl rfl rfl rfl (Nat.le_of_ble_eq_true rfl) rfl dX5_init_120 rfl ?_
  refine x_aload_n (pc' := 124) K dX5_init_123 0 rfl rfl ?_
  refine x_bipush (pc' := 126) (v := 16) K dX5_init_124 (by decide) rfl ?_
  refine x_newa (pc' := 128) (N := 16) K 0 rfl uX5_init_ac (by decide) (by decide +kernel) (Nat.le_of_ble_eq_true rfl) (Nat.le_of_ble_eq_true rfl) (Nat.le_of_ble_eq_true rfl) dX5_init_126 rfl (fun q126 => ?_)
  refine x_putF (pc' := 131) (C := RX5) (T := TX5) (N := 17) (ci := 5) (fs := [.ref q7, .ref q15, .ref q23, .ref q31, .ref q39, .ref q47, .ref q55, .ref q63, .ref (a73 0), .ref (a84 0), .int (1 : Int32), .int (0 : Int32), .int (5 : Int32), .int (0 : Int32), .int (1 : Int32), .ref q118, .null]) (w' := ([(b, .inr (5, [.ref q7, .ref q15, .ref q23, .ref q31, .ref q39, .ref q47, .ref q55, .ref q63, .ref (a73 0), .ref (a84 0), .int (1 : Int32), .int (0 : Int32), .int (5 : Int32), .int (0 : Int32), .int (1 : Int32), .ref q118, .ref q126])), (q7, .inl (cI, 16, .inl (fun _ => 0))), (q15, .inl (cI, 16, .inl (fun _ => 0))), (q23, .inl (cI, 9, .inl (fun _ => 0))), (q31, .inl (cI, 9, .inl (fun _ => 0))), (q39, .inl (cI, 9, .inl (fun _ => 0))), (q47, .inl (cI, 9, .inl (fun _ => 0))), (q55, .inl (cI, 9, .inl (fun _ => 0))), (q63, .inl (cI, 36, .inl (fun _ => 0)))] ++ ((w3 cI a73 F73 G73) ++ ((w3 cI a84 F84 G84) ++ [(q118, .inl (cI, 16, .inl (fun _ => 0))), (q126, .inl (cI, 16, .inl (fun _ => 0)))])))) K hnm hinX5_init_X5 tyX5 tyX5_ok nmX5 0 rfl rfl 16 (by decide) uX5_init_f65 rfl rfl rfl rfl rfl (Nat.le_of_ble_eq_true rfl) rfl dX5_init_128 rfl ?_
  obtain ⟨a, ha⟩ : ∃ a : Nat → Nat, a = (xcat 11 (fun i => ([b, q7, q15, q23, q31, q39, q47, q55, q63, q118, q126] : List Nat).getD i 0) (xcat 4 a73 a84)) := ⟨_, rfl⟩
  have hb : a 0 = b := by rw [ha]; rfl
  refine x_wperm (w' := w5 cI a (xcat 5 (fun k => ([(1 : Int32), (0 : Int32), (5 : Int32), (0 : Int32), (1 : Int32)] : List Int32).getD k 0) (xcat 1 F73 F84)) (xcat 10 (fun k => ([(fun _ => 0), (fun _ => 0), (fun _ => 0), (fun _ => 0), (fun _ => 0), (fun _ => 0), (fun _ => 0), (fun _ => 0), (fun _ => 0), (fun _ => 0)] : List (Nat → Int32)).getD k (fun _ => 0)) (xcat 2 G73 G84))) (by rw [ha]; exact xpermC (bl := [[(b, .inr (5, [.ref q7, .ref q15, .ref q23, .ref q31, .ref q39, .ref q47, .ref q55, .ref q63, .ref (a73 0), .ref (a84 0), .int (1 : Int32), .int (0 : Int32), .int (5 : Int32), .int (0 : Int32), .int (1 : Int32), .ref q118, .ref q126]))], [(q7, .inl (cI, 16, .inl (fun _ => 0)))], [(q15, .inl (cI, 16, .inl (fun _ => 0)))], [(q23, .inl (cI, 9, .inl (fun _ => 0)))], [(q31, .inl (cI, 9, .inl (fun _ => 0)))], [(q39, .inl (cI, 9, .inl (fun _ => 0)))], [(q47, .inl (cI, 9, .inl (fun _ => 0)))], [(q55, .inl (cI, 9, .inl (fun _ => 0)))], [(q63, .inl (cI, 36, .inl (fun _ => 0)))], (w3 cI a73 F73 G73), (w3 cI a84 F84 G84), [(q118, .inl (cI, 16, .inl (fun _ => 0)))], [(q126, .inl (cI, 16, .inl (fun _ => 0)))]]) (n := 13) rfl rfl [0, 1, 2, 3, 4, 5, 6, 7, 8, 11, 12, 9, 10] (by decide +kernel) rfl) ?_
  subst hb
  obtain ⟨F0, eF0⟩ : ∃ x : xF, x = (xcat 5 (fun k => ([(1 : Int32), (0 : Int32), (5 : Int32), (0 : Int32), (1 : Int32)] : List Int32).getD k 0) (xcat 1 F73 F84)) := ⟨_, rfl⟩
  obtain ⟨G0, eG0⟩ : ∃ x : xA, x = (xcat 10 (fun k => ([(fun _ => 0), (fun _ => 0), (fun _ => 0), (fun _ => 0), (fun _ => 0), (fun _ => 0), (fun _ => 0), (fun _ => 0), (fun _ => 0), (fun _ => 0)] : List (Nat → Int32)).getD k (fun _ => 0)) (xcat 2 G73 G84)) := ⟨_, rfl⟩
  refine x_weq (w' := w5 cI a F0 G0) (by subst eF0; subst eG0; rfl) ?_
  replace h := h F0 eF0 G0 eG0
  refine x_iconst (pc' := 132) (v := 0) K dX5_init_131 (by decide) rfl ?_
  refine x_istore_n (pc' := 133) (i := 1) K dX5_init_132 rfl (by decide) [1, 0] (L' := [(0, .ref (a 0)), (1, .int _)]) rfl rfl ?_
  obtain ⟨n133, h⟩ := h
  exact tX5_init_133 K n133 _ _ _ h
end
