/-! the layer: XJ hides the heap, the written places and the slots; XK: what a walk knows of the machine -/
def xt_one (ty : FieldType) (C n d : String) (l : List Int32) (A : Nat → Prop) (U : State) (H : Heap) : Prop := ∃ t : Nat, va_Z C n d (.ref t) A U H ∧ va_T ty t l.length (xt_arr l) A U H
def xt_T (A : Nat → Prop) (U : State) (H : Heap) : Prop := xt_one .int "PigNinths" "ABOVE" "[I" xt_above A U H ∧ xt_one .int "PigNinths" "ROW_PLACES" "[I" xt_places A U H ∧ xt_one .int "PigNinths$Voices" "BODIES" "[I" xt_bodies A U H ∧ xt_one .char "PigNinths$Reader" "NAMES_OF_USES" "[C" xt_names A U H
theorem xt_one_to {ty : FieldType} {C n d : String} {l : List Int32} {A B : Nat → Prop} {u U : State} {H H1 : Heap} (h : xt_one ty C n d l A u H) (hvm : u.vm.Alike U.vm) (hq : ∀ a : Nat, a < H.size → ¬ A a → H1[a]? = H[a]?) (hAB : ∀ q, B q → q < H.size → A q) : xt_one ty C n d l B U H1 := by
  obtain ⟨t, hz, ht⟩ := h
  refine ⟨t, ?_, ?_⟩
  · obtain ⟨cf, kf, fi, f, a, cell, h1, h2, h3, h4, h5, h6, h7, h8⟩ := (hz.kept hq).moved hvm
    obtain ⟨cf', kf', fi', f', a', cell', g1, g2, g3, g4, g5, g6, g7, g8⟩ := hz.moved hvm
    refine ⟨cf', kf', fi', f', a', cell', g1, g2, g3, g4, ?_, g6, g7, fun z => g8 (hAB a' z (Array.getElem?_eq_some_iff.mp g5).1)⟩
    rw [hq a' (Array.getElem?_eq_some_iff.mp g5).1 g8]; exact g5
  · obtain ⟨cell, h1, h2, h3, h4, h5, h6, h7⟩ := ht.moved hvm
    refine ⟨cell, ?_, h2, h3, h4, h5, h6, fun z => h7 (hAB t z (Array.getElem?_eq_some_iff.mp h1).1)⟩
    rw [hq t (Array.getElem?_eq_some_iff.mp h1).1 h7]; exact h1
theorem xt_T_to {A B : Nat → Prop} {u U : State} {H H1 : Heap} (h : xt_T A u H) (hvm : u.vm.Alike U.vm) (hq : ∀ a : Nat, a < H.size → ¬ A a → H1[a]? = H[a]?) (hAB : ∀ q, B q → q < H.size → A q) : xt_T B U H1 := ⟨xt_one_to h.1 hvm hq hAB, xt_one_to h.2.1 hvm hq hAB, xt_one_to h.2.2.1 hvm hq hAB, xt_one_to h.2.2.2 hvm hq hAB⟩
/-- what the tables say of nest mates' private members -/
def xNst (U : State) : Prop := va_Nw (.fieldLinkNest "PigNinths$Voices" 45 "PigNinths" "ABOVE" "[I" "PigNinths") U ∧ va_Nw (.methodLinkNest "PigNinths" 56 yX0_init "PigNinths") U ∧ va_Nw (.methodLinkNest "PigNinths" 63 yX4_init "PigNinths") U ∧ va_Nw (.methodLinkNest "PigNinths" 77 yX2_init "PigNinths") U ∧ va_Nw (.methodLinkNest "PigNinths$World" 38 yX3_init "PigNinths") U ∧ va_AO "PigNinths$Sheet" U
theorem xNst_warm {s U : State} (hW : s.WarmedH U.vm) (h : xNst s) : xNst U := ⟨va_Nw.warmF hW h.1, va_Nw.warmM hW h.2.1, va_Nw.warmM hW h.2.2.1, va_Nw.warmM hW h.2.2.2.1, va_Nw.warmM hW h.2.2.2.2.1, va_AO.moved hW.alike h.2.2.2.2.2⟩
theorem xNst_same {u U : State} (h : u.vm = U.vm) (q : xNst u) : xNst U := ⟨va_Nw.same rfl h q.1, va_Nw.same rfl h q.2.1, va_Nw.same rfl h q.2.2.1, va_Nw.same rfl h q.2.2.2.1, va_Nw.same rfl h q.2.2.2.2.1, va_AO.moved (by rw [h]; exact Vm.Alike.refl U.vm) q.2.2.2.2.2⟩
abbrev XK (p : Program) (m : MethodId) (c : Code) (cc : ByteArray) (nL : Nat) (s : State) (args : Array Value) (Ts : List Cond) (own : String) (D : va_G) (tys : List (ClassId × FieldType)) (A : Nat → Prop) (meth : Method) (ret : Option FieldType) : Prop :=
  (p.tables.exec = Jvm.exec ∧ c.code = cc ∧ c.maxLocals = nL ∧ s.vm.findClass own = some m.cls ∧ ∀ w ∈ Ts, w.before args s = true) ∧ va_K D vwCl tys s ∧ (∀ q : Nat, s.heap.size ≤ q → A q) ∧ xt_T A s s.heap ∧ meth.locks = false ∧ meth.sig.returnType = ret ∧ xNst s
def XJ (p : Program) (l : Launch) (e : Env) (R : Room) (s : State) (m : MethodId) (args : Array Value) (below : List Frame) (meth : Method) (c : Code) (cells slots : Nat) (Q : State → Prop) (D : va_G) (tys : List (ClassId × FieldType)) (A : Nat → Prop) (nL : Nat) (ws : va_W) (pc : Nat) (L : List (Nat × Value)) (st : List Value) : Prop :=
  ∀ (H : Heap) (locs : List Loc) (ls : Array Slot), va_P D vwCl ws H → va_D A ws → va_S A s.heap H locs → lv_has ls nL L → W p l e R s m args below meth c H locs cells slots Q (F0 m pc ls st)
/-- place j of array k is written -/
abbrev xtys (cI cO : ClassId) : List (ClassId × FieldType) := [(cI, .int), (cO, .object "PigNinths$Sheet")]

theorem xin_of {i : Int32} {n : Nat} (h : (!(decide (i < 0)) && Nat.blt i.toNatClampNeg n) = true) : vp_in i n := by
  have h1 := (Bool.and_eq_true _ _).mp h
  intro q
  rcases q with q | q
  · have h2 := h1.1
    rw [decide_eq_true q] at h2
    cases h2
  · exact absurd (Nat.blt_eq.mp h1.2) (Nat.not_lt.mpr q)
theorem xtin {x k : Int32} (h : ¬ x = k) {i : Int} (hk : k.toInt = i) : ¬ x.toInt = i := fun q => h (Int32.toInt_inj.mp (q.trans hk.symm))
theorem xtbl {offs : Array Int} {df x : Int} (vals : List Int) (lo hi : Int) (hc : ((List.range (hi - lo + 1).toNat).all (fun (j : Nat) => vals.contains (lo + (j : Int)) || offs[j]? == some df)) = true) (h1 : ¬ x < lo) (h2 : ¬ hi < x) (hn : ∀ v ∈ vals, ¬ x = v) : offs[(x - lo).toNat]? = some df := by
  have h := List.all_eq_true.mp hc (x - lo).toNat (List.mem_range.mpr (by omega))
  rcases (Bool.or_eq_true _ _).mp h with h | h
  · have hm := List.contains_iff_mem.mp h
    exact absurd (by omega : x = lo + ((x - lo).toNat : Int)) (hn _ hm)
  · exact eq_of_beq h
/-- rooms of methods that call themselves, by depth -/
abbrev xrd (d j : Nat) : Room := { frames := 8 * d + 10 + j, cells := 0, slots := 0, locals := 500 * d + 300 + 80 * j }
section XL
variable {p : Program} {l : Launch} {e : Env} {R : Room} {s : State} {m : MethodId} {args : Array Value} {below : List Frame} {meth : Method} {c : Code} {cells slots : Nat} {Q : State → Prop} {D : va_G} {tys : List (ClassId × FieldType)} {A : Nat → Prop} {nL : Nat}
variable {cc : ByteArray} {Ts : List Cond} {own : String} {ret : Option FieldType} {ws : va_W} {L : List (Nat × Value)} {st : List Value} {pc : Nat}

theorem x_iconst (K : XK p m c cc nL s args Ts own D tys A meth ret) {n : Int} {v : Int32} (hdg : decode cc pc = .ok (.iconst n, 1)) (hv : Int32.ofInt n = v) {pc' : Nat} (hn : pc + 1 = pc') (kk : XJ p l e R s m args below meth c cells slots Q D tys A nL ws pc' L (.int v :: st)) : XJ p l e R s m args below meth c cells slots Q D tys A nL ws pc L (st) := by
  subst hn
  exact fun H locs ls hP hD hS hl => lv_iconst K.1.1 K.1.2.1 hdg hv (kk H locs ls hP hD hS hl)
theorem x_bipush (K : XK p m c cc nL s args Ts own D tys A meth ret) {n : Int} {v : Int32} (hdg : decode cc pc = .ok (.bipush n, 2)) (hv : (Int8.ofInt n).toInt32 = v) {pc' : Nat} (hn : pc + 2 = pc') (kk : XJ p l e R s m args below meth c cells slots Q D tys A nL ws pc' L (.int v :: st)) : XJ p l e R s m args below meth c cells slots Q D tys A nL ws pc L (st) := by
  subst hn
  exact fun H locs ls hP hD hS hl => lv_bipush K.1.1 K.1.2.1 hdg hv (kk H locs ls hP hD hS hl)
theorem x_sipush (K : XK p m c cc nL s args Ts own D tys A meth ret) {n : Int} {v : Int32} (hdg : decode cc pc = .ok (.sipush n, 3)) (hv : (Int16.ofInt n).toInt32 = v) {pc' : Nat} (hn : pc + 3 = pc') (kk : XJ p l e R s m args below meth c cells slots Q D tys A nL ws pc' L (.int v :: st)) : XJ p l e R s m args below meth c cells slots Q D tys A nL ws pc L (st) := by
  subst hn
  exact fun H locs ls hP hD hS hl => lv_sipush K.1.1 K.1.2.1 hdg hv (kk H locs ls hP hD hS hl)
theorem x_ldc (K : XK p m c cc nL s args Ts own D tys A meth ret) {index : Nat} {v : Int32} (hdg : decode cc pc = .ok (.ldc index, 2)) (hc : Jvm.Cond.constant own index v ∈ Ts) {pc' : Nat} (hn : pc + 2 = pc') (kk : XJ p l e R s m args below meth c cells slots Q D tys A nL ws pc' L (.int v :: st)) : XJ p l e R s m args below meth c cells slots Q D tys A nL ws pc L (st) := by
  subst hn
  exact fun H locs ls hP hD hS hl => lv_ldc K.1.1 K.1.2.1 K.1.2.2.2.1 (K.1.2.2.2.2 _ hc) hdg (kk H locs ls hP hD hS hl)
theorem x_ldcw (K : XK p m c cc nL s args Ts own D tys A meth ret) {index : Nat} {v : Int32} (hdg : decode cc pc = .ok (.ldc_w index, 3)) (hc : Jvm.Cond.constant own index v ∈ Ts) {pc' : Nat} (hn : pc + 3 = pc') (kk : XJ p l e R s m args below meth c cells slots Q D tys A nL ws pc' L (.int v :: st)) : XJ p l e R s m args below meth c cells slots Q D tys A nL ws pc L (st) := by
  subst hn
  exact fun H locs ls hP hD hS hl => lv_ldcw K.1.1 K.1.2.1 K.1.2.2.2.1 (K.1.2.2.2.2 _ hc) hdg (kk H locs ls hP hD hS hl)
theorem x_ldc2 (K : XK p m c cc nL s args Ts own D tys A meth ret) {index : Nat} {v : Int64} (hdg : decode cc pc = .ok (.ldc2_w index, 3)) (hc : Jvm.Cond.constantLong own index v ∈ Ts) {pc' : Nat} (hn : pc + 3 = pc') (kk : XJ p l e R s m args below meth c cells slots Q D tys A nL ws pc' L (.long v :: st)) : XJ p l e R s m args below meth c cells slots Q D tys A nL ws pc L (st) := by
  subst hn
  exact fun H locs ls hP hD hS hl => lv_ldc2 K.1.1 K.1.2.1 K.1.2.2.2.1 (K.1.2.2.2.2 _ hc) hdg (kk H locs ls hP hD hS hl)
theorem x_iload_n (K : XK p m c cc nL s args Ts own D tys A meth ret) {j : Fin 4} {x : Int32} (hdg : decode cc pc = .ok (.iload_n j, 1)) (k : Nat) (hk : L[k]? = some ((j : Nat), .int x)) {pc' : Nat} (hn : pc + 1 = pc') (kk : XJ p l e R s m args below meth c cells slots Q D tys A nL ws pc' L (.int x :: st)) : XJ p l e R s m args below meth c cells slots Q D tys A nL ws pc L (st) := by
  subst hn
  exact fun H locs ls hP hD hS hl => lv_iload_n K.1.1 K.1.2.1 hdg rfl (lv_at hl k hk) (kk H locs ls hP hD hS hl)
theorem x_iload (K : XK p m c cc nL s args Ts own D tys A meth ret) {i : Nat} {x : Int32} (hdg : decode cc pc = .ok (.iload i, 2)) (k : Nat) (hk : L[k]? = some (i, .int x)) {pc' : Nat} (hn : pc + 2 = pc') (kk : XJ p l e R s m args below meth c cells slots Q D tys A nL ws pc' L (.int x :: st)) : XJ p l e R s m args below meth c cells slots Q D tys A nL ws pc L (st) := by
  subst hn
  exact fun H locs ls hP hD hS hl => lv_iload K.1.1 K.1.2.1 hdg (lv_at hl k hk) (kk H locs ls hP hD hS hl)
theorem x_lload_n (K : XK p m c cc nL s args Ts own D tys A meth ret) {j : Fin 4} {x : Int64} (hdg : decode cc pc = .ok (.lload_n j, 1)) (k : Nat) (hk : L[k]? = some ((j : Nat), .long x)) {pc' : Nat} (hn : pc + 1 = pc') (kk : XJ p l e R s m args below meth c cells slots Q D tys A nL ws pc' L (.long x :: st)) : XJ p l e R s m args below meth c cells slots Q D tys A nL ws pc L (st) := by
  subst hn
  exact fun H locs ls hP hD hS hl => lv_lload_n K.1.1 K.1.2.1 hdg rfl (lv_at hl k hk) (kk H locs ls hP hD hS hl)
theorem x_lload (K : XK p m c cc nL s args Ts own D tys A meth ret) {i : Nat} {x : Int64} (hdg : decode cc pc = .ok (.lload i, 2)) (k : Nat) (hk : L[k]? = some (i, .long x)) {pc' : Nat} (hn : pc + 2 = pc') (kk : XJ p l e R s m args below meth c cells slots Q D tys A nL ws pc' L (.long x :: st)) : XJ p l e R s m args below meth c cells slots Q D tys A nL ws pc L (st) := by
  subst hn
  exact fun H locs ls hP hD hS hl => lv_lload K.1.1 K.1.2.1 hdg (lv_at hl k hk) (kk H locs ls hP hD hS hl)
theorem x_aload_n (K : XK p m c cc nL s args Ts own D tys A meth ret) {j : Fin 4} {x : Nat} (hdg : decode cc pc = .ok (.aload_n j, 1)) (k : Nat) (hk : L[k]? = some ((j : Nat), .ref x)) {pc' : Nat} (hn : pc + 1 = pc') (kk : XJ p l e R s m args below meth c cells slots Q D tys A nL ws pc' L (.ref x :: st)) : XJ p l e R s m args below meth c cells slots Q D tys A nL ws pc L (st) := by
  subst hn
  exact fun H locs ls hP hD hS hl => lv_aload_n K.1.1 K.1.2.1 hdg rfl (lv_at hl k hk) (kk H locs ls hP hD hS hl)
theorem x_aload (K : XK p m c cc nL s args Ts own D tys A meth ret) {i : Nat} {x : Nat} (hdg : decode cc pc = .ok (.aload i, 2)) (k : Nat) (hk : L[k]? = some (i, .ref x)) {pc' : Nat} (hn : pc + 2 = pc') (kk : XJ p l e R s m args below meth c cells slots Q D tys A nL ws pc' L (.ref x :: st)) : XJ p l e R s m args below meth c cells slots Q D tys A nL ws pc L (st) := by
  subst hn
  exact fun H locs ls hP hD hS hl => lv_aload K.1.1 K.1.2.1 hdg (lv_at hl k hk) (kk H locs ls hP hD hS hl)
theorem x_iadd (K : XK p m c cc nL s args Ts own D tys A meth ret) {x y : Int32} (hdg : decode cc pc = .ok (.iadd, 1)) {pc' : Nat} (hn : pc + 1 = pc') (kk : XJ p l e R s m args below meth c cells slots Q D tys A nL ws pc' L (.int (x + y) :: st)) : XJ p l e R s m args below meth c cells slots Q D tys A nL ws pc L (.int y :: .int x :: st) := by
  subst hn
  exact fun H locs ls hP hD hS hl => lv_iadd K.1.1 K.1.2.1 hdg (kk H locs ls hP hD hS hl)
theorem x_isub (K : XK p m c cc nL s args Ts own D tys A meth ret) {x y : Int32} (hdg : decode cc pc = .ok (.isub, 1)) {pc' : Nat} (hn : pc + 1 = pc') (kk : XJ p l e R s m args below meth c cells slots Q D tys A nL ws pc' L (.int (x - y) :: st)) : XJ p l e R s m args below meth c cells slots Q D tys A nL ws pc L (.int y :: .int x :: st) := by
  subst hn
  exact fun H locs ls hP hD hS hl => lv_isub K.1.1 K.1.2.1 hdg (kk H locs ls hP hD hS hl)
theorem x_imul (K : XK p m c cc nL s args Ts own D tys A meth ret) {x y : Int32} (hdg : decode cc pc = .ok (.imul, 1)) {pc' : Nat} (hn : pc + 1 = pc') (kk : XJ p l e R s m args below meth c cells slots Q D tys A nL ws pc' L (.int (x * y) :: st)) : XJ p l e R s m args below meth c cells slots Q D tys A nL ws pc L (.int y :: .int x :: st) := by
  subst hn
  exact fun H locs ls hP hD hS hl => lv_imul K.1.1 K.1.2.1 hdg (kk H locs ls hP hD hS hl)
theorem x_iand (K : XK p m c cc nL s args Ts own D tys A meth ret) {x y : Int32} (hdg : decode cc pc = .ok (.iand, 1)) {pc' : Nat} (hn : pc + 1 = pc') (kk : XJ p l e R s m args below meth c cells slots Q D tys A nL ws pc' L (.int (x &&& y) :: st)) : XJ p l e R s m args below meth c cells slots Q D tys A nL ws pc L (.int y :: .int x :: st) := by
  subst hn
  exact fun H locs ls hP hD hS hl => lv_iand K.1.1 K.1.2.1 hdg (kk H locs ls hP hD hS hl)
theorem x_ior (K : XK p m c cc nL s args Ts own D tys A meth ret) {x y : Int32} (hdg : decode cc pc = .ok (.ior, 1)) {pc' : Nat} (hn : pc + 1 = pc') (kk : XJ p l e R s m args below meth c cells slots Q D tys A nL ws pc' L (.int (x ||| y) :: st)) : XJ p l e R s m args below meth c cells slots Q D tys A nL ws pc L (.int y :: .int x :: st) := by
  subst hn
  exact fun H locs ls hP hD hS hl => lv_ior K.1.1 K.1.2.1 hdg (kk H locs ls hP hD hS hl)
theorem x_ixor (K : XK p m c cc nL s args Ts own D tys A meth ret) {x y : Int32} (hdg : decode cc pc = .ok (.ixor, 1)) {pc' : Nat} (hn : pc + 1 = pc') (kk : XJ p l e R s m args below meth c cells slots Q D tys A nL ws pc' L (.int (x ^^^ y) :: st)) : XJ p l e R s m args below meth c cells slots Q D tys A nL ws pc L (.int y :: .int x :: st) := by
  subst hn
  exact fun H locs ls hP hD hS hl => lv_ixor K.1.1 K.1.2.1 hdg (kk H locs ls hP hD hS hl)
theorem x_ishl (K : XK p m c cc nL s args Ts own D tys A meth ret) {x y : Int32} (hdg : decode cc pc = .ok (.ishl, 1)) {pc' : Nat} (hn : pc + 1 = pc') (kk : XJ p l e R s m args below meth c cells slots Q D tys A nL ws pc' L (.int (x <<< (y &&& 31)) :: st)) : XJ p l e R s m args below meth c cells slots Q D tys A nL ws pc L (.int y :: .int x :: st) := by
  subst hn
  exact fun H locs ls hP hD hS hl => lv_ishl K.1.1 K.1.2.1 hdg (kk H locs ls hP hD hS hl)
theorem x_ishr (K : XK p m c cc nL s args Ts own D tys A meth ret) {x y : Int32} (hdg : decode cc pc = .ok (.ishr, 1)) {pc' : Nat} (hn : pc + 1 = pc') (kk : XJ p l e R s m args below meth c cells slots Q D tys A nL ws pc' L (.int (x >>> (y &&& 31)) :: st)) : XJ p l e R s m args below meth c cells slots Q D tys A nL ws pc L (.int y :: .int x :: st) := by
  subst hn
  exact fun H locs ls hP hD hS hl => lv_ishr K.1.1 K.1.2.1 hdg (kk H locs ls hP hD hS hl)
theorem x_idiv (K : XK p m c cc nL s args Ts own D tys A meth ret) {x y : Int32} (hdg : decode cc pc = .ok (.idiv, 1)) (hne : ¬ y = 0) {pc' : Nat} (hn : pc + 1 = pc') (kk : XJ p l e R s m args below meth c cells slots Q D tys A nL ws pc' L (.int (x / y) :: st)) : XJ p l e R s m args below meth c cells slots Q D tys A nL ws pc L (.int y :: .int x :: st) := by
  subst hn
  exact fun H locs ls hP hD hS hl => lv_idiv K.1.1 K.1.2.1 hdg hne (kk H locs ls hP hD hS hl)
theorem x_irem (K : XK p m c cc nL s args Ts own D tys A meth ret) {x y : Int32} (hdg : decode cc pc = .ok (.irem, 1)) (hne : ¬ y = 0) {pc' : Nat} (hn : pc + 1 = pc') (kk : XJ p l e R s m args below meth c cells slots Q D tys A nL ws pc' L (.int (x - x / y * y) :: st)) : XJ p l e R s m args below meth c cells slots Q D tys A nL ws pc L (.int y :: .int x :: st) := by
  subst hn
  exact fun H locs ls hP hD hS hl => lv_irem K.1.1 K.1.2.1 hdg hne (kk H locs ls hP hD hS hl)
theorem x_ineg (K : XK p m c cc nL s args Ts own D tys A meth ret) {x : Int32} (hdg : decode cc pc = .ok (.ineg, 1)) {pc' : Nat} (hn : pc + 1 = pc') (kk : XJ p l e R s m args below meth c cells slots Q D tys A nL ws pc' L (.int (-x) :: st)) : XJ p l e R s m args below meth c cells slots Q D tys A nL ws pc L (.int x :: st) := by
  subst hn
  exact fun H locs ls hP hD hS hl => lv_ineg K.1.1 K.1.2.1 hdg (kk H locs ls hP hD hS hl)
theorem x_iushr (K : XK p m c cc nL s args Ts own D tys A meth ret) {x y : Int32} (hdg : decode cc pc = .ok (.iushr, 1)) {pc' : Nat} (hn : pc + 1 = pc') (kk : XJ p l e R s m args below meth c cells slots Q D tys A nL ws pc' L (.int ((x.toUInt32 >>> (y.toUInt32 &&& Int32.toUInt32 31)).toInt32) :: st)) : XJ p l e R s m args below meth c cells slots Q D tys A nL ws pc L (.int y :: .int x :: st) := by
  subst hn
  exact fun H locs ls hP hD hS hl => lv_iushr K.1.1 K.1.2.1 hdg rfl (kk H locs ls hP hD hS hl)
theorem x_land (K : XK p m c cc nL s args Ts own D tys A meth ret) {x y : Int64} (hdg : decode cc pc = .ok (.land, 1)) {pc' : Nat} (hn : pc + 1 = pc') (kk : XJ p l e R s m args below meth c cells slots Q D tys A nL ws pc' L (.long (x &&& y) :: st)) : XJ p l e R s m args below meth c cells slots Q D tys A nL ws pc L (.long y :: .long x :: st) := by
  subst hn
  exact fun H locs ls hP hD hS hl => lv_land K.1.1 K.1.2.1 hdg (kk H locs ls hP hD hS hl)
theorem x_lor (K : XK p m c cc nL s args Ts own D tys A meth ret) {x y : Int64} (hdg : decode cc pc = .ok (.lor, 1)) {pc' : Nat} (hn : pc + 1 = pc') (kk : XJ p l e R s m args below meth c cells slots Q D tys A nL ws pc' L (.long (x ||| y) :: st)) : XJ p l e R s m args below meth c cells slots Q D tys A nL ws pc L (.long y :: .long x :: st) := by
  subst hn
  exact fun H locs ls hP hD hS hl => lv_lor K.1.1 K.1.2.1 hdg (kk H locs ls hP hD hS hl)
theorem x_lshl (K : XK p m c cc nL s args Ts own D tys A meth ret) {x : Int64} {y : Int32} (hdg : decode cc pc = .ok (.lshl, 1)) {pc' : Nat} (hn : pc + 1 = pc') (kk : XJ p l e R s m args below meth c cells slots Q D tys A nL ws pc' L (.long (x <<< (y.toInt64 &&& 63)) :: st)) : XJ p l e R s m args below meth c cells slots Q D tys A nL ws pc L (.int y :: .long x :: st) := by
  subst hn
  exact fun H locs ls hP hD hS hl => lv_lshl K.1.1 K.1.2.1 hdg rfl (kk H locs ls hP hD hS hl)
theorem x_lshr (K : XK p m c cc nL s args Ts own D tys A meth ret) {x : Int64} {y : Int32} (hdg : decode cc pc = .ok (.lshr, 1)) {pc' : Nat} (hn : pc + 1 = pc') (kk : XJ p l e R s m args below meth c cells slots Q D tys A nL ws pc' L (.long (x >>> (y.toInt64 &&& 63)) :: st)) : XJ p l e R s m args below meth c cells slots Q D tys A nL ws pc L (.int y :: .long x :: st) := by
  subst hn
  exact fun H locs ls hP hD hS hl => lv_lshr K.1.1 K.1.2.1 hdg rfl (kk H locs ls hP hD hS hl)
theorem x_lushr (K : XK p m c cc nL s args Ts own D tys A meth ret) {x : Int64} {y : Int32} (hdg : decode cc pc = .ok (.lushr, 1)) {pc' : Nat} (hn : pc + 1 = pc') (kk : XJ p l e R s m args below meth c cells slots Q D tys A nL ws pc' L (.long ((x.toUInt64 >>> (y.toInt64.toUInt64 &&& Int64.toUInt64 63)).toInt64) :: st)) : XJ p l e R s m args below meth c cells slots Q D tys A nL ws pc L (.int y :: .long x :: st) := by
  subst hn
  exact fun H locs ls hP hD hS hl => lv_lushr K.1.1 K.1.2.1 hdg rfl (kk H locs ls hP hD hS hl)
theorem x_i2l (K : XK p m c cc nL s args Ts own D tys A meth ret) {x : Int32} (hdg : decode cc pc = .ok (.i2l, 1)) {pc' : Nat} (hn : pc + 1 = pc') (kk : XJ p l e R s m args below meth c cells slots Q D tys A nL ws pc' L (.long x.toInt64 :: st)) : XJ p l e R s m args below meth c cells slots Q D tys A nL ws pc L (.int x :: st) := by
  subst hn
  exact fun H locs ls hP hD hS hl => lv_i2l K.1.1 K.1.2.1 hdg rfl (kk H locs ls hP hD hS hl)
theorem x_l2i (K : XK p m c cc nL s args Ts own D tys A meth ret) {x : Int64} (hdg : decode cc pc = .ok (.l2i, 1)) {pc' : Nat} (hn : pc + 1 = pc') (kk : XJ p l e R s m args below meth c cells slots Q D tys A nL ws pc' L (.int x.toInt32 :: st)) : XJ p l e R s m args below meth c cells slots Q D tys A nL ws pc L (.long x :: st) := by
  subst hn
  exact fun H locs ls hP hD hS hl => lv_l2i K.1.1 K.1.2.1 hdg rfl (kk H locs ls hP hD hS hl)
theorem x_dup (K : XK p m c cc nL s args Ts own D tys A meth ret) {va : Value} (hdg : decode cc pc = .ok (.dup, 1)) (hva : va.category = 1) {pc' : Nat} (hn : pc + 1 = pc') (kk : XJ p l e R s m args below meth c cells slots Q D tys A nL ws pc' L (va :: va :: st)) : XJ p l e R s m args below meth c cells slots Q D tys A nL ws pc L (va :: st) := by
  subst hn
  exact fun H locs ls hP hD hS hl => lv_dup K.1.1 K.1.2.1 hdg hva (kk H locs ls hP hD hS hl)
theorem x_pop (K : XK p m c cc nL s args Ts own D tys A meth ret) {va : Value} (hdg : decode cc pc = .ok (.pop, 1)) (hva : va.category = 1) {pc' : Nat} (hn : pc + 1 = pc') (kk : XJ p l e R s m args below meth c cells slots Q D tys A nL ws pc' L (st)) : XJ p l e R s m args below meth c cells slots Q D tys A nL ws pc L (va :: st) := by
  subst hn
  exact fun H locs ls hP hD hS hl => lv_pop K.1.1 K.1.2.1 hdg hva (kk H locs ls hP hD hS hl)
theorem x_dup2 (K : XK p m c cc nL s args Ts own D tys A meth ret) {va vb : Value} (hdg : decode cc pc = .ok (.dup2, 1)) (hva : va.category = 1) (hvb : vb.category = 1) {pc' : Nat} (hn : pc + 1 = pc') (kk : XJ p l e R s m args below meth c cells slots Q D tys A nL ws pc' L (va :: vb :: va :: vb :: st)) : XJ p l e R s m args below meth c cells slots Q D tys A nL ws pc L (va :: vb :: st) := by
  subst hn
  exact fun H locs ls hP hD hS hl => lv_dup2_11 K.1.1 K.1.2.1 hdg hva hvb (kk H locs ls hP hD hS hl)
theorem x_istore_n (K : XK p m c cc nL s args Ts own D tys A meth ret) {j : Fin 4} {i : Nat} {x : Int32} (hdg : decode cc pc = .ok (.istore_n j, 1)) (hi : (j : Nat) = i) (hnl : i < nL) (ks : List Nat) {L' : List (Nat × Value)} (hL : lv_pick ((i, Value.int x) :: L.filter (fun q => !(q.1 == i) && !(q.1 + 1 == i && q.2.category == 2))) ks = L') {pc' : Nat} (hn : pc + 1 = pc') (kk : XJ p l e R s m args below meth c cells slots Q D tys A nL ws pc' L' st) : XJ p l e R s m args below meth c cells slots Q D tys A nL ws pc L (.int x :: st) := by
  subst hn
  exact fun H locs ls hP hD hS hl => lv_istore_n K.1.1 K.1.2.1 hdg hi hl hnl rfl (fun ls' hl' => kk H locs ls' hP hD hS (lv_sub hl' ks hL))
theorem x_istore (K : XK p m c cc nL s args Ts own D tys A meth ret) {i : Nat} {x : Int32} (hdg : decode cc pc = .ok (.istore i, 2)) (hnl : i < nL) (ks : List Nat) {L' : List (Nat × Value)} (hL : lv_pick ((i, Value.int x) :: L.filter (fun q => !(q.1 == i) && !(q.1 + 1 == i && q.2.category == 2))) ks = L') {pc' : Nat} (hn : pc + 2 = pc') (kk : XJ p l e R s m args below meth c cells slots Q D tys A nL ws pc' L' st) : XJ p l e R s m args below meth c cells slots Q D tys A nL ws pc L (.int x :: st) := by
  subst hn
  exact fun H locs ls hP hD hS hl => lv_istore K.1.1 K.1.2.1 hdg hl hnl rfl (fun ls' hl' => kk H locs ls' hP hD hS (lv_sub hl' ks hL))
theorem x_astore_n (K : XK p m c cc nL s args Ts own D tys A meth ret) {j : Fin 4} {i : Nat} {x : Nat} (hdg : decode cc pc = .ok (.astore_n j, 1)) (hi : (j : Nat) = i) (hnl : i < nL) (ks : List Nat) {L' : List (Nat × Value)} (hL : lv_pick ((i, Value.ref x) :: L.filter (fun q => !(q.1 == i) && !(q.1 + 1 == i && q.2.category == 2))) ks = L') {pc' : Nat} (hn : pc + 1 = pc') (kk : XJ p l e R s m args below meth c cells slots Q D tys A nL ws pc' L' st) : XJ p l e R s m args below meth c cells slots Q D tys A nL ws pc L (.ref x :: st) := by
  subst hn
  exact fun H locs ls hP hD hS hl => lv_astore_n K.1.1 K.1.2.1 hdg hi hl hnl rfl (fun ls' hl' => kk H locs ls' hP hD hS (lv_sub hl' ks hL))
theorem x_astore (K : XK p m c cc nL s args Ts own D tys A meth ret) {i : Nat} {x : Nat} (hdg : decode cc pc = .ok (.astore i, 2)) (hnl : i < nL) (ks : List Nat) {L' : List (Nat × Value)} (hL : lv_pick ((i, Value.ref x) :: L.filter (fun q => !(q.1 == i) && !(q.1 + 1 == i && q.2.category == 2))) ks = L') {pc' : Nat} (hn : pc + 2 = pc') (kk : XJ p l e R s m args below meth c cells slots Q D tys A nL ws pc' L' st) : XJ p l e R s m args below meth c cells slots Q D tys A nL ws pc L (.ref x :: st) := by
  subst hn
  exact fun H locs ls hP hD hS hl => lv_astore K.1.1 K.1.2.1 hdg hl hnl rfl (fun ls' hl' => kk H locs ls' hP hD hS (lv_sub hl' ks hL))
theorem x_iinc (K : XK p m c cc nL s args Ts own D tys A meth ret) {i : Nat} {n : Int} {x v : Int32} (hdg : decode cc pc = .ok (.iinc i n, 3)) (k : Nat) (hk : L[k]? = some (i, .int x)) (hv : x + Int32.ofInt n = v) (hnl : i < nL) (ks : List Nat) {L' : List (Nat × Value)} (hL : lv_pick ((i, Value.int v) :: L.filter (fun q => !(q.1 == i) && !(q.1 + 1 == i && q.2.category == 2))) ks = L') {pc' : Nat} (hn : pc + 3 = pc') (kk : XJ p l e R s m args below meth c cells slots Q D tys A nL ws pc' L' st) : XJ p l e R s m args below meth c cells slots Q D tys A nL ws pc L st := by
  subst hn
  exact fun H locs ls hP hD hS hl => lv_iinc K.1.1 K.1.2.1 hdg hl hk hv hnl rfl (fun ls' hl' => kk H locs ls' hP hD hS (lv_sub hl' ks hL))
theorem x_if_eq (K : XK p m c cc nL s args Ts own D tys A meth ret) {x : Int32} {off : Int} {tgt : Nat} (hdg : decode cc pc = .ok (.ifCond .eq off, 3)) (ht : (pc : Int) + off = (tgt : Int)) {pc' : Nat} (hn : pc + 3 = pc') (kt : x = 0 → XJ p l e R s m args below meth c cells slots Q D tys A nL ws tgt L st) (kf : ¬ x = 0 → XJ p l e R s m args below meth c cells slots Q D tys A nL ws pc' L st) : XJ p l e R s m args below meth c cells slots Q D tys A nL ws pc L (.int x :: st) := by
  subst hn
  exact fun H locs ls hP hD hS hl => lv_if_eq K.1.1 K.1.2.1 hdg ht (fun h => kt h H locs ls hP hD hS hl) (fun h => kf h H locs ls hP hD hS hl)
theorem x_if_ne (K : XK p m c cc nL s args Ts own D tys A meth ret) {x : Int32} {off : Int} {tgt : Nat} (hdg : decode cc pc = .ok (.ifCond .ne off, 3)) (ht : (pc : Int) + off = (tgt : Int)) {pc' : Nat} (hn : pc + 3 = pc') (kt : ¬ x = 0 → XJ p l e R s m args below meth c cells slots Q D tys A nL ws tgt L st) (kf : x = 0 → XJ p l e R s m args below meth c cells slots Q D tys A nL ws pc' L st) : XJ p l e R s m args below meth c cells slots Q D tys A nL ws pc L (.int x :: st) := by
  subst hn
  exact fun H locs ls hP hD hS hl => lv_if_ne K.1.1 K.1.2.1 hdg ht (fun h => kt h H locs ls hP hD hS hl) (fun h => kf h H locs ls hP hD hS hl)
theorem x_if_lt (K : XK p m c cc nL s args Ts own D tys A meth ret) {x : Int32} {off : Int} {tgt : Nat} (hdg : decode cc pc = .ok (.ifCond .lt off, 3)) (ht : (pc : Int) + off = (tgt : Int)) {pc' : Nat} (hn : pc + 3 = pc') (kt : x < 0 → XJ p l e R s m args below meth c cells slots Q D tys A nL ws tgt L st) (kf : ¬ x < 0 → XJ p l e R s m args below meth c cells slots Q D tys A nL ws pc' L st) : XJ p l e R s m args below meth c cells slots Q D tys A nL ws pc L (.int x :: st) := by
  subst hn
  exact fun H locs ls hP hD hS hl => lv_if_lt K.1.1 K.1.2.1 hdg ht (fun h => kt h H locs ls hP hD hS hl) (fun h => kf h H locs ls hP hD hS hl)
theorem x_if_ge (K : XK p m c cc nL s args Ts own D tys A meth ret) {x : Int32} {off : Int} {tgt : Nat} (hdg : decode cc pc = .ok (.ifCond .ge off, 3)) (ht : (pc : Int) + off = (tgt : Int)) {pc' : Nat} (hn : pc + 3 = pc') (kt : 0 ≤ x → XJ p l e R s m args below meth c cells slots Q D tys A nL ws tgt L st) (kf : ¬ 0 ≤ x → XJ p l e R s m args below meth c cells slots Q D tys A nL ws pc' L st) : XJ p l e R s m args below meth c cells slots Q D tys A nL ws pc L (.int x :: st) := by
  subst hn
  exact fun H locs ls hP hD hS hl => lv_if_ge K.1.1 K.1.2.1 hdg ht (fun h => kt h H locs ls hP hD hS hl) (fun h => kf h H locs ls hP hD hS hl)
theorem x_if_gt (K : XK p m c cc nL s args Ts own D tys A meth ret) {x : Int32} {off : Int} {tgt : Nat} (hdg : decode cc pc = .ok (.ifCond .gt off, 3)) (ht : (pc : Int) + off = (tgt : Int)) {pc' : Nat} (hn : pc + 3 = pc') (kt : 0 < x → XJ p l e R s m args below meth c cells slots Q D tys A nL ws tgt L st) (kf : ¬ 0 < x → XJ p l e R s m args below meth c cells slots Q D tys A nL ws pc' L st) : XJ p l e R s m args below meth c cells slots Q D tys A nL ws pc L (.int x :: st) := by
  subst hn
  exact fun H locs ls hP hD hS hl => lv_if_gt K.1.1 K.1.2.1 hdg ht (fun h => kt h H locs ls hP hD hS hl) (fun h => kf h H locs ls hP hD hS hl)
theorem x_if_le (K : XK p m c cc nL s args Ts own D tys A meth ret) {x : Int32} {off : Int} {tgt : Nat} (hdg : decode cc pc = .ok (.ifCond .le off, 3)) (ht : (pc : Int) + off = (tgt : Int)) {pc' : Nat} (hn : pc + 3 = pc') (kt : x ≤ 0 → XJ p l e R s m args below meth c cells slots Q D tys A nL ws tgt L st) (kf : ¬ x ≤ 0 → XJ p l e R s m args below meth c cells slots Q D tys A nL ws pc' L st) : XJ p l e R s m args below meth c cells slots Q D tys A nL ws pc L (.int x :: st) := by
  subst hn
  exact fun H locs ls hP hD hS hl => lv_if_le K.1.1 K.1.2.1 hdg ht (fun h => kt h H locs ls hP hD hS hl) (fun h => kf h H locs ls hP hD hS hl)
theorem x_icmp_eq (K : XK p m c cc nL s args Ts own D tys A meth ret) {x y : Int32} {off : Int} {tgt : Nat} (hdg : decode cc pc = .ok (.if_icmp .eq off, 3)) (ht : (pc : Int) + off = (tgt : Int)) {pc' : Nat} (hn : pc + 3 = pc') (kt : x = y → XJ p l e R s m args below meth c cells slots Q D tys A nL ws tgt L st) (kf : ¬ x = y → XJ p l e R s m args below meth c cells slots Q D tys A nL ws pc' L st) : XJ p l e R s m args below meth c cells slots Q D tys A nL ws pc L (.int y :: .int x :: st) := by
  subst hn
  exact fun H locs ls hP hD hS hl => lv_icmp_eq K.1.1 K.1.2.1 hdg ht (fun h => kt h H locs ls hP hD hS hl) (fun h => kf h H locs ls hP hD hS hl)
theorem x_icmp_ne (K : XK p m c cc nL s args Ts own D tys A meth ret) {x y : Int32} {off : Int} {tgt : Nat} (hdg : decode cc pc = .ok (.if_icmp .ne off, 3)) (ht : (pc : Int) + off = (tgt : Int)) {pc' : Nat} (hn : pc + 3 = pc') (kt : ¬ x = y → XJ p l e R s m args below meth c cells slots Q D tys A nL ws tgt L st) (kf : x = y → XJ p l e R s m args below meth c cells slots Q D tys A nL ws pc' L st) : XJ p l e R s m args below meth c cells slots Q D tys A nL ws pc L (.int y :: .int x :: st) := by
  subst hn
  exact fun H locs ls hP hD hS hl => lv_icmp_ne K.1.1 K.1.2.1 hdg ht (fun h => kt h H locs ls hP hD hS hl) (fun h => kf h H locs ls hP hD hS hl)
theorem x_icmp_lt (K : XK p m c cc nL s args Ts own D tys A meth ret) {x y : Int32} {off : Int} {tgt : Nat} (hdg : decode cc pc = .ok (.if_icmp .lt off, 3)) (ht : (pc : Int) + off = (tgt : Int)) {pc' : Nat} (hn : pc + 3 = pc') (kt : x < y → XJ p l e R s m args below meth c cells slots Q D tys A nL ws tgt L st) (kf : ¬ x < y → XJ p l e R s m args below meth c cells slots Q D tys A nL ws pc' L st) : XJ p l e R s m args below meth c cells slots Q D tys A nL ws pc L (.int y :: .int x :: st) := by
  subst hn
  exact fun H locs ls hP hD hS hl => lv_icmp_lt K.1.1 K.1.2.1 hdg ht (fun h => kt h H locs ls hP hD hS hl) (fun h => kf h H locs ls hP hD hS hl)
theorem x_icmp_ge (K : XK p m c cc nL s args Ts own D tys A meth ret) {x y : Int32} {off : Int} {tgt : Nat} (hdg : decode cc pc = .ok (.if_icmp .ge off, 3)) (ht : (pc : Int) + off = (tgt : Int)) {pc' : Nat} (hn : pc + 3 = pc') (kt : y ≤ x → XJ p l e R s m args below meth c cells slots Q D tys A nL ws tgt L st) (kf : ¬ y ≤ x → XJ p l e R s m args below meth c cells slots Q D tys A nL ws pc' L st) : XJ p l e R s m args below meth c cells slots Q D tys A nL ws pc L (.int y :: .int x :: st) := by
  subst hn
  exact fun H locs ls hP hD hS hl => lv_icmp_ge K.1.1 K.1.2.1 hdg ht (fun h => kt h H locs ls hP hD hS hl) (fun h => kf h H locs ls hP hD hS hl)
theorem x_icmp_gt (K : XK p m c cc nL s args Ts own D tys A meth ret) {x y : Int32} {off : Int} {tgt : Nat} (hdg : decode cc pc = .ok (.if_icmp .gt off, 3)) (ht : (pc : Int) + off = (tgt : Int)) {pc' : Nat} (hn : pc + 3 = pc') (kt : y < x → XJ p l e R s m args below meth c cells slots Q D tys A nL ws tgt L st) (kf : ¬ y < x → XJ p l e R s m args below meth c cells slots Q D tys A nL ws pc' L st) : XJ p l e R s m args below meth c cells slots Q D tys A nL ws pc L (.int y :: .int x :: st) := by
  subst hn
  exact fun H locs ls hP hD hS hl => lv_icmp_gt K.1.1 K.1.2.1 hdg ht (fun h => kt h H locs ls hP hD hS hl) (fun h => kf h H locs ls hP hD hS hl)
theorem x_icmp_le (K : XK p m c cc nL s args Ts own D tys A meth ret) {x y : Int32} {off : Int} {tgt : Nat} (hdg : decode cc pc = .ok (.if_icmp .le off, 3)) (ht : (pc : Int) + off = (tgt : Int)) {pc' : Nat} (hn : pc + 3 = pc') (kt : x ≤ y → XJ p l e R s m args below meth c cells slots Q D tys A nL ws tgt L st) (kf : ¬ x ≤ y → XJ p l e R s m args below meth c cells slots Q D tys A nL ws pc' L st) : XJ p l e R s m args below meth c cells slots Q D tys A nL ws pc L (.int y :: .int x :: st) := by
  subst hn
  exact fun H locs ls hP hD hS hl => lv_icmp_le K.1.1 K.1.2.1 hdg ht (fun h => kt h H locs ls hP hD hS hl) (fun h => kf h H locs ls hP hD hS hl)
theorem x_goto (K : XK p m c cc nL s args Ts own D tys A meth ret) {off : Int} {tgt : Nat} (hdg : decode cc pc = .ok (.goto off, 3)) (ht : (pc : Int) + off = (tgt : Int)) (kk : XJ p l e R s m args below meth c cells slots Q D tys A nL ws tgt L st) : XJ p l e R s m args below meth c cells slots Q D tys A nL ws pc L st := fun H locs ls hP hD hS hl => lv_goto K.1.1 K.1.2.1 hdg ht (kk H locs ls hP hD hS hl)
theorem x_locals (ks : List Nat) {L' : List (Nat × Value)} (hL : lv_pick L ks = L') (kk : XJ p l e R s m args below meth c cells slots Q D tys A nL ws pc L' st) : XJ p l e R s m args below meth c cells slots Q D tys A nL ws pc L st := fun H locs ls hP hD hS hl => kk H locs ls hP hD hS (lv_sub hl ks hL)

theorem x_tableOut (K : XK p m c cc nL s args Ts own D tys A meth ret) {dflt lo hi : Int} {offs : Array Int} {len : Nat} {x : Int32} {tgt : Nat} (hdg : decode cc pc = .ok (.tableswitch dflt lo hi offs, len)) (h : x.toInt < lo ∨ hi < x.toInt) (ht : (pc : Int) + dflt = (tgt : Int)) (kk : XJ p l e R s m args below meth c cells slots Q D tys A nL ws tgt L st) : XJ p l e R s m args below meth c cells slots Q D tys A nL ws pc L (.int x :: st) := fun H locs ls hP hD hS hl => lv_tableOut K.1.1 K.1.2.1 hdg h ht (kk H locs ls hP hD hS hl)
theorem x_tableIn (K : XK p m c cc nL s args Ts own D tys A meth ret) {dflt lo hi : Int} {offs : Array Int} {len : Nat} {x : Int32} {off : Int} {tgt : Nat} (hdg : decode cc pc = .ok (.tableswitch dflt lo hi offs, len)) (h1 : ¬ x.toInt < lo) (h2 : ¬ hi < x.toInt) (ho : offs[(x.toInt - lo).toNat]? = some off) (ht : (pc : Int) + off = (tgt : Int)) (kk : XJ p l e R s m args below meth c cells slots Q D tys A nL ws tgt L st) : XJ p l e R s m args below meth c cells slots Q D tys A nL ws pc L (.int x :: st) := fun H locs ls hP hD hS hl => lv_tableIn K.1.1 K.1.2.1 hdg h1 h2 ho ht (kk H locs ls hP hD hS hl)
theorem x_lookup (K : XK p m c cc nL s args Ts own D tys A meth ret) {dflt : Int} {ps : Array (Int × Int)} {len : Nat} {x : Int32} {off : Int} {tgt : Nat} (hdg : decode cc pc = .ok (.lookupswitch dflt ps, len)) (hp : (ps.toList.zip (ps.toList.drop 1)).all (fun (a, next) => a.1 < next.1) = true) (ho : Op.lookupswitch.offset ps.toList dflt x.toInt = off) (ht : (pc : Int) + off = (tgt : Int)) (kk : XJ p l e R s m args below meth c cells slots Q D tys A nL ws tgt L st) : XJ p l e R s m args below meth c cells slots Q D tys A nL ws pc L (.int x :: st) := fun H locs ls hP hD hS hl => lv_lookup K.1.1 K.1.2.1 hdg hp ho ht (kk H locs ls hP hD hS hl)
/-- a field is read -/
theorem x_get (K : XK p m c cc nL s args Ts own D tys A meth ret) {ref C : String} {T : u_T} {N ci index a : Nat} (hin : ∀ w ∈ u_ws C T N, w ∈ Ts) (q0 : Nat) {fs : List Value} (he : ws[q0]? = some (a, .inr (ci, fs))) (hc : vwCl[ci]? = some (C, T, N)) (k : Nat) (hk : k < N) (hlink : Cond.fieldLink own index ref (T k).2.1 (T k).2.2.1 ∈ Ts) (href : ref = (T k).1) {v : Value} (hv : fs[k]? = some v) (hdg : decode cc pc = .ok (.getfield index, 3)) {pc' : Nat} (hn : pc + 3 = pc') (kk : XJ p l e R s m args below meth c cells slots Q D tys A nL ws pc' L (v :: st)) : XJ p l e R s m args below meth c cells slots Q D tys A nL ws pc L (.ref a :: st) := by
  subst hn
  exact fun H locs ls hP hD hS hl => va_get (cl := vwCl) (D := D) K.1.1 K.1.2.1 K.1.2.2.2.2 hin K.1.2.2.2.1 K.2.1 hP q0 he hc k hk (K.1.2.2.2.2 _ hlink) (fun _ h9 => by rw [href]; exact h9) hv hdg (kk H locs ls hP hD hS hl)
/-- a field that is no final one is written -/
theorem x_put (K : XK p m c cc nL s args Ts own D tys A meth ret) {ref C : String} {T : u_T} {N ci index a : Nat} (hin : ∀ w ∈ u_ws C T N, w ∈ Ts) (ty0 : Nat → FieldType) (hty : ∀ k, k < N → parseFieldDescriptor (T k).2.2.1 = some (ty0 k)) (hnm : ∀ a, a < N → ∀ b, b < N → a ≠ b → (T a).2.1 ≠ (T b).2.1) (q0 : Nat) {fs : List Value} (he : ws[q0]? = some (a, .inr (ci, fs))) (hc : vwCl[ci]? = some (C, T, N)) (k : Nat) (hk : k < N) (hlink : Cond.fieldLink own index ref (T k).2.1 (T k).2.2.1 ∈ Ts) (href : ref = (T k).1) (hfin : (T k).2.2.2 = false) {v : Value} (hnr : narrow (ty0 k) v = v) (hfit : fits (ty0 k) v = true) (hlen : k < fs.length) {ws' : va_W} (hw : ws.set q0 (a, .inr (ci, fs.set k v)) = ws') (hdg : decode cc pc = .ok (.putfield index, 3)) {pc' : Nat} (hn : pc + 3 = pc') (kk : XJ p l e R s m args below meth c cells slots Q D tys A nL ws' pc' L st) : XJ p l e R s m args below meth c cells slots Q D tys A nL ws pc L (v :: .ref a :: st) := by
  subst hn
  subst hw
  exact fun H locs ls hP hD hS hl => va_put (cl := vwCl) (D := D) K.1.1 K.1.2.1 K.1.2.2.2.2 hin ty0 hty hnm K.1.2.2.2.1 K.2.1 hP hD hS q0 he hc k hk (K.1.2.2.2.2 _ hlink) (fun _ h9 => by rw [href]; exact h9) hfin (hty k hk) hnr hfit hlen hdg (fun H1 locs1 hP1 hD1 hS1 => kk H1 locs1 ls hP1 hD1 hS1 hl)
theorem x_iald (K : XK p m c cc nL s args Ts own D tys A meth ret) (q0 t0 : Nat) {a : Nat} {cA : ClassId} {n : Nat} {f : Nat → Int32} (ha : ws[q0]? = some (a, .inl (cA, n, .inl f))) (ht : tys[t0]? = some (cA, .int)) {i : Int32} (hin : vp_in i n) (hdg : decode cc pc = .ok (.iaload, 1)) {pc' : Nat} (hn : pc + 1 = pc') (kk : XJ p l e R s m args below meth c cells slots Q D tys A nL ws pc' L (.int (f i.toNatClampNeg) :: st)) : XJ p l e R s m args below meth c cells slots Q D tys A nL ws pc L (.int i :: .ref a :: st) := by
  subst hn
  exact fun H locs ls hP hD hS hl => va_iald K.1.1 K.1.2.1 K.2.1 hP q0 t0 ha ht hin hdg (kk H locs ls hP hD hS hl)
theorem x_iast (K : XK p m c cc nL s args Ts own D tys A meth ret) (q0 t0 : Nat) {a : Nat} {cA : ClassId} {n : Nat} {f : Nat → Int32} (ha : ws[q0]? = some (a, .inl (cA, n, .inl f))) (ht : tys[t0]? = some (cA, .int)) {i x : Int32} (hin : vp_in i n) {ws' : va_W} (hw : ws.set q0 (a, .inl (cA, n, .inl (upd f i.toNatClampNeg x))) = ws') (hdg : decode cc pc = .ok (.iastore, 1)) {pc' : Nat} (hn : pc + 1 = pc') (kk : XJ p l e R s m args below meth c cells slots Q D tys A nL ws' pc' L st) : XJ p l e R s m args below meth c cells slots Q D tys A nL ws pc L (.int x :: .int i :: .ref a :: st) := by
  subst hn
  subst hw
  exact fun H locs ls hP hD hS hl => va_iast K.1.1 K.1.2.1 K.2.1 hP hD hS q0 t0 ha ht hin hdg (fun H1 locs1 hP1 hD1 hS1 => kk H1 locs1 ls hP1 hD1 hS1 hl)
theorem x_alen (K : XK p m c cc nL s args Ts own D tys A meth ret) (q0 t0 : Nat) {a : Nat} {cA : ClassId} {x : vp_A} {ty : FieldType} (ha : ws[q0]? = some (a, .inl (cA, x))) (ht : tys[t0]? = some (cA, ty)) {v : Int32} (hv : Int32.ofNat x.1 = v) (hdg : decode cc pc = .ok (.arraylength, 1)) {pc' : Nat} (hn : pc + 1 = pc') (kk : XJ p l e R s m args below meth c cells slots Q D tys A nL ws pc' L (.int v :: st)) : XJ p l e R s m args below meth c cells slots Q D tys A nL ws pc L (.ref a :: st) := by
  subst hn
  exact fun H locs ls hP hD hS hl => va_alen K.1.1 K.1.2.1 K.2.1 hP q0 t0 ha ht hv hdg (kk H locs ls hP hD hS hl)
end XL

/-! contracts: wf is the world's picture by F (its int fields) and G (its int arrays); wp: what must hold so that Q holds behind -/
abbrev xPc (D : va_G) (tys : List (ClassId × FieldType)) (av : List Value) (w : va_W) (sz : Nat) : Array Value → State → Prop := va_Pc av (fun U => U.heap.size = sz ∧ va_P D vwCl w U.heap ∧ va_K D vwCl tys U ∧ va_D (fun _ => True) w ∧ xt_T (va_A w sz) U U.heap ∧ xNst U)
abbrev xB (D : va_G) (wf : xF → xA → va_W) (A : Nat → Prop) : xF × xA → State → Prop := fun u t => va_P D vwCl (wf u.1 u.2) t.heap ∧ va_D A (wf u.1 u.2)
abbrev xQi (D : va_G) (wf : xF → xA → va_W) (A : Nat → Prop) (Q : Int32 → xF → xA → Prop) : Array Value → State → Outcome → State → Prop := va_Qi (fun r u => Q r u.1 u.2) (xB D wf A) A
abbrev xQv (D : va_G) (wf : xF → xA → va_W) (A : Nat → Prop) (Q : xF → xA → Prop) : Array Value → State → Outcome → State → Prop := va_Qv (fun u => Q u.1 u.2) (xB D wf A) A
def MI (l : Launch) (y : MethodName) (ws : List Cond) (rm : Room) (D : va_G) (tys : List (ClassId × FieldType)) (av : List Value) (wf : xF → xA → va_W) (wp : xF → xA → (Int32 → xF → xA → Prop) → Prop) : Prop :=
  ∀ (F : xF) (G : xA) (sz : Nat) (Q : Int32 → xF → xA → Prop), wp F G Q → Met l y ws rm (xPc D tys av (wf F G) sz) (xQi D wf (va_A (wf F G) sz) Q) 0 0 (va_A (wf F G) sz)
def MV (l : Launch) (y : MethodName) (ws : List Cond) (rm : Room) (D : va_G) (tys : List (ClassId × FieldType)) (av : List Value) (wf : xF → xA → va_W) (wp : xF → xA → (xF → xA → Prop) → Prop) : Prop :=
  ∀ (F : xF) (G : xA) (sz : Nat) (Q : xF → xA → Prop), wp F G Q → Met l y ws rm (xPc D tys av (wf F G) sz) (xQv D wf (va_A (wf F G) sz) Q) 0 0 (va_A (wf F G) sz)
/-- a static method of ints, without a world -/
def MS (l : Launch) (y : MethodName) (ws : List Cond) (rm : Room) (D : va_G) (tys : List (ClassId × FieldType)) (av : List Value) (wp : (Int32 → Prop) → Prop) : Prop :=
  ∀ (sz : Nat) (Q : Int32 → Prop), wp Q → Met l y ws rm (xPc D tys av [] sz) (xQi D (fun _ _ => []) (va_A [] sz) (fun r _ _ => Q r)) 0 0 (va_A [] sz)
theorem xPc_blind {D : va_G} {tys : List (ClassId × FieldType)} {av : List Value} {w : va_W} {sz : Nat} : FrameBlind (xPc D tys av w sz) := by
  intro a U g mk q
  obtain ⟨q0, q1, qP, qK, qD, qT, qN⟩ := q
  exact ⟨q0, q1, qP, va_K.moved (u := U) (U := U.calling g mk a) (Vm.Alike.refl U.vm) qK, qD, xt_T_to qT (Vm.Alike.refl U.vm) (fun _ _ _ => rfl) (fun _ h _ => h), xNst_same (u := U) (U := U.calling g mk a) rfl qN⟩
theorem MI_of {l : Launch} {y : MethodName} {ws ws' : List Cond} {rm : Room} {D : va_G} {tys : List (ClassId × FieldType)} {av : List Value} {wf : xF → xA → va_W} {wp : xF → xA → (Int32 → xF → xA → Prop) → Prop} {cc : ByteArray} {maxL : Nat} {own : String} (hy : plainName y.cls = true) (hw : ws = Cond.code y cc maxL (some .int) :: ws') (hcl : y.cls = own) (hlen : (lg_sl av).length ≤ maxL)
    (body : ∀ (p : Program) (e : Env) (s : State) (m : MethodId) (args : Array Value) (below : List Frame) (meth : Method) (c : Code) (A : Nat → Prop) (F : xF) (G : xA) (Q : Int32 → xF → xA → Prop), wp F G Q → XK p m c cc maxL s args ws own D tys A meth (some .int) → XJ p l e rm s m args below meth c 0 0 (MQ below (xQi D wf A Q) args s 0 0 A) D tys A maxL (wf F G) 0 (lv_args 0 av) []) : MI l y ws rm D tys av wf wp := by
  intro F G sz Q hq
  refine Met.ofW (cc := cc) (maxL := maxL) (ret := some .int) hy hw ?_
  intro p e s m args below meth c s₁ B hml hv
  obtain ⟨rfl, hsz, hP, hK, hD0, hT, hN⟩ := hv
  subst hsz
  have hts := atoms_spec (ws := ws) B.pre
  have hown : s.vm.findClass own = some m.cls := hcl ▸ findClass_of_methodNamed B.named
  have hb := body p e s m av.toArray below meth c (va_A (wf F G) s.heap.size) F G Q hq ⟨⟨B.exec, B.bytes, hml, hown, hts⟩, hK, fun q h => Or.inr h, hT, B.notSynchronized, B.returns, hN⟩ s.heap [] _ hP hD0.self va_S.rf (lv_entry av hlen)
  rw [lg_entry_eq]
  exact hb
theorem MZ_of {l : Launch} {y : MethodName} {ws ws' : List Cond} {rm : Room} {D : va_G} {tys : List (ClassId × FieldType)} {av : List Value} {wf : xF → xA → va_W} {wp : xF → xA → (Int32 → xF → xA → Prop) → Prop} {cc : ByteArray} {maxL : Nat} {own : String} (hy : plainName y.cls = true) (hw : ws = Cond.code y cc maxL (some .boolean) :: ws') (hcl : y.cls = own) (hlen : (lg_sl av).length ≤ maxL)
    (body : ∀ (p : Program) (e : Env) (s : State) (m : MethodId) (args : Array Value) (below : List Frame) (meth : Method) (c : Code) (A : Nat → Prop) (F : xF) (G : xA) (Q : Int32 → xF → xA → Prop), wp F G Q → XK p m c cc maxL s args ws own D tys A meth (some .boolean) → XJ p l e rm s m args below meth c 0 0 (MQ below (xQi D wf A Q) args s 0 0 A) D tys A maxL (wf F G) 0 (lv_args 0 av) []) : MI l y ws rm D tys av wf wp := by
  intro F G sz Q hq
  refine Met.ofW (cc := cc) (maxL := maxL) (ret := some .boolean) hy hw ?_
  intro p e s m args below meth c s₁ B hml hv
  obtain ⟨rfl, hsz, hP, hK, hD0, hT, hN⟩ := hv
  subst hsz
  have hts := atoms_spec (ws := ws) B.pre
  have hown : s.vm.findClass own = some m.cls := hcl ▸ findClass_of_methodNamed B.named
  have hb := body p e s m av.toArray below meth c (va_A (wf F G) s.heap.size) F G Q hq ⟨⟨B.exec, B.bytes, hml, hown, hts⟩, hK, fun q h => Or.inr h, hT, B.notSynchronized, B.returns, hN⟩ s.heap [] _ hP hD0.self va_S.rf (lv_entry av hlen)
  rw [lg_entry_eq]
  exact hb
theorem MV_of {l : Launch} {y : MethodName} {ws ws' : List Cond} {rm : Room} {D : va_G} {tys : List (ClassId × FieldType)} {av : List Value} {wf : xF → xA → va_W} {wp : xF → xA → (xF → xA → Prop) → Prop} {cc : ByteArray} {maxL : Nat} {own : String} (hy : plainName y.cls = true) (hw : ws = Cond.code y cc maxL (none) :: ws') (hcl : y.cls = own) (hlen : (lg_sl av).length ≤ maxL)
    (body : ∀ (p : Program) (e : Env) (s : State) (m : MethodId) (args : Array Value) (below : List Frame) (meth : Method) (c : Code) (A : Nat → Prop) (F : xF) (G : xA) (Q : xF → xA → Prop), wp F G Q → XK p m c cc maxL s args ws own D tys A meth (none) → XJ p l e rm s m args below meth c 0 0 (MQ below (xQv D wf A Q) args s 0 0 A) D tys A maxL (wf F G) 0 (lv_args 0 av) []) : MV l y ws rm D tys av wf wp := by
  intro F G sz Q hq
  refine Met.ofW (cc := cc) (maxL := maxL) (ret := none) hy hw ?_
  intro p e s m args below meth c s₁ B hml hv
  obtain ⟨rfl, hsz, hP, hK, hD0, hT, hN⟩ := hv
  subst hsz
  have hts := atoms_spec (ws := ws) B.pre
  have hown : s.vm.findClass own = some m.cls := hcl ▸ findClass_of_methodNamed B.named
  have hb := body p e s m av.toArray below meth c (va_A (wf F G) s.heap.size) F G Q hq ⟨⟨B.exec, B.bytes, hml, hown, hts⟩, hK, fun q h => Or.inr h, hT, B.notSynchronized, B.returns, hN⟩ s.heap [] _ hP hD0.self va_S.rf (lv_entry av hlen)
  rw [lg_entry_eq]
  exact hb
theorem MS_of {l : Launch} {y : MethodName} {ws ws' : List Cond} {rm : Room} {D : va_G} {tys : List (ClassId × FieldType)} {av : List Value} {wp : (Int32 → Prop) → Prop} {cc : ByteArray} {maxL : Nat} {own : String} (hy : plainName y.cls = true) (hw : ws = Cond.code y cc maxL (some .int) :: ws') (hcl : y.cls = own) (hlen : (lg_sl av).length ≤ maxL)
    (body : ∀ (p : Program) (e : Env) (s : State) (m : MethodId) (args : Array Value) (below : List Frame) (meth : Method) (c : Code) (A : Nat → Prop) (Q : Int32 → Prop), wp Q → XK p m c cc maxL s args ws own D tys A meth (some .int) → XJ p l e rm s m args below meth c 0 0 (MQ below (xQi D (fun _ _ => []) A (fun r _ _ => Q r)) args s 0 0 A) D tys A maxL [] 0 (lv_args 0 av) []) : MS l y ws rm D tys av wp := by
  intro sz Q hq
  refine Met.ofW (cc := cc) (maxL := maxL) (ret := some .int) hy hw ?_
  intro p e s m args below meth c s₁ B hml hv
  obtain ⟨rfl, hsz, hP, hK, hD0, hT, hN⟩ := hv
  subst hsz
  have hts := atoms_spec (ws := ws) B.pre
  have hown : s.vm.findClass own = some m.cls := hcl ▸ findClass_of_methodNamed B.named
  have hb := body p e s m av.toArray below meth c (va_A [] s.heap.size) Q hq ⟨⟨B.exec, B.bytes, hml, hown, hts⟩, hK, fun q h => Or.inr h, hT, B.notSynchronized, B.returns, hN⟩ s.heap [] _ hP hD0.self va_S.rf (lv_entry av hlen)
  rw [lg_entry_eq]
  exact hb
theorem MSZ_of {l : Launch} {y : MethodName} {ws ws' : List Cond} {rm : Room} {D : va_G} {tys : List (ClassId × FieldType)} {av : List Value} {wp : (Int32 → Prop) → Prop} {cc : ByteArray} {maxL : Nat} {own : String} (hy : plainName y.cls = true) (hw : ws = Cond.code y cc maxL (some .boolean) :: ws') (hcl : y.cls = own) (hlen : (lg_sl av).length ≤ maxL)
    (body : ∀ (p : Program) (e : Env) (s : State) (m : MethodId) (args : Array Value) (below : List Frame) (meth : Method) (c : Code) (A : Nat → Prop) (Q : Int32 → Prop), wp Q → XK p m c cc maxL s args ws own D tys A meth (some .boolean) → XJ p l e rm s m args below meth c 0 0 (MQ below (xQi D (fun _ _ => []) A (fun r _ _ => Q r)) args s 0 0 A) D tys A maxL [] 0 (lv_args 0 av) []) : MS l y ws rm D tys av wp := by
  intro sz Q hq
  refine Met.ofW (cc := cc) (maxL := maxL) (ret := some .boolean) hy hw ?_
  intro p e s m args below meth c s₁ B hml hv
  obtain ⟨rfl, hsz, hP, hK, hD0, hT, hN⟩ := hv
  subst hsz
  have hts := atoms_spec (ws := ws) B.pre
  have hown : s.vm.findClass own = some m.cls := hcl ▸ findClass_of_methodNamed B.named
  have hb := body p e s m av.toArray below meth c (va_A [] s.heap.size) Q hq ⟨⟨B.exec, B.bytes, hml, hown, hts⟩, hK, fun q h => Or.inr h, hT, B.notSynchronized, B.returns, hN⟩ s.heap [] _ hP hD0.self va_S.rf (lv_entry av hlen)
  rw [lg_entry_eq]
  exact hb
section XR
variable {p : Program} {l : Launch} {e : Env} {R : Room} {s : State} {m : MethodId} {args : Array Value} {below : List Frame} {meth : Method} {c : Code} {D : va_G} {tys : List (ClassId × FieldType)} {A : Nat → Prop} {nL : Nat}
variable {cc : ByteArray} {Ts : List Cond} {own : String} {ret : Option FieldType} {L : List (Nat × Value)} {st stk : List Value} {pc pc' : Nat}
theorem x_iret (K : XK p m c cc nL s args Ts own D tys A meth (some .int)) {v : Int32} {wf : xF → xA → va_W} {Q : Int32 → xF → xA → Prop} {F : xF} {G : xA} (hq : Q v F G) (hdg : decode cc pc = .ok (.ireturn, 1)) : XJ p l e R s m args below meth c 0 0 (MQ below (xQi D wf A Q) args s 0 0 A) D tys A nL (wf F G) pc L [.int v] :=
  fun H locs ls hP hD hS hl => W.iret K.1.1 K.1.2.1 K.2.2.2.2.2.1 (fun t ht _ => ⟨⟨v, (F, G), rfl, hq, by rw [ht]; exact hP, hD⟩, hS.F ht⟩) hS.2.2 hdg K.2.2.2.2.1
theorem x_zret (K : XK p m c cc nL s args Ts own D tys A meth (some .boolean)) {v : Int32} (hv : v = 0 ∨ v = 1) {wf : xF → xA → va_W} {Q : Int32 → xF → xA → Prop} {F : xF} {G : xA} (hq : Q v F G) (hdg : decode cc pc = .ok (.ireturn, 1)) : XJ p l e R s m args below meth c 0 0 (MQ below (xQi D wf A Q) args s 0 0 A) D tys A nL (wf F G) pc L [.int v] :=
  fun H locs ls hP hD hS hl => W.zret K.1.1 K.1.2.1 K.2.2.2.2.2.1 (by rcases hv with rfl | rfl <;> rfl) (fun t ht _ => ⟨⟨v, (F, G), rfl, hq, by rw [ht]; exact hP, hD⟩, hS.F ht⟩) hS.2.2 hdg K.2.2.2.2.1
theorem x_vret (K : XK p m c cc nL s args Ts own D tys A meth none) {wf : xF → xA → va_W} {Q : xF → xA → Prop} {F : xF} {G : xA} (hq : Q F G) (hdg : decode cc pc = .ok (.return_, 1)) : XJ p l e R s m args below meth c 0 0 (MQ below (xQv D wf A Q) args s 0 0 A) D tys A nL (wf F G) pc L [] :=
  fun H locs ls hP hD hS hl => W.vret K.1.1 K.1.2.1 K.2.2.2.2.2.1 (fun t ht _ => ⟨⟨(F, G), rfl, hq, by rw [ht]; exact hP, hD⟩, hS.F ht⟩) hS.2.2 hdg K.2.2.2.2.1
theorem x_siret (K : XK p m c cc nL s args Ts own D tys A meth (some .int)) {v : Int32} {Q : Int32 → Prop} (hq : Q v) (hdg : decode cc pc = .ok (.ireturn, 1)) : XJ p l e R s m args below meth c 0 0 (MQ below (xQi D (fun _ _ => []) A (fun r _ _ => Q r)) args s 0 0 A) D tys A nL [] pc L [.int v] :=
  x_iret (wf := fun _ _ => []) (F := fun _ => 0) (G := fun _ _ => 0) K hq hdg
theorem x_szret (K : XK p m c cc nL s args Ts own D tys A meth (some .boolean)) {v : Int32} (hv : v = 0 ∨ v = 1) {Q : Int32 → Prop} (hq : Q v) (hdg : decode cc pc = .ok (.ireturn, 1)) : XJ p l e R s m args below meth c 0 0 (MQ below (xQi D (fun _ _ => []) A (fun r _ _ => Q r)) args s 0 0 A) D tys A nL [] pc L [.int v] :=
  x_zret (wf := fun _ _ => []) (F := fun _ => 0) (G := fun _ _ => 0) K hv hq hdg
end XR
theorem va_freeX {A0 : Nat → Prop} {ws : va_W} {H0 H : Heap} {locs : List Loc} (hD : va_D A0 ws) (hS : va_S A0 H0 H locs) (hA : ∀ q : Nat, H0.size ≤ q → A0 q) : ∀ q, va_A ws H.size q → A0 q := by
  intro q h
  rcases h with ⟨k, e, h⟩ | h
  · exact hD.2 k (q, e) h
  · exact hA q (Nat.le_trans hS.1 h)
section XC
variable {p : Program} {l : Launch} {e : Env} {R : Room} {s : State} {m : MethodId} {args : Array Value} {below : List Frame} {meth : Method} {c : Code} {cells slots : Nat} {Q : State → Prop} {D : va_G} {tys : List (ClassId × FieldType)} {A : Nat → Prop} {nL : Nat}
variable {cc bytes : ByteArray} {Ts ws ws' : List Cond} {own C : String} {ret rett : Option FieldType} {L : List (Nat × Value)} {st stk : List Value} {pc pc' index maxL n b : Nat} {y : MethodName} {rm : Room} {As : List Value} {w : va_W}
abbrev xRoom (rm R : Room) (maxL cells slots : Nat) : Prop := rm.cells = 0 ∧ rm.slots = 0 ∧ (rm.frames + 1 ≤ R.frames ∧ 8 + (maxL + 11) + rm.locals ≤ R.locals) ∧ cells + 0 ≤ R.cells ∧ slots + 0 ≤ R.slots
abbrev xDesc (y : MethodName) (n : Nat) : Prop := y.cls ≠ "java/lang/invoke/MethodHandle" ∧ y.cls ≠ "java/lang/invoke/VarHandle" ∧ (parseMethodDescriptor y.desc).map (fun d => d.parameters.length) = some n
/-- an object's own method, on the same world -/
theorem x_callI (K : XK p m c cc nL s args Ts own D tys A meth ret) {wf : xF → xA → va_W} {wp : xF → xA → (Int32 → xF → xA → Prop) → Prop} (hM : MI l y ws rm D tys (.ref b :: As) wf wp) (hw : ws = Cond.code y bytes maxL rett :: ws') (hG : GoodIn Ts (wsV own index C y ws)) (hy : y.cls = C) (hd : xDesc y n) (hrm : xRoom rm R maxL cells slots) {F : xF} {G : xA} {Qc : Int32 → xF → xA → Prop} (hq : wp F G Qc)
    (ci q0 : Nat) {T : u_T} {N : Nat} {fs : List Value} (hc : vwCl[ci]? = some (C, T, N)) (he : (wf F G)[q0]? = some (b, .inr (ci, fs))) (hst : stk = As.reverse ++ .ref b :: st) (hn : As.length = n) (hsum : (st.map fun v => v.category).sum ≤ 8) (hdg : decode cc pc = .ok (.invokevirtual index, 3)) (hpc : pc + 3 = pc')
    (kk : ∀ (r : Int32) (F' : xF) (G' : xA), Qc r F' G' → XJ p l e R s m args below meth c cells slots Q D tys A nL (wf F' G') pc' L (.int r :: st)) : XJ p l e R s m args below meth c cells slots Q D tys A nL (wf F G) pc L stk := by
  subst hpc
  subst hst
  intro H locs ls hP hD hS hl
  refine va_calli (va_runV (As := As) (rest := st) K.1 (hM F G H.size Qc hq) (cwV n K.1.2.2.2.2 hG hw hrm.1 hrm.2.1 ⟨hy, hd⟩ hrm.2.2.1) ⟨xPc_blind, ?_, ?_⟩ rfl hn hl.1 rfl (lv_room hsum) hdg hrm.2.2.2) hS (fun q _ h => ?_) (fun q h => ?_) (fun r u t H1 locs1 ht hvm hw1 hB hz1 hk1 hS1 => ?_)
  · exact va_recv K.2.1 hP hc he
  · intro U hU hW
    exact ⟨rfl, by rw [hU], by rw [hU]; exact hP, va_K.moved hW.alike K.2.1, hD.weaken (fun _ _ _ _ => trivial), by rw [hU]; exact xt_T_to K.2.2.2.1 hW.alike (fun a h1 h2 => hS.2.1 a h1 h2) (fun q h _ => va_freeX hD hS K.2.2.1 q h), xNst_warm hW K.2.2.2.2.2.2⟩
  · exact va_freeX hD hS K.2.2.1 q h
  · exact va_freeX hD hS K.2.2.1 q h
  · have hB1 : va_P D vwCl (wf u.1 u.2) t.heap := hB.1
    rw [ht] at hB1
    exact kk r u.1 u.2 hw1 H1 locs1 ls hB1 (hB.2.weaken (fun _ q _ h => va_freeX hD hS K.2.2.1 q.1 h)) hS1 hl
theorem x_callV (K : XK p m c cc nL s args Ts own D tys A meth ret) {wf : xF → xA → va_W} {wp : xF → xA → (xF → xA → Prop) → Prop} (hM : MV l y ws rm D tys (.ref b :: As) wf wp) (hw : ws = Cond.code y bytes maxL rett :: ws') (hG : GoodIn Ts (wsV own index C y ws)) (hy : y.cls = C) (hd : xDesc y n) (hrm : xRoom rm R maxL cells slots) {F : xF} {G : xA} {Qc : xF → xA → Prop} (hq : wp F G Qc)
    (ci q0 : Nat) {T : u_T} {N : Nat} {fs : List Value} (hc : vwCl[ci]? = some (C, T, N)) (he : (wf F G)[q0]? = some (b, .inr (ci, fs))) (hst : stk = As.reverse ++ .ref b :: st) (hn : As.length = n) (hsum : (st.map fun v => v.category).sum ≤ 8) (hdg : decode cc pc = .ok (.invokevirtual index, 3)) (hpc : pc + 3 = pc')
    (kk : ∀ (F' : xF) (G' : xA), Qc F' G' → XJ p l e R s m args below meth c cells slots Q D tys A nL (wf F' G') pc' L st) : XJ p l e R s m args below meth c cells slots Q D tys A nL (wf F G) pc L stk := by
  subst hpc
  subst hst
  intro H locs ls hP hD hS hl
  refine va_callv (va_runV (As := As) (rest := st) K.1 (hM F G H.size Qc hq) (cwV n K.1.2.2.2.2 hG hw hrm.1 hrm.2.1 ⟨hy, hd⟩ hrm.2.2.1) ⟨xPc_blind, ?_, ?_⟩ rfl hn hl.1 rfl (lv_room hsum) hdg hrm.2.2.2) hS (fun q _ h => ?_) (fun q h => ?_) (fun u t H1 locs1 ht hvm hw1 hB hz1 hk1 hS1 => ?_)
  · exact va_recv K.2.1 hP hc he
  · intro U hU hW
    exact ⟨rfl, by rw [hU], by rw [hU]; exact hP, va_K.moved hW.alike K.2.1, hD.weaken (fun _ _ _ _ => trivial), by rw [hU]; exact xt_T_to K.2.2.2.1 hW.alike (fun a h1 h2 => hS.2.1 a h1 h2) (fun q h _ => va_freeX hD hS K.2.2.1 q h), xNst_warm hW K.2.2.2.2.2.2⟩
  · exact va_freeX hD hS K.2.2.1 q h
  · exact va_freeX hD hS K.2.2.1 q h
  · have hB1 : va_P D vwCl (wf u.1 u.2) t.heap := hB.1
    rw [ht] at hB1
    exact kk u.1 u.2 hw1 H1 locs1 ls hB1 (hB.2.weaken (fun _ q _ h => va_freeX hD hS K.2.2.1 q.1 h)) hS1 hl
theorem x_callVS (K : XK p m c cc nL s args Ts own D tys A meth ret) {wf : xF → xA → va_W} {wp : xF → xA → (xF → xA → Prop) → Prop} (hM : MV l y ws rm D tys As wf wp) (hw : ws = Cond.code y bytes maxL rett :: ws') (hG : GoodIn Ts (va_wsS own index y ws)) (hd : xDesc y n) (hrm : xRoom rm R maxL cells slots) {F : xF} {G : xA} {Qc : xF → xA → Prop} (hq : wp F G Qc)
    (hst : stk = As.reverse ++ st) (hn : As.length = n) (hsum : (st.map fun v => v.category).sum ≤ 8) (hdg : decode cc pc = .ok (.invokestatic index, 3)) (hpc : pc + 3 = pc')
    (kk : ∀ (F' : xF) (G' : xA), Qc F' G' → XJ p l e R s m args below meth c cells slots Q D tys A nL (wf F' G') pc' L st) : XJ p l e R s m args below meth c cells slots Q D tys A nL (wf F G) pc L stk := by
  subst hpc
  subst hst
  intro H locs ls hP hD hS hl
  refine va_callv (va_runS (As := As) (rest := st) K.1 (hM F G H.size Qc hq) (va_cwS n K.1.2.2.2.2 hG hw hrm.1 hrm.2.1 hd hrm.2.2.1) ⟨xPc_blind, ?_⟩ rfl hn hl.1 rfl (lv_room hsum) hdg hrm.2.2.2) hS (fun q _ h => ?_) (fun q h => ?_) (fun u t H1 locs1 ht hvm hw1 hB hz1 hk1 hS1 => ?_)
  · intro U hU hW
    exact ⟨rfl, by rw [hU], by rw [hU]; exact hP, va_K.moved hW.alike K.2.1, hD.weaken (fun _ _ _ _ => trivial), by rw [hU]; exact xt_T_to K.2.2.2.1 hW.alike (fun a h1 h2 => hS.2.1 a h1 h2) (fun q h _ => va_freeX hD hS K.2.2.1 q h), xNst_warm hW K.2.2.2.2.2.2⟩
  · exact va_freeX hD hS K.2.2.1 q h
  · exact va_freeX hD hS K.2.2.1 q h
  · have hB1 : va_P D vwCl (wf u.1 u.2) t.heap := hB.1
    rw [ht] at hB1
    exact kk u.1 u.2 hw1 H1 locs1 ls hB1 (hB.2.weaken (fun _ q _ h => va_freeX hD hS K.2.2.1 q.1 h)) hS1 hl
/-- a static method of ints -/
theorem x_callS (K : XK p m c cc nL s args Ts own D tys A meth ret) {wp : (Int32 → Prop) → Prop} (hM : MS l y ws rm D tys As wp) (hw : ws = Cond.code y bytes maxL rett :: ws') (hG : GoodIn Ts (va_wsS own index y ws)) (hd : xDesc y n) (hrm : xRoom rm R maxL cells slots) {Qc : Int32 → Prop} (hq : wp Qc)
    (hst : stk = As.reverse ++ st) (hn : As.length = n) (hsum : (st.map fun v => v.category).sum ≤ 8) (hdg : decode cc pc = .ok (.invokestatic index, 3)) (hpc : pc + 3 = pc')
    (kk : ∀ (r : Int32), Qc r → XJ p l e R s m args below meth c cells slots Q D tys A nL w pc' L (.int r :: st)) : XJ p l e R s m args below meth c cells slots Q D tys A nL w pc L stk := by
  subst hpc
  subst hst
  intro H locs ls hP hD hS hl
  have hAf : ∀ q, va_A [] H.size q → A q := fun q h => by
    rcases h with ⟨k, e, h⟩ | h
    · simp at h
    · exact K.2.2.1 q (Nat.le_trans hS.1 h)
  refine va_calli (va_runS (As := As) (rest := st) K.1 (hM H.size Qc hq) (va_cwS n K.1.2.2.2.2 hG hw hrm.1 hrm.2.1 hd hrm.2.2.1) ⟨xPc_blind, ?_⟩ rfl hn hl.1 rfl (lv_room hsum) hdg hrm.2.2.2) hS (fun q _ h => hAf q h) (fun q h => hAf q h) (fun r u t H1 locs1 ht hvm hw1 hB hz1 hk1 hS1 => ?_)
  · intro U hU hW
    exact ⟨rfl, by rw [hU], fun k q h => by simp at h, va_K.moved hW.alike K.2.1, ⟨fun i j p q h => by simp at h, fun k q h => by simp at h⟩, by rw [hU]; exact xt_T_to K.2.2.2.1 hW.alike (fun a h1 h2 => hS.2.1 a h1 h2) (fun q h _ => hAf q h), xNst_warm hW K.2.2.2.2.2.2⟩
  · refine kk r hw1 H1 locs1 ls (fun k q h => (hP k q h).kept (hk1 q.1 (hP k q h).lt (fun z => ?_))) hD hS1 hl
    rcases z with ⟨k, e, z⟩ | z
    · simp at z
    · exact absurd (hP k q h).lt (Nat.not_lt.mpr z)
end XC
