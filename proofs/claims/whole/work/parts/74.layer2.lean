/-! calls on a part of the world, and rows of the JDK's members -/
def xpick (bl : List va_W) (is : List Nat) : va_W := is.flatMap (fun i => bl.getD i [])
theorem xrange (bl : List va_W) : (List.range bl.length).map (fun i => bl.getD i []) = bl := by
  apply List.ext_getElem
  · simp
  · intro i h1 h2
    simp at h1
    simp [List.getD, h1]
theorem xperm0 {bl : List va_W} {w X Y : va_W} {n : Nat} (hw : w = bl.flatten) (hn : bl.length = n) (js is : List Nat) (h : (List.range n).Perm (js ++ is)) (hX : xpick bl js = X) (hY : xpick bl is = Y) : w.Perm (X ++ Y) := by
  subst hw
  subst hn
  subst hX
  subst hY
  have h1 : bl.flatten = (List.range bl.length).flatMap (fun i => bl.getD i []) := by rw [List.flatMap_def, xrange]
  rw [h1]
  unfold xpick
  rw [← List.flatMap_append]
  exact h.flatMap_right _
theorem xP_perm {D : va_G} {cl : List vw_C} {w w' : va_W} {H : Heap} (h : w.Perm w') (hP : va_P D cl w H) : va_P D cl w' H := fun k q hq => by
  obtain ⟨i, hi⟩ := List.getElem?_of_mem (h.mem_iff.mpr (List.mem_of_getElem? hq))
  exact hP i q hi
theorem xP_mem {D : va_G} {cl : List vw_C} {w : va_W} {H : Heap} (hP : va_P D cl w H) {q : Nat × va_E} (hq : q ∈ w) : va_at D cl q H := by
  obtain ⟨i, hi⟩ := List.getElem?_of_mem hq
  exact hP i q hi
theorem xD_iff {A : Nat → Prop} {w : va_W} : va_D A w ↔ (w.map Prod.fst).Nodup ∧ ∀ q ∈ w, A q.1 := by
  constructor
  · intro h
    refine ⟨List.pairwise_iff_getElem.mpr (fun i j hi hj hij he => ?_), fun q hq => ?_⟩
    · rw [List.getElem_map, List.getElem_map] at he
      rw [List.length_map] at hi hj
      exact absurd (h.1 i j w[i] w[j] (List.getElem?_eq_getElem hi) (List.getElem?_eq_getElem hj) he) (by omega)
    · obtain ⟨k, hk⟩ := List.getElem?_of_mem hq
      exact h.2 k q hk
  · rintro ⟨h1, h2⟩
    have h3 := List.pairwise_iff_getElem.mp h1
    refine ⟨fun i j p q hi hj he => ?_, fun k q hk => h2 q (List.mem_of_getElem? hk)⟩
    obtain ⟨hi', ei⟩ := List.getElem?_eq_some_iff.mp hi
    obtain ⟨hj', ej⟩ := List.getElem?_eq_some_iff.mp hj
    rcases Nat.lt_trichotomy i j with h | h | h
    · exact absurd (by rw [List.getElem_map, List.getElem_map, ei, ej]; exact he) (h3 i j (by rw [List.length_map]; exact hi') (by rw [List.length_map]; exact hj') h)
    · exact h
    · exact absurd (by rw [List.getElem_map, List.getElem_map, ei, ej]; exact he.symm) (h3 j i (by rw [List.length_map]; exact hj') (by rw [List.length_map]; exact hi') h)
theorem xD_perm {A : Nat → Prop} {w w' : va_W} (h : w.Perm w') (hD : va_D A w) : va_D A w' := by
  have q := xD_iff.mp hD
  exact xD_iff.mpr ⟨(h.map Prod.fst).nodup_iff.mp q.1, fun x hx => q.2 x (h.mem_iff.mpr hx)⟩
theorem xP_right {D : va_G} {cl : List vw_C} {X Y : va_W} {H : Heap} (hP : va_P D cl (X ++ Y) H) : va_P D cl Y H := fun k q hq => xP_mem hP (List.mem_append_right _ (List.mem_of_getElem? hq))
theorem xD_right {A : Nat → Prop} {X Y : va_W} (hD : va_D A (X ++ Y)) : va_D A Y := by
  have q := xD_iff.mp hD
  rw [List.map_append] at q
  exact xD_iff.mpr ⟨(List.pairwise_append.mp q.1).2.1, fun x hx => q.2 x (List.mem_append_right _ hx)⟩
/-- what stands beside a callee's world stays -/
theorem x_frame {D : va_G} {X Y Y' w w' : va_W} {A : Nat → Prop} {H H1 : Heap} (h0 : w.Perm (X ++ Y)) (h1 : w'.Perm (X ++ Y')) (hP : va_P D vwCl w H) (hD : va_D A w) (hk : ∀ q : Nat, q < H.size → ¬ va_A Y H.size q → H1[q]? = H[q]?) (hA : ∀ q, va_A Y H.size q → A q) (hP1 : va_P D vwCl Y' H1) (hD1 : va_D (va_A Y H.size) Y') : va_P D vwCl w' H1 ∧ va_D A w' := by
  have hP2 := xP_perm h0 hP
  have hD2 := xD_iff.mp (xD_perm h0 hD)
  have hD3 := xD_iff.mp hD1
  have hpw := hD2.1
  rw [List.map_append] at hpw
  have hpw := List.pairwise_append.mp hpw
  have apart : ∀ q ∈ X, q.1 < H.size ∧ ¬ va_A Y H.size q.1 := by
    intro q hq
    have hl := (xP_mem hP2 (List.mem_append_left _ hq)).lt
    refine ⟨hl, fun h => ?_⟩
    rcases h with ⟨k, e, h⟩ | h
    · exact hpw.2.2 q.1 (List.mem_map_of_mem hq) q.1 (List.mem_map.mpr ⟨(q.1, e), List.mem_of_getElem? h, rfl⟩) rfl
    · omega
  have hP3 : va_P D vwCl (X ++ Y') H1 := fun k q hq => by
    rcases List.mem_append.mp (List.mem_of_getElem? hq) with h | h
    · exact (xP_mem hP2 (List.mem_append_left _ h)).kept (hk q.1 (apart q h).1 (apart q h).2)
    · exact xP_mem hP1 h
  have hD4 : va_D A (X ++ Y') := by
    refine xD_iff.mpr ⟨?_, fun q hq => ?_⟩
    · rw [List.map_append]
      refine List.pairwise_append.mpr ⟨hpw.1, hD3.1, fun x hx y hy e => ?_⟩
      obtain ⟨qx, hqx, rfl⟩ := List.mem_map.mp hx
      obtain ⟨qy, hqy, rfl⟩ := List.mem_map.mp hy
      exact (apart qx hqx).2 (by rw [e]; exact hD3.2 qy hqy)
    · rcases List.mem_append.mp hq with h | h
      · exact hD2.2 q (List.mem_append_left _ h)
      · exact hA q.1 (hD3.2 q h)
  exact ⟨xP_perm h1.symm hP3, xD_perm h1.symm hD4⟩
abbrev xBr (D : va_G) (ad : Nat → Nat) (wf : xF → xA → va_W) (A : Nat → Prop) : Nat × xF × xA → Nat → State → Prop := fun u q t => q = ad u.1 ∧ va_P D vwCl (wf u.2.1 u.2.2) t.heap ∧ va_D A (wf u.2.1 u.2.2)
abbrev xQr (D : va_G) (ad : Nat → Nat) (wf : xF → xA → va_W) (A : Nat → Prop) (Q : Nat → xF → xA → Prop) : Array Value → State → Outcome → State → Prop := va_Qr (fun u => Q u.1 u.2.1 u.2.2) (xBr D ad wf A) A
def MR (l : Launch) (y : MethodName) (ws : List Cond) (rm : Room) (D : va_G) (tys : List (ClassId × FieldType)) (av : List Value) (ad : Nat → Nat) (wf : xF → xA → va_W) (wp : xF → xA → (Nat → xF → xA → Prop) → Prop) : Prop :=
  ∀ (F : xF) (G : xA) (sz : Nat) (Q : Nat → xF → xA → Prop), wp F G Q → Met l y ws rm (xPc D tys av (wf F G) sz) (xQr D ad wf (va_A (wf F G) sz) Q) 0 0 (va_A (wf F G) sz)
theorem MR_of {l : Launch} {y : MethodName} {ws ws' : List Cond} {rm : Room} {D : va_G} {tys : List (ClassId × FieldType)} {av : List Value} {ad : Nat → Nat} {wf : xF → xA → va_W} {wp : xF → xA → (Nat → xF → xA → Prop) → Prop} {cc : ByteArray} {maxL : Nat} {own : String} {rt : FieldType} (hy : plainName y.cls = true) (hw : ws = Cond.code y cc maxL (some rt) :: ws') (hcl : y.cls = own) (hlen : (lg_sl av).length ≤ maxL)
    (body : ∀ (p : Program) (e : Env) (s : State) (m : MethodId) (args : Array Value) (below : List Frame) (meth : Method) (c : Code) (A : Nat → Prop) (F : xF) (G : xA) (Q : Nat → xF → xA → Prop), wp F G Q → XK p m c cc maxL s args ws own D tys A meth (some rt) → XJ p l e rm s m args below meth c 0 0 (MQ below (xQr D ad wf A Q) args s 0 0 A) D tys A maxL (wf F G) 0 (lv_args 0 av) []) : MR l y ws rm D tys av ad wf wp := by
  intro F G sz Q hq
  refine Met.ofW (cc := cc) (maxL := maxL) (ret := some rt) hy hw ?_
  intro p e s m args below meth c s₁ B hml hv
  obtain ⟨rfl, hsz, hP, hK, hD0, hT, hN⟩ := hv
  subst hsz
  have hts := atoms_spec (ws := ws) B.pre
  have hown : s.vm.findClass own = some m.cls := hcl ▸ findClass_of_methodNamed B.named
  have hb := body p e s m av.toArray below meth c (va_A (wf F G) s.heap.size) F G Q hq ⟨⟨B.exec, B.bytes, hml, hown, hts⟩, hK, fun q h => Or.inr h, hT, B.notSynchronized, B.returns, hN⟩ s.heap [] _ hP hD0.self va_S.rf (lv_entry av hlen)
  rw [lg_entry_eq]
  exact hb
section XL2
variable {p : Program} {l : Launch} {e : Env} {R : Room} {s : State} {m : MethodId} {args : Array Value} {below : List Frame} {meth : Method} {c : Code} {cells slots : Nat} {Q : State → Prop} {D : va_G} {tys : List (ClassId × FieldType)} {A : Nat → Prop} {nL : Nat}
variable {cc bytes : ByteArray} {Ts ws ws' : List Cond} {own C : String} {ret rett : Option FieldType} {L : List (Nat × Value)} {st stk : List Value} {pc pc' index maxL n b : Nat} {y : MethodName} {rm : Room} {As : List Value} {w : va_W}
theorem x_aret {rt : FieldType} (K : XK p m c cc nL s args Ts own D tys A meth (some rt)) (hrt : (∃ n, rt = .object n) ∨ ∃ t, rt = .array t) {ad : Nat → Nat} {wf : xF → xA → va_W} {Q : Nat → xF → xA → Prop} {F : xF} {G : xA} (k : Nat) {q : Nat} (hk : q = ad k) (hq : Q k F G) (hdg : decode cc pc = .ok (.areturn, 1)) : XJ p l e R s m args below meth c 0 0 (MQ below (xQr D ad wf A Q) args s 0 0 A) D tys A nL (wf F G) pc L [.ref q] :=
  fun H locs ls hP hD hS hl => W.aret K.1.1 K.1.2.1 K.2.2.2.2.2.1 hrt (Or.inr ⟨_, rfl⟩) (fun t ht _ => ⟨⟨(k, F, G), q, rfl, hq, hk, by rw [ht]; exact hP, hD⟩, hS.F ht⟩) hS.2.2 hdg K.2.2.2.2.1
/-- a call on a part of the world, an int comes back -/
theorem x_subI (K : XK p m c cc nL s args Ts own D tys A meth ret) {wfc : xF → xA → va_W} {wp : xF → xA → (Int32 → xF → xA → Prop) → Prop} (hM : MI l y ws rm D tys (.ref b :: As) wfc wp) (hw : ws = Cond.code y bytes maxL rett :: ws') (hG : GoodIn Ts (wsV own index C y ws)) (hy : y.cls = C) (hd : xDesc y n) (hrm : xRoom rm R maxL cells slots) {Fc : xF} {Gc : xA} {Qc : (Int32 → xF → xA → Prop)} (hq : wp Fc Gc Qc) (ci q0 : Nat) {T : u_T} {N : Nat} {fs : List Value} (hc : vwCl[ci]? = some (C, T, N)) (he : (wfc Fc Gc)[q0]? = some (b, .inr (ci, fs))) {X : va_W} (wn : xF → xA → va_W) (h0 : w.Perm (X ++ wfc Fc Gc)) (h1 : ∀ F' G', (wn F' G').Perm (X ++ wfc F' G')) (hst : stk = As.reverse ++ .ref b :: st) (hn : As.length = n) (hsum : (st.map fun v => v.category).sum ≤ 8) (hdg : decode cc pc = .ok (.invokevirtual index, 3)) (hpc : pc + 3 = pc')
    (kk : ∀ (r : Int32) (F' : xF) (G' : xA), Qc r F' G' → XJ p l e R s m args below meth c cells slots Q D tys A nL (wn F' G') pc' L (.int r :: st)) : XJ p l e R s m args below meth c cells slots Q D tys A nL w pc L stk := by
  subst hpc
  subst hst
  intro H locs ls hP hD hS hl
  have hPc := xP_right (xP_perm h0 hP)
  have hDc := xD_right (xD_perm h0 hD)
  have hfr := va_freeX hDc hS K.2.2.1
  refine va_calli (va_runV (As := As) (rest := st) K.1 (hM Fc Gc H.size Qc hq) (cwV n K.1.2.2.2.2 hG hw hrm.1 hrm.2.1 ⟨hy, hd⟩ hrm.2.2.1) ⟨xPc_blind, ?_, ?_⟩ rfl hn hl.1 rfl (lv_room hsum) hdg hrm.2.2.2) hS (fun q _ h => hfr q h) (fun q h => hfr q h) (fun r u t H1 locs1 ht hvm hw1 hB hz1 hk1 hS1 => ?_)
  · exact va_recv K.2.1 hPc hc he
  · intro U hU hW
    exact ⟨rfl, by rw [hU], by rw [hU]; exact hPc, va_K.moved hW.alike K.2.1, hDc.weaken (fun _ _ _ _ => trivial), by rw [hU]; exact xt_T_to K.2.2.2.1 hW.alike (fun a h1 h2 => hS.2.1 a h1 h2) (fun q h _ => hfr q h), xNst_warm hW K.2.2.2.2.2.2⟩
  · have hB1 : va_P D vwCl (wfc u.1 u.2) t.heap := hB.1
    rw [ht] at hB1
    have hf := x_frame h0 (h1 u.1 u.2) hP hD hk1 hfr hB1 hB.2
    exact kk r u.1 u.2 hw1 H1 locs1 ls hf.1 hf.2 hS1 hl
/-- a call on a part of the world, nothing comes back -/
theorem x_subV (K : XK p m c cc nL s args Ts own D tys A meth ret) {wfc : xF → xA → va_W} {wp : xF → xA → (xF → xA → Prop) → Prop} (hM : MV l y ws rm D tys (.ref b :: As) wfc wp) (hw : ws = Cond.code y bytes maxL rett :: ws') (hG : GoodIn Ts (wsV own index C y ws)) (hy : y.cls = C) (hd : xDesc y n) (hrm : xRoom rm R maxL cells slots) {Fc : xF} {Gc : xA} {Qc : (xF → xA → Prop)} (hq : wp Fc Gc Qc) (ci q0 : Nat) {T : u_T} {N : Nat} {fs : List Value} (hc : vwCl[ci]? = some (C, T, N)) (he : (wfc Fc Gc)[q0]? = some (b, .inr (ci, fs))) {X : va_W} (wn : xF → xA → va_W) (h0 : w.Perm (X ++ wfc Fc Gc)) (h1 : ∀ F' G', (wn F' G').Perm (X ++ wfc F' G')) (hst : stk = As.reverse ++ .ref b :: st) (hn : As.length = n) (hsum : (st.map fun v => v.category).sum ≤ 8) (hdg : decode cc pc = .ok (.invokevirtual index, 3)) (hpc : pc + 3 = pc')
    (kk : ∀ (F' : xF) (G' : xA), Qc F' G' → XJ p l e R s m args below meth c cells slots Q D tys A nL (wn F' G') pc' L st) : XJ p l e R s m args below meth c cells slots Q D tys A nL w pc L stk := by
  subst hpc
  subst hst
  intro H locs ls hP hD hS hl
  have hPc := xP_right (xP_perm h0 hP)
  have hDc := xD_right (xD_perm h0 hD)
  have hfr := va_freeX hDc hS K.2.2.1
  refine va_callv (va_runV (As := As) (rest := st) K.1 (hM Fc Gc H.size Qc hq) (cwV n K.1.2.2.2.2 hG hw hrm.1 hrm.2.1 ⟨hy, hd⟩ hrm.2.2.1) ⟨xPc_blind, ?_, ?_⟩ rfl hn hl.1 rfl (lv_room hsum) hdg hrm.2.2.2) hS (fun q _ h => hfr q h) (fun q h => hfr q h) (fun u t H1 locs1 ht hvm hw1 hB hz1 hk1 hS1 => ?_)
  · exact va_recv K.2.1 hPc hc he
  · intro U hU hW
    exact ⟨rfl, by rw [hU], by rw [hU]; exact hPc, va_K.moved hW.alike K.2.1, hDc.weaken (fun _ _ _ _ => trivial), by rw [hU]; exact xt_T_to K.2.2.2.1 hW.alike (fun a h1 h2 => hS.2.1 a h1 h2) (fun q h _ => hfr q h), xNst_warm hW K.2.2.2.2.2.2⟩
  · have hB1 : va_P D vwCl (wfc u.1 u.2) t.heap := hB.1
    rw [ht] at hB1
    have hf := x_frame h0 (h1 u.1 u.2) hP hD hk1 hfr hB1 hB.2
    exact kk u.1 u.2 hw1 H1 locs1 ls hf.1 hf.2 hS1 hl
/-- a call on a part of the world, a reference of it comes back -/
theorem x_subR (K : XK p m c cc nL s args Ts own D tys A meth ret) {ad : Nat → Nat} {wfc : xF → xA → va_W} {wp : xF → xA → (Nat → xF → xA → Prop) → Prop} (hM : MR l y ws rm D tys (.ref b :: As) ad wfc wp) (hw : ws = Cond.code y bytes maxL rett :: ws') (hG : GoodIn Ts (wsV own index C y ws)) (hy : y.cls = C) (hd : xDesc y n) (hrm : xRoom rm R maxL cells slots) {Fc : xF} {Gc : xA} {Qc : (Nat → xF → xA → Prop)} (hq : wp Fc Gc Qc) (ci q0 : Nat) {T : u_T} {N : Nat} {fs : List Value} (hc : vwCl[ci]? = some (C, T, N)) (he : (wfc Fc Gc)[q0]? = some (b, .inr (ci, fs))) {X : va_W} (wn : xF → xA → va_W) (h0 : w.Perm (X ++ wfc Fc Gc)) (h1 : ∀ F' G', (wn F' G').Perm (X ++ wfc F' G')) (hst : stk = As.reverse ++ .ref b :: st) (hn : As.length = n) (hsum : (st.map fun v => v.category).sum ≤ 8) (hdg : decode cc pc = .ok (.invokevirtual index, 3)) (hpc : pc + 3 = pc')
    (kk : ∀ (r : Nat) (F' : xF) (G' : xA), Qc r F' G' → XJ p l e R s m args below meth c cells slots Q D tys A nL (wn F' G') pc' L (.ref (ad r) :: st)) : XJ p l e R s m args below meth c cells slots Q D tys A nL w pc L stk := by
  subst hpc
  subst hst
  intro H locs ls hP hD hS hl
  have hPc := xP_right (xP_perm h0 hP)
  have hDc := xD_right (xD_perm h0 hD)
  have hfr := va_freeX hDc hS K.2.2.1
  refine va_callr (va_runV (As := As) (rest := st) K.1 (hM Fc Gc H.size Qc hq) (cwV n K.1.2.2.2.2 hG hw hrm.1 hrm.2.1 ⟨hy, hd⟩ hrm.2.2.1) ⟨xPc_blind, ?_, ?_⟩ rfl hn hl.1 rfl (lv_room hsum) hdg hrm.2.2.2) hS (fun q _ h => hfr q h) (fun q h => hfr q h) (fun u ra t H1 locs1 ht hvm hw1 hB hz1 hk1 hS1 => ?_)
  · exact va_recv K.2.1 hPc hc he
  · intro U hU hW
    exact ⟨rfl, by rw [hU], by rw [hU]; exact hPc, va_K.moved hW.alike K.2.1, hDc.weaken (fun _ _ _ _ => trivial), by rw [hU]; exact xt_T_to K.2.2.2.1 hW.alike (fun a h1 h2 => hS.2.1 a h1 h2) (fun q h _ => hfr q h), xNst_warm hW K.2.2.2.2.2.2⟩
  · obtain ⟨rfl, hB1, hB2⟩ := hB
    rw [ht] at hB1
    have hf := x_frame h0 (h1 u.2.1 u.2.2) hP hD hk1 hfr hB1 hB2
    exact kk u.1 u.2.1 u.2.2 hw1 H1 locs1 ls hf.1 hf.2 hS1 hl
/-- a static call on a part of the world, an int comes back -/
theorem x_subIS (K : XK p m c cc nL s args Ts own D tys A meth ret) {wfc : xF → xA → va_W} {wp : xF → xA → (Int32 → xF → xA → Prop) → Prop} (hM : MI l y ws rm D tys As wfc wp) (hw : ws = Cond.code y bytes maxL rett :: ws') (hG : GoodIn Ts (va_wsS own index y ws)) (hd : xDesc y n) (hrm : xRoom rm R maxL cells slots) {Fc : xF} {Gc : xA} {Qc : (Int32 → xF → xA → Prop)} (hq : wp Fc Gc Qc) {X : va_W} (wn : xF → xA → va_W) (h0 : w.Perm (X ++ wfc Fc Gc)) (h1 : ∀ F' G', (wn F' G').Perm (X ++ wfc F' G')) (hst : stk = As.reverse ++ st) (hn : As.length = n) (hsum : (st.map fun v => v.category).sum ≤ 8) (hdg : decode cc pc = .ok (.invokestatic index, 3)) (hpc : pc + 3 = pc')
    (kk : ∀ (r : Int32) (F' : xF) (G' : xA), Qc r F' G' → XJ p l e R s m args below meth c cells slots Q D tys A nL (wn F' G') pc' L (.int r :: st)) : XJ p l e R s m args below meth c cells slots Q D tys A nL w pc L stk := by
  subst hpc
  subst hst
  intro H locs ls hP hD hS hl
  have hPc := xP_right (xP_perm h0 hP)
  have hDc := xD_right (xD_perm h0 hD)
  have hfr := va_freeX hDc hS K.2.2.1
  refine va_calli (va_runS (As := As) (rest := st) K.1 (hM Fc Gc H.size Qc hq) (va_cwS n K.1.2.2.2.2 hG hw hrm.1 hrm.2.1 hd hrm.2.2.1) ⟨xPc_blind, ?_⟩ rfl hn hl.1 rfl (lv_room hsum) hdg hrm.2.2.2) hS (fun q _ h => hfr q h) (fun q h => hfr q h) (fun r u t H1 locs1 ht hvm hw1 hB hz1 hk1 hS1 => ?_)
  · intro U hU hW
    exact ⟨rfl, by rw [hU], by rw [hU]; exact hPc, va_K.moved hW.alike K.2.1, hDc.weaken (fun _ _ _ _ => trivial), by rw [hU]; exact xt_T_to K.2.2.2.1 hW.alike (fun a h1 h2 => hS.2.1 a h1 h2) (fun q h _ => hfr q h), xNst_warm hW K.2.2.2.2.2.2⟩
  · have hB1 : va_P D vwCl (wfc u.1 u.2) t.heap := hB.1
    rw [ht] at hB1
    have hf := x_frame h0 (h1 u.1 u.2) hP hD hk1 hfr hB1 hB.2
    exact kk r u.1 u.2 hw1 H1 locs1 ls hf.1 hf.2 hS1 hl
/-- a static call on a part of the world, nothing comes back -/
theorem x_subVS (K : XK p m c cc nL s args Ts own D tys A meth ret) {wfc : xF → xA → va_W} {wp : xF → xA → (xF → xA → Prop) → Prop} (hM : MV l y ws rm D tys As wfc wp) (hw : ws = Cond.code y bytes maxL rett :: ws') (hG : GoodIn Ts (va_wsS own index y ws)) (hd : xDesc y n) (hrm : xRoom rm R maxL cells slots) {Fc : xF} {Gc : xA} {Qc : (xF → xA → Prop)} (hq : wp Fc Gc Qc) {X : va_W} (wn : xF → xA → va_W) (h0 : w.Perm (X ++ wfc Fc Gc)) (h1 : ∀ F' G', (wn F' G').Perm (X ++ wfc F' G')) (hst : stk = As.reverse ++ st) (hn : As.length = n) (hsum : (st.map fun v => v.category).sum ≤ 8) (hdg : decode cc pc = .ok (.invokestatic index, 3)) (hpc : pc + 3 = pc')
    (kk : ∀ (F' : xF) (G' : xA), Qc F' G' → XJ p l e R s m args below meth c cells slots Q D tys A nL (wn F' G') pc' L st) : XJ p l e R s m args below meth c cells slots Q D tys A nL w pc L stk := by
  subst hpc
  subst hst
  intro H locs ls hP hD hS hl
  have hPc := xP_right (xP_perm h0 hP)
  have hDc := xD_right (xD_perm h0 hD)
  have hfr := va_freeX hDc hS K.2.2.1
  refine va_callv (va_runS (As := As) (rest := st) K.1 (hM Fc Gc H.size Qc hq) (va_cwS n K.1.2.2.2.2 hG hw hrm.1 hrm.2.1 hd hrm.2.2.1) ⟨xPc_blind, ?_⟩ rfl hn hl.1 rfl (lv_room hsum) hdg hrm.2.2.2) hS (fun q _ h => hfr q h) (fun q h => hfr q h) (fun u t H1 locs1 ht hvm hw1 hB hz1 hk1 hS1 => ?_)
  · intro U hU hW
    exact ⟨rfl, by rw [hU], by rw [hU]; exact hPc, va_K.moved hW.alike K.2.1, hDc.weaken (fun _ _ _ _ => trivial), by rw [hU]; exact xt_T_to K.2.2.2.1 hW.alike (fun a h1 h2 => hS.2.1 a h1 h2) (fun q h _ => hfr q h), xNst_warm hW K.2.2.2.2.2.2⟩
  · have hB1 : va_P D vwCl (wfc u.1 u.2) t.heap := hB.1
    rw [ht] at hB1
    have hf := x_frame h0 (h1 u.1 u.2) hP hD hk1 hfr hB1 hB.2
    exact kk u.1 u.2 hw1 H1 locs1 ls hf.1 hf.2 hS1 hl
theorem x_mmax (K : XK p m c cc nL s args Ts own D tys A meth ret) (hlk : Cond.methodLink own index Lib.Math.max.name ∈ Ts) (hstt : Cond.static Lib.Math.max.name ∈ Ts) (hini : Cond.initialized "java/lang/Math" ∈ Ts) (hcd : Cond.code Lib.Math.max.name Lib.Math.max.code 2 (some .int) ∈ Ts) (hfr : 1 ≤ R.frames) (hlo : (st.map fun v => v.category).sum + 13 ≤ R.locals) (hce : cells ≤ R.cells) (hsl : slots ≤ R.slots) {x y : Int32} (hdg : decode cc pc = .ok (.invokestatic index, 3)) (hpc : pc + 3 = pc') (kk : XJ p l e R s m args below meth c cells slots Q D tys A nL w pc' L (.int (if x < y then y else x) :: st)) : XJ p l e R s m args below meth c cells slots Q D tys A nL w pc L (.int y :: .int x :: st) := by
  subst hpc
  exact fun H locs ls hP hD hS hl => va_mmax K.1.1 K.1.2.1 (K.1.2.2.1.trans hl.1.symm) K.1.2.2.2.1 (K.1.2.2.2.2 _ hlk) (K.1.2.2.2.2 _ hstt) (K.1.2.2.2.2 _ hini) (K.1.2.2.2.2 _ hcd) hfr hlo hce hsl hdg (kk H locs ls hP hD hS hl)
theorem x_mmin (K : XK p m c cc nL s args Ts own D tys A meth ret) (hlk : Cond.methodLink own index Lib.Math.min.name ∈ Ts) (hstt : Cond.static Lib.Math.min.name ∈ Ts) (hini : Cond.initialized "java/lang/Math" ∈ Ts) (hcd : Cond.code Lib.Math.min.name Lib.Math.min.code 2 (some .int) ∈ Ts) (hfr : 1 ≤ R.frames) (hlo : (st.map fun v => v.category).sum + 13 ≤ R.locals) (hce : cells ≤ R.cells) (hsl : slots ≤ R.slots) {x y : Int32} (hdg : decode cc pc = .ok (.invokestatic index, 3)) (hpc : pc + 3 = pc') (kk : XJ p l e R s m args below meth c cells slots Q D tys A nL w pc' L (.int (if y < x then y else x) :: st)) : XJ p l e R s m args below meth c cells slots Q D tys A nL w pc L (.int y :: .int x :: st) := by
  subst hpc
  exact fun H locs ls hP hD hS hl => va_mmin K.1.1 K.1.2.1 (K.1.2.2.1.trans hl.1.symm) K.1.2.2.2.1 (K.1.2.2.2.2 _ hlk) (K.1.2.2.2.2 _ hstt) (K.1.2.2.2.2 _ hini) (K.1.2.2.2.2 _ hcd) hfr hlo hce hsl hdg (kk H locs ls hP hD hS hl)
theorem x_mabs (K : XK p m c cc nL s args Ts own D tys A meth ret) (hlk : Cond.methodLink own index Lib.Math.abs.name ∈ Ts) (hstt : Cond.static Lib.Math.abs.name ∈ Ts) (hini : Cond.initialized "java/lang/Math" ∈ Ts) (hcd : Cond.code Lib.Math.abs.name Lib.Math.abs.code 1 (some .int) ∈ Ts) (hfr : 1 ≤ R.frames) (hlo : (st.map fun v => v.category).sum + 13 ≤ R.locals) (hce : cells ≤ R.cells) (hsl : slots ≤ R.slots) {x : Int32} (hdg : decode cc pc = .ok (.invokestatic index, 3)) (hpc : pc + 3 = pc') (kk : XJ p l e R s m args below meth c cells slots Q D tys A nL w pc' L (.int (if 0 ≤ x then x else 0 - x) :: st)) : XJ p l e R s m args below meth c cells slots Q D tys A nL w pc L (.int x :: st) := by
  subst hpc
  exact fun H locs ls hP hD hS hl => va_mabs K.1.1 K.1.2.1 (K.1.2.2.1.trans hl.1.symm) K.1.2.2.2.1 (K.1.2.2.2.2 _ hlk) (K.1.2.2.2.2 _ hstt) (K.1.2.2.2.2 _ hini) (K.1.2.2.2.2 _ hcd) hfr hlo hce hsl hdg (kk H locs ls hP hD hS hl)
theorem x_copy (K : XK p m c cc nL s args Ts own D tys A meth ret) (hlk : Cond.methodLink own index arraycopyName ∈ Ts) (hnat : Cond.native arraycopyName ∈ Ts) (hstt : Cond.static arraycopyName ∈ Ts) (hini : Cond.initialized "java/lang/System" ∈ Ts) (q0 q1 : Nat) {a0 a1 : Nat} {cA : ClassId} {n0 n1 : Nat} {f g : Nat → Int32} (ha0 : w[q0]? = some (a0, .inl (cA, n0, .inl f))) (ha1 : w[q1]? = some (a1, .inl (cA, n1, .inl g))) (ht : tys[0]? = some (cA, .int)) {sp dp n : Int32} (h1 : ¬ sp < 0) (h2 : ¬ dp < 0) (h3 : ¬ n < 0) (h4 : sp.toNatClampNeg + n.toNatClampNeg ≤ n0) (h5 : dp.toNatClampNeg + n.toNatClampNeg ≤ n1) {w' : va_W} (hw : w.set q1 (a1, .inl (cA, n1, .inl (va_cpy f g sp.toNatClampNeg dp.toNatClampNeg n.toNatClampNeg))) = w') (hfr : 1 ≤ R.frames) (hlo : (st.map fun v => v.category).sum + (nativeFrameWords "java/lang/System" "arraycopy" 5 + 11) ≤ R.locals) (hdg : decode cc pc = .ok (.invokestatic index, 3)) (hpc : pc + 3 = pc') (kk : XJ p l e R s m args below meth c cells slots Q D tys A nL w' pc' L st) : XJ p l e R s m args below meth c cells slots Q D tys A nL w pc L (.int n :: .int dp :: .ref a1 :: .int sp :: .ref a0 :: st) := by
  subst hpc
  subst hw
  exact fun H locs ls hP hD hS hl => va_copyi K.1.1 K.1.2.1 (K.1.2.2.1.trans hl.1.symm) K.1.2.2.2.1 (K.1.2.2.2.2 _ hlk) (K.1.2.2.2.2 _ hnat) (K.1.2.2.2.2 _ hstt) (K.1.2.2.2.2 _ hini) K.2.1 hP hD hS q0 q1 0 0 ha0 ha1 ht ht rfl h1 h2 h3 h4 h5 (fun _ _ => rfl) hfr hlo hdg (fun H1 locs1 hP1 hD1 hS1 => kk H1 locs1 ls hP1 hD1 hS1 hl)
theorem x_aldq (K : XK p m c cc nL s args Ts own D tys A meth ret) (q0 t0 : Nat) {a : Nat} {cA : ClassId} {C : String} {n : Nat} {f : Nat → Option Nat} (ha : w[q0]? = some (a, .inl (cA, n, .inr (.inr (.inr (.inr f)))))) (ht : tys[t0]? = some (cA, .object C)) {i : Int32} (hin : vp_in i n) {v : Value} (hv : va_rf (f i.toNatClampNeg) = v) (hdg : decode cc pc = .ok (.aaload, 1)) (hpc : pc + 1 = pc') (kk : XJ p l e R s m args below meth c cells slots Q D tys A nL w pc' L (v :: st)) : XJ p l e R s m args below meth c cells slots Q D tys A nL w pc L (.int i :: .ref a :: st) := by
  subst hpc
  subst hv
  exact fun H locs ls hP hD hS hl => va_aldq K.1.1 K.1.2.1 K.2.1 hP q0 t0 ha ht hin hdg (kk H locs ls hP hD hS hl)
/-- a static table: its reference, then its places -/
theorem x_tab (K : XK p m c cc nL s args Ts own D tys A meth ret) {ty : FieldType} {C f d : String} {li : List Int32} (hT : xt_one ty C f d li A s s.heap) (hlink : Cond.fieldLink own index C f d ∈ Ts) (hdg : decode cc pc = .ok (.getstatic index, 3)) (hpc : pc + 3 = pc') (kk : ∀ t : Nat, va_T ty t li.length (xt_arr li) A s s.heap → XJ p l e R s m args below meth c cells slots Q D tys A nL w pc' L (.ref t :: st)) : XJ p l e R s m args below meth c cells slots Q D tys A nL w pc L st := by
  subst hpc
  obtain ⟨t, hz, ht⟩ := hT
  exact fun H locs ls hP hD hS hl => va_gets K.1.1 K.1.2.1 hz hS K.1.2.2.2.1 (K.1.2.2.2.2 _ hlink) (fun _ h => h) hdg (kk t ht H locs ls hP hD hS hl)
theorem x_tabN (K : XK p m c cc nL s args Ts own D tys A meth ret) {ty : FieldType} {C f d host : String} {li : List Int32} (hT : xt_one ty C f d li A s s.heap) (hlink : va_Nw (.fieldLinkNest own index C f d host) s) (hdg : decode cc pc = .ok (.getstatic index, 3)) (hpc : pc + 3 = pc') (kk : ∀ t : Nat, va_T ty t li.length (xt_arr li) A s s.heap → XJ p l e R s m args below meth c cells slots Q D tys A nL w pc' L (.ref t :: st)) : XJ p l e R s m args below meth c cells slots Q D tys A nL w pc L st := by
  subst hpc
  obtain ⟨t, hz, ht⟩ := hT
  exact fun H locs ls hP hD hS hl => va_getsN K.1.1 K.1.2.1 hz hS K.1.2.2.2.1 (va_Nw.use rfl hlink) (fun _ h => h) hdg (kk t ht H locs ls hP hD hS hl)
theorem x_tabi (K : XK p m c cc nL s args Ts own D tys A meth ret) {t : Nat} {li : List Int32} (hT : va_T .int t li.length (xt_arr li) A s s.heap) {i : Int32} (hin : vp_in i li.length) (hdg : decode cc pc = .ok (.iaload, 1)) (hpc : pc + 1 = pc') (kk : XJ p l e R s m args below meth c cells slots Q D tys A nL w pc' L (.int (li.getD i.toNatClampNeg 0) :: st)) : XJ p l e R s m args below meth c cells slots Q D tys A nL w pc L (.int i :: .ref t :: st) := by
  subst hpc
  exact fun H locs ls hP hD hS hl => va_ti K.1.1 K.1.2.1 hT hS hin rfl hdg (kk H locs ls hP hD hS hl)
theorem x_tabc (K : XK p m c cc nL s args Ts own D tys A meth ret) {t : Nat} {li : List Int32} (hT : va_T .char t li.length (xt_arr li) A s s.heap) {i : Int32} (hin : vp_in i li.length) (hdg : decode cc pc = .ok (.caload, 1)) (hpc : pc + 1 = pc') (kk : XJ p l e R s m args below meth c cells slots Q D tys A nL w pc' L (.int (li.getD i.toNatClampNeg 0) :: st)) : XJ p l e R s m args below meth c cells slots Q D tys A nL w pc L (.int i :: .ref t :: st) := by
  subst hpc
  exact fun H locs ls hP hD hS hl => va_tc K.1.1 K.1.2.1 hT hS hin rfl hdg (kk H locs ls hP hD hS hl)
theorem x_stk {st' : List Value} (h : st' = st) (kk : XJ p l e R s m args below meth c cells slots Q D tys A nL w pc L st') : XJ p l e R s m args below meth c cells slots Q D tys A nL w pc L st := h ▸ kk
theorem x_weq {w' : va_W} (h : w' = w) (kk : XJ p l e R s m args below meth c cells slots Q D tys A nL w' pc L st) : XJ p l e R s m args below meth c cells slots Q D tys A nL w pc L st := h ▸ kk
theorem xin4 {i : Int32} (h : vp_in i 4) : i.toNatClampNeg = 0 ∨ i.toNatClampNeg = 1 ∨ i.toNatClampNeg = 2 ∨ i.toNatClampNeg = 3 := by
  have h1 : i.toNatClampNeg < 4 := Nat.not_le.mp fun q => h (Or.inr q)
  omega
end XL2
