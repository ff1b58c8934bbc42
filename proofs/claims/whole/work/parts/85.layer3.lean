/-! constructors: the world grows; behind one the object stands at its place, its parts at new ones -/
abbrev xQc (D : va_G) (wf : (Nat → Nat) → xF → xA → va_W) (A : Nat → Prop) (b : Nat) (Q : xF → xA → Prop) : Array Value → State → Outcome → State → Prop := va_Qv (S := (Nat → Nat) × xF × xA) (fun u => u.1 0 = b ∧ Q u.2.1 u.2.2) (fun u t => va_P D vwCl (wf u.1 u.2.1 u.2.2) t.heap ∧ va_D A (wf u.1 u.2.1 u.2.2)) A
def MC (l : Launch) (y : MethodName) (ws : List Cond) (rm : Room) (D : va_G) (tys : List (ClassId × FieldType)) (av : List Value) (b : Nat) (w0 : va_W) (mc ms : Nat) (wf : (Nat → Nat) → xF → xA → va_W) (wp : (xF → xA → Prop) → Prop) : Prop :=
  ∀ (sz : Nat) (Q : xF → xA → Prop), wp Q → Met l y ws rm (xPc D tys av w0 sz) (xQc D wf (va_A w0 sz) b Q) mc ms (va_A w0 sz)
theorem MC_of {l : Launch} {y : MethodName} {ws ws' : List Cond} {rm : Room} {D : va_G} {tys : List (ClassId × FieldType)} {av : List Value} {b : Nat} {w0 : va_W} {mc ms : Nat} {wf : (Nat → Nat) → xF → xA → va_W} {wp : (xF → xA → Prop) → Prop} {cc : ByteArray} {maxL : Nat} {own : String} (hy : plainName y.cls = true) (hw : ws = Cond.code y cc maxL none :: ws') (hcl : y.cls = own) (hnm : y.name = "<init>") (hlen : (lg_sl av).length ≤ maxL)
    (body : ∀ (p : Program) (e : Env) (s : State) (m : MethodId) (args : Array Value) (below : List Frame) (meth : Method) (c : Code) (A : Nat → Prop) (Q : xF → xA → Prop), wp Q → XK p m c cc maxL s args ws own D tys A meth none → meth.name = "<init>" → XJ p l e rm s m args below meth c 0 0 (MQ below (xQc D wf A b Q) args s mc ms A) D tys A maxL w0 0 (lv_args 0 av) []) : MC l y ws rm D tys av b w0 mc ms wf wp := by
  intro sz Q hq
  refine Met.ofW (cc := cc) (maxL := maxL) (ret := none) hy hw ?_
  intro p e s m args below meth c s₁ B hml hv
  obtain ⟨rfl, hsz, hP, hK, hD0, hT, hN⟩ := hv
  subst hsz
  have hts := atoms_spec (ws := ws) B.pre
  have hown : s.vm.findClass own = some m.cls := hcl ▸ findClass_of_methodNamed B.named
  have hin : meth.name = "<init>" := ((name_of_methodNamed B.named B.method).1).trans hnm
  have hb := body p e s m av.toArray below meth c (va_A w0 s.heap.size) Q hq ⟨⟨B.exec, B.bytes, hml, hown, hts⟩, hK, fun q h => Or.inr h, hT, B.notSynchronized, B.returns, hN⟩ hin s.heap [] _ hP hD0.self va_S.rf (lv_entry av hlen)
  rw [lg_entry_eq]
  exact hb
section XL3
variable {p : Program} {l : Launch} {e : Env} {R : Room} {s : State} {m : MethodId} {args : Array Value} {below : List Frame} {meth : Method} {c : Code} {cells slots : Nat} {Q : State → Prop} {D : va_G} {tys : List (ClassId × FieldType)} {A : Nat → Prop} {nL : Nat}
variable {cc bytes : ByteArray} {Ts ws ws' : List Cond} {own C : String} {ret rett : Option FieldType} {L : List (Nat × Value)} {st stk : List Value} {pc pc' index maxL n b : Nat} {y : MethodName} {rm : Room} {As : List Value} {w : va_W}
theorem x_cret (K : XK p m c cc nL s args Ts own D tys A meth none) {wf : (Nat → Nat) → xF → xA → va_W} {Q : xF → xA → Prop} (a : Nat → Nat) {F : xF} {G : xA} (ha : a 0 = b) (hw : w = wf a F G) (hq : Q F G) (hdg : decode cc pc = .ok (.return_, 1)) : XJ p l e R s m args below meth c cells slots (MQ below (xQc D wf A b Q) args s cells slots A) D tys A nL w pc L [] := by
  subst hw
  exact fun H locs ls hP hD hS hl => W.vret K.1.1 K.1.2.1 K.2.2.2.2.2.1 (fun t ht _ => ⟨⟨(a, F, G), rfl, ⟨ha, hq⟩, by rw [ht]; exact hP, hD⟩, hS.F ht⟩) hS.2.2 hdg K.2.2.2.2.1
theorem x_wperm {w' : va_W} (h : w.Perm w') (kk : XJ p l e R s m args below meth c cells slots Q D tys A nL w' pc L st) : XJ p l e R s m args below meth c cells slots Q D tys A nL w pc L st := fun H locs ls hP hD hS hl => kk H locs ls (xP_perm h hP) (xD_perm h hD) hS hl
theorem x_objinit (K : XK p m c cc nL s args Ts own D tys A meth ret) (hlk : Cond.methodLink own index objectInit ∈ Ts) (hin : Cond.instanceMethod objectInit ∈ Ts) (hcd : Cond.code objectInit ⟨#[0xb1]⟩ 1 none ∈ Ts) (hfr : 1 ≤ R.frames) (hlo : (st.map fun v => v.category).sum + 12 ≤ R.locals) (hdg : decode cc pc = .ok (.invokespecial index, 3)) (hpc : pc + 3 = pc') (kk : XJ p l e R s m args below meth c cells slots Q D tys A nL w pc' L st) : XJ p l e R s m args below meth c cells slots Q D tys A nL w pc L (.ref b :: st) := by
  subst hpc
  exact fun H locs ls hP hD hS hl => W.objInit K.1.1 K.1.2.1 K.1.2.2.2.1 (K.1.2.2.2.2 _ hlk) (K.1.2.2.2.2 _ hin) (K.1.2.2.2.2 _ hcd) rfl (hl.1.trans K.1.2.2.1.symm) rfl hdg hfr (by show 2 * 0 + _ + 12 ≤ _; omega) (kk H locs ls hP hD hS hl)
theorem x_new (K : XK p m c cc nL s args Ts own D tys A meth ret) {T : u_T} {N ci : Nat} {fs : List Value} (hin : ∀ w ∈ u_ws C T N, w ∈ Ts) (ty0 : Nat → FieldType) (hty : ∀ k, k < N → parseFieldDescriptor (T k).2.2.1 = some (ty0 k)) (hcl : Cond.classLink own index C ∈ Ts) (hinst : Cond.instantiable C N ∈ Ts) (hini : Cond.initialized C ∈ Ts) (hc : vwCl[ci]? = some (C, T, N)) (hfs : ∀ j, j < N → defaultValue (ty0 j) = vp_V fs j) (hcells : cells + 1 ≤ R.cells) (hslots : slots + N ≤ R.slots) (hdg : decode cc pc = .ok (.new index, 3)) (hpc : pc + 3 = pc') (kk : ∀ q : Nat, XJ p l e R s m args below meth c (cells + 1) (slots + N) Q D tys A nL (w ++ [(q, .inr (ci, fs))]) pc' L (.ref q :: st)) : XJ p l e R s m args below meth c cells slots Q D tys A nL w pc L st := by
  subst hpc
  exact fun H locs ls hP hD hS hl => va_new (cl := vwCl) (D := D) K.1.1 K.1.2.1 K.1.2.2.2.2 hin ty0 hty K.1.2.2.2.1 (K.1.2.2.2.2 _ hcl) (K.1.2.2.2.2 _ hinst) (K.1.2.2.2.2 _ hini) K.2.1 hP hD hS K.2.2.1 hc hfs hcells hslots hdg (fun q H1 hP1 hD1 hS1 => kk q H1 locs ls hP1 hD1 hS1 hl)
theorem x_newa (K : XK p m c cc nL s args Ts own D tys A meth ret) (t0 : Nat) {cA : ClassId} (ht : tys[t0]? = some (cA, .int)) (harr : Cond.arrayClass .int ∈ Ts) {n : Int32} {N : Nat} (hn : ¬ n < 0) (hN : n.toNatClampNeg = N) (hby : N * 4 ≤ 536870912) (hcells : cells + 1 ≤ R.cells) (hslots : slots + N ≤ R.slots) (hdg : decode cc pc = .ok (.newarray .int, 2)) (hpc : pc + 2 = pc') (kk : ∀ q : Nat, XJ p l e R s m args below meth c (cells + 1) (slots + N) Q D tys A nL (w ++ [(q, .inl (cA, N, .inl (fun _ => 0)))]) pc' L (.ref q :: st)) : XJ p l e R s m args below meth c cells slots Q D tys A nL w pc L (.int n :: st) := by
  subst hpc
  intro H locs ls hP hD hS hl
  refine va_newa (cl := vwCl) (D := D) (atype := .int) (ty := .int) (N' := N) (a0 := (N, .inl (fun _ => 0))) K.1.1 K.1.2.1 (K.1.2.2.2.2 _ harr) rfl K.2.1 hP hD hS K.2.2.1 (fun cA => rfl) hn hN hby hcells hslots hdg (fun q cB H1 hK1 hP1 hD1 hS1 => ?_)
  have h1 : s.vm.findClass ("[" ++ FieldType.int.toString) = some cA := (K.2.1.2 t0 _ ht).2
  have h2 : s.vm.findClass ("[" ++ FieldType.int.toString) = some cB := (hK1.2 tys.length (cB, .int) (by rw [List.getElem?_append_right (Nat.le_refl _), Nat.sub_self]; rfl)).2
  have h3 : cB = cA := Option.some.inj (h2.symm.trans h1)
  subst h3
  exact kk q H1 locs ls hP1 hD1 hS1 hl
theorem x_newq (K : XK p m c cc nL s args Ts own D tys A meth ret) (t0 : Nat) {cA : ClassId} (ht : tys[t0]? = some (cA, .object C)) (hcl : Cond.classLink own index C ∈ Ts) (hov : va_AO C s) {n : Int32} {N : Nat} (hn : ¬ n < 0) (hN : n.toNatClampNeg = N) (hby : N * 4 ≤ 536870912) (hcells : cells + 1 ≤ R.cells) (hslots : slots + N ≤ R.slots) (hdg : decode cc pc = .ok (.anewarray index, 3)) (hpc : pc + 3 = pc') (kk : ∀ q : Nat, XJ p l e R s m args below meth c (cells + 1) (slots + N) Q D tys A nL (w ++ [(q, .inl (cA, N, .inr (.inr (.inr (.inr (fun _ => none))))))]) pc' L (.ref q :: st)) : XJ p l e R s m args below meth c cells slots Q D tys A nL w pc L (.int n :: st) := by
  subst hpc
  intro H locs ls hP hD hS hl
  refine va_newq (cl := vwCl) (D := D) K.1.1 K.1.2.1 K.1.2.2.2.1 (K.1.2.2.2.2 _ hcl) hov K.2.1 hP hD hS K.2.2.1 hn hN hby hcells hslots hdg (fun q cB H1 hK1 hP1 hD1 hS1 => ?_)
  obtain ⟨_, _, _, _, _, h1⟩ := (K.2.1.2 t0 _ ht).2
  obtain ⟨_, _, _, _, _, h2⟩ := (hK1.2 tys.length (cB, .object C) (by rw [List.getElem?_append_right (Nat.le_refl _), Nat.sub_self]; rfl)).2
  have h3 : cB = cA := Option.some.inj (h2.symm.trans h1)
  subst h3
  exact kk q H1 locs ls hP1 hD1 hS1 hl
theorem x_astq (K : XK p m c cc nL s args Ts own D tys A meth ret) (q0 t0 qk ci : Nat) {a v : Nat} {cA : ClassId} {r : vw_C} {N : Nat} {vs : List Value} {f : Nat → Option Nat} (ha : w[q0]? = some (a, .inl (cA, N, .inr (.inr (.inr (.inr f)))))) (ht : tys[t0]? = some (cA, .object r.1)) (hv : w[qk]? = some (v, .inr (ci, vs))) (hc : vwCl[ci]? = some r) {i : Int32} (hin : vp_in i N) {w' : va_W} (hw : w.set q0 (a, .inl (cA, N, .inr (.inr (.inr (.inr (va_up f i.toNatClampNeg (some v))))))) = w') (hdg : decode cc pc = .ok (.aastore, 1)) (hpc : pc + 1 = pc') (kk : XJ p l e R s m args below meth c cells slots Q D tys A nL w' pc' L st) : XJ p l e R s m args below meth c cells slots Q D tys A nL w pc L (.ref v :: .int i :: .ref a :: st) := by
  subst hpc
  subst hw
  exact fun H locs ls hP hD hS hl => va_astq K.1.1 K.1.2.1 K.2.1 hP hD hS q0 t0 qk ci ha ht hv hc hin hdg (fun H1 locs1 hP1 hD1 hS1 => kk H1 locs1 ls hP1 hD1 hS1 hl)
/-- of a row of references only its places count -/
theorem x_refeq (q0 : Nat) {a : Nat} {cA : ClassId} {N : Nat} {f g : Nat → Option Nat} (ha : w[q0]? = some (a, .inl (cA, N, .inr (.inr (.inr (.inr f)))))) (hfg : ∀ i, i < N → f i = g i) {w' : va_W} (hw : w.set q0 (a, .inl (cA, N, .inr (.inr (.inr (.inr g))))) = w') (kk : XJ p l e R s m args below meth c cells slots Q D tys A nL w' pc L st) : XJ p l e R s m args below meth c cells slots Q D tys A nL w pc L st := by
  subst hw
  have hcell : vp_cell cA (N, .inr (.inr (.inr (.inr f)))) = vp_cell cA (N, .inr (.inr (.inr (.inr g)))) := by
    have h : (fun j : Fin N => va_rf (f j.val)) = (fun j : Fin N => va_rf (g j.val)) := funext fun j => by rw [hfg j.val j.isLt]
    rw [vp_cell_q, vp_cell_q]
    unfold arrV
    rw [h]
  intro H locs ls hP hD hS hl
  refine kk H locs ls (hP.set hD ha ?_ (fun _ _ => rfl)) (hD.set ha) hS hl
  show H[a]? = some (vp_cell _ _)
  rw [← hcell]
  exact hP q0 _ ha
/-- a final field is written, in a constructor -/
theorem x_putF (K : XK p m c cc nL s args Ts own D tys A meth ret) (hnm : meth.name = "<init>") {ref : String} {T : u_T} {N ci a : Nat} (hin : ∀ w ∈ u_ws C T N, w ∈ Ts) (ty0 : Nat → FieldType) (hty : ∀ k, k < N → parseFieldDescriptor (T k).2.2.1 = some (ty0 k)) (hnm2 : ∀ a, a < N → ∀ b, b < N → a ≠ b → (T a).2.1 ≠ (T b).2.1) (q0 : Nat) {fs : List Value} (he : w[q0]? = some (a, .inr (ci, fs))) (hc : vwCl[ci]? = some (C, T, N)) (k : Nat) (hk : k < N) (hlink : Cond.fieldLink own index ref (T k).2.1 (T k).2.2.1 ∈ Ts) (href : ref = (T k).1) (hdecl : (T k).1 = own) (hfin : (T k).2.2.2 = true) {v : Value} (hnr : narrow (ty0 k) v = v) (hfit : fits (ty0 k) v = true) (hlen : k < fs.length) {w' : va_W} (hw : w.set q0 (a, .inr (ci, fs.set k v)) = w') (hdg : decode cc pc = .ok (.putfield index, 3)) (hn : pc + 3 = pc') (kk : XJ p l e R s m args below meth c cells slots Q D tys A nL w' pc' L st) : XJ p l e R s m args below meth c cells slots Q D tys A nL w pc L (v :: .ref a :: st) := by
  subst hn
  subst hw
  exact fun H locs ls hP hD hS hl => va_putF (cl := vwCl) (D := D) K.1.1 K.1.2.1 K.1.2.2.2.2 hin ty0 hty hnm2 K.1.2.2.2.1 K.2.1 hP hD hS q0 he hc k hk (K.1.2.2.2.2 _ hlink) (fun _ h9 => by rw [href]; exact h9) hfin hnm hdecl (hty k hk) hnr hfit hlen hdg (fun H1 locs1 hP1 hD1 hS1 => kk H1 locs1 ls hP1 hD1 hS1 hl)
theorem xpermC {bl : List va_W} {w Y : va_W} {n : Nat} (hw : w = bl.flatten) (hn : bl.length = n) (is : List Nat) (h : (List.range n).Perm is) (hY : xpick bl is = Y) : w.Perm Y := xperm0 (X := []) hw hn [] is h rfl hY
theorem x_callC (K : XK p m c cc nL s args Ts own D tys A meth ret) {w0 X : va_W} {mc ms : Nat} {wf : (Nat → Nat) → xF → xA → va_W} {wp : (xF → xA → Prop) → Prop} (hM : MC l y ws rm D tys (.ref b :: As) b w0 mc ms wf wp) (hw : ws = Cond.code y bytes maxL none :: ws') (hG : GoodIn Ts ws) (hlk : Cond.methodLink own index y ∈ Ts) (hini : Cond.initialized y.cls ∈ Ts) (hinm : Cond.instanceMethod y ∈ Ts) (hnm : y.name = "<init>") (hd : xDesc y n) (hrm : rm.cells = mc ∧ rm.slots = ms ∧ (rm.frames + 1 ≤ R.frames ∧ 8 + (maxL + 11) + rm.locals ≤ R.locals)) (hroom : cells + mc ≤ R.cells ∧ slots + ms ≤ R.slots) {Qc : xF → xA → Prop} (hq : wp Qc) (hx : w = X ++ w0) (hst : stk = As.reverse ++ .ref b :: st) (hn : As.length = n) (hsum : (st.map fun v => v.category).sum ≤ 8) (hdg : decode cc pc = .ok (.invokespecial index, 3)) (hpc : pc + 3 = pc')
    (kk : ∀ (a : Nat → Nat) (F : xF) (G : xA), a 0 = b → Qc F G → XJ p l e R s m args below meth c (cells + mc) (slots + ms) Q D tys A nL (X ++ wf a F G) pc' L st) : XJ p l e R s m args below meth c cells slots Q D tys A nL w pc L stk := by
  subst hpc
  subst hst
  subst hx
  intro H locs ls hP hD hS hl
  have hPc := xP_right hP
  have hDc := xD_right hD
  have hfr := va_freeX hDc hS K.2.2.1
  refine va_callv (va_runI (As := As) (rest := st) K.1 (hM H.size Qc hq) (cwI n K.1.2.2.2.2 hG hw hrm.1 hrm.2.1 (K.1.2.2.2.2 _ hini) (K.1.2.2.2.2 _ hlk) (K.1.2.2.2.2 _ hinm) hnm hd hrm.2.2) ⟨xPc_blind, ?_⟩ rfl hn hl.1 rfl (lv_room hsum) hdg hroom) hS (fun q _ h => hfr q h) (fun q h => hfr q h) (fun u t H1 locs1 ht hvm hw1 hB hz1 hk1 hS1 => ?_)
  · intro U hU hW
    exact ⟨rfl, by rw [hU], by rw [hU]; exact hPc, va_K.moved hW.alike K.2.1, hDc.weaken (fun _ _ _ _ => trivial), by rw [hU]; exact xt_T_to K.2.2.2.1 hW.alike (fun a h1 h2 => hS.2.1 a h1 h2) (fun q h _ => hfr q h), xNst_warm hW K.2.2.2.2.2.2⟩
  · have hB1 : va_P D vwCl (wf u.1 u.2.1 u.2.2) t.heap := hB.1
    rw [ht] at hB1
    have hf := x_frame (X := X) (Y := w0) (Y' := wf u.1 u.2.1 u.2.2) (List.Perm.refl _) (List.Perm.refl _) hP hD hk1 hfr hB1 hB.2
    exact kk u.1 u.2.1 u.2.2 hw1.1 hw1.2 H1 locs1 ls hf.1 hf.2 hS1 hl
theorem x_callCN (K : XK p m c cc nL s args Ts own D tys A meth ret) {w0 X : va_W} {mc ms : Nat} {wf : (Nat → Nat) → xF → xA → va_W} {wp : (xF → xA → Prop) → Prop} (hM : MC l y ws rm D tys (.ref b :: As) b w0 mc ms wf wp) (hw : ws = Cond.code y bytes maxL none :: ws') (hG : GoodIn Ts ws) {host : String} (hlk : va_Nw (.methodLinkNest own index y host) s) (hini : Cond.initialized y.cls ∈ Ts) (hinm : Cond.instanceMethod y ∈ Ts) (hnm : y.name = "<init>") (hd : xDesc y n) (hrm : rm.cells = mc ∧ rm.slots = ms ∧ (rm.frames + 1 ≤ R.frames ∧ 8 + (maxL + 11) + rm.locals ≤ R.locals)) (hroom : cells + mc ≤ R.cells ∧ slots + ms ≤ R.slots) {Qc : xF → xA → Prop} (hq : wp Qc) (hx : w = X ++ w0) (hst : stk = As.reverse ++ .ref b :: st) (hn : As.length = n) (hsum : (st.map fun v => v.category).sum ≤ 8) (hdg : decode cc pc = .ok (.invokespecial index, 3)) (hpc : pc + 3 = pc')
    (kk : ∀ (a : Nat → Nat) (F : xF) (G : xA), a 0 = b → Qc F G → XJ p l e R s m args below meth c (cells + mc) (slots + ms) Q D tys A nL (X ++ wf a F G) pc' L st) : XJ p l e R s m args below meth c cells slots Q D tys A nL w pc L stk := by
  subst hpc
  subst hst
  subst hx
  intro H locs ls hP hD hS hl
  have hPc := xP_right hP
  have hDc := xD_right hD
  have hfr := va_freeX hDc hS K.2.2.1
  refine va_callv (va_runIN (As := As) (rest := st) K.1 (hM H.size Qc hq) (⟨va_cnB n K.1.2.2.2.2 hG hw hrm.1 hrm.2.1 hlk (K.1.2.2.2.2 _ hini) hd hrm.2.2, hnm, K.1.2.2.2.2 _ hinm⟩) ⟨xPc_blind, ?_⟩ rfl hn hl.1 rfl (lv_room hsum) hdg hroom) hS (fun q _ h => hfr q h) (fun q h => hfr q h) (fun u t H1 locs1 ht hvm hw1 hB hz1 hk1 hS1 => ?_)
  · intro U hU hW
    exact ⟨rfl, by rw [hU], by rw [hU]; exact hPc, va_K.moved hW.alike K.2.1, hDc.weaken (fun _ _ _ _ => trivial), by rw [hU]; exact xt_T_to K.2.2.2.1 hW.alike (fun a h1 h2 => hS.2.1 a h1 h2) (fun q h _ => hfr q h), xNst_warm hW K.2.2.2.2.2.2⟩
  · have hB1 : va_P D vwCl (wf u.1 u.2.1 u.2.2) t.heap := hB.1
    rw [ht] at hB1
    have hf := x_frame (X := X) (Y := w0) (Y' := wf u.1 u.2.1 u.2.2) (List.Perm.refl _) (List.Perm.refl _) hP hD hk1 hfr hB1 hB.2
    exact kk u.1 u.2.1 u.2.2 hw1.1 hw1.2 H1 locs1 ls hf.1 hf.2 hS1 hl
end XL3
