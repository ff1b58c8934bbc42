/-! the law: two objects, call by call, kept alike by I -/
theorem xt_mk {args : Array Value} {s : State} {C n d : String} {ty : FieldType} {li : List Int32} {A : Nat → Prop} (hN : li.length < 2 ^ 31) (hl : (Cond.laysStatic C n d).before args s = true) (hini : (Cond.initialized C).before args s = true) (harr : (Cond.arrayOf (.static C n d) ty).before args s = true) (hlen : (Cond.eq (.length (.static C n d)) (.int (Int32.ofNat li.length))).before args s = true) (hel : ∀ j : Nat, j < li.length → (Cond.eq (.elem (.static C n d) (.int (Int32.ofNat j))) (.int (li.getD j 0))).before args s = true) (hA : ∀ a : Nat, a < s.heap.size → ¬ A a) : xt_one ty C n d li A s s.heap := by
  obtain ⟨t, h1, h2⟩ := va_Tof (f := xt_arr li) (A := A) hN harr (va_eqt hlen) (fun j hj => va_eqt (hel j hj)) hA
  exact ⟨t, va_Zof hl hini h1 hA, h2⟩
section XLAW
variable {p : Program} {l : Launch} {e : Env} {R : Room} {s : State} {m : MethodId} {args : Array Value} {below : List Frame} {meth : Method} {c : Code} {cells slots : Nat} {Q : State → Prop} {D : va_G} {tys : List (ClassId × FieldType)} {A : Nat → Prop} {nL : Nat}
variable {cc : ByteArray} {Ts : List Cond} {own : String} {ret0 : Option FieldType} {L : List (Nat × Value)} {st : List Value} {pc pc' : Nat} {w : va_W} {b Lx : Nat} {xs : Nat → Int32}
theorem x_sld (K : XK p m c cc nL s args Ts own D tys A meth ret0) (hX : va_X b Lx xs s s.heap) (hbl : b < s.heap.size) (hbA : ¬ A b) {i : Int32} (hin : vp_in i Lx) (hdg : decode cc pc = .ok (.iaload, 1)) (hpc : pc + 1 = pc') (kk : XJ p l e R s m args below meth c cells slots Q D tys A nL w pc' L (.int (xs i.toNatClampNeg) :: st)) : XJ p l e R s m args below meth c cells slots Q D tys A nL w pc L (.int i :: .ref b :: st) := by
  subst hpc
  exact fun H locs ls hP hD hS hl => va_sld K.1.1 K.1.2.1 hX hbl hbA hS hin hdg (kk H locs ls hP hD hS hl)
theorem x_slen (K : XK p m c cc nL s args Ts own D tys A meth ret0) (hX : va_X b Lx xs s s.heap) (hbl : b < s.heap.size) (hbA : ¬ A b) (hdg : decode cc pc = .ok (.arraylength, 1)) (hpc : pc + 1 = pc') (kk : XJ p l e R s m args below meth c cells slots Q D tys A nL w pc' L (.int (nI Lx) :: st)) : XJ p l e R s m args below meth c cells slots Q D tys A nL w pc L (.ref b :: st) := by
  subst hpc
  exact fun H locs ls hP hD hS hl => va_slen K.1.1 K.1.2.1 hX hbl hbA hS hdg (kk H locs ls hP hD hS hl)
end XLAW
theorem xlin {k j Lx : Nat} (h : k + j < Lx) (hL : Lx ≤ 3072) : vp_in (nI k + nI j) Lx := by
  rw [nI_add]
  exact vp_in_nI h (by omega)
theorem xlin0 {k Lx : Nat} (h : k < Lx) (hL : Lx ≤ 3072) : vp_in (nI k) Lx := vp_in_nI h (by omega)
theorem xlgo {k Lx : Nat} (hL : Lx ≤ 3072) (hk : k ≤ 3072 + 6) (h : ¬ nI Lx - 6 < nI k) : k + 6 ≤ Lx := by
  have h1 : (nI Lx - nI 6).toInt = (Lx : Int) - (6 : Nat) := pk_sub_toInt (by omega) (by omega)
  have h2 : (nI k).toInt = (k : Int) := nI_toInt (by omega)
  have h3 : ¬ (nI Lx - nI 6).toInt < (nI k).toInt := fun q => h (Int32.lt_iff_toInt_lt.mpr q)
  rw [h1, h2] at h3
  omega

section
variable {p : Program} {l : Launch} {e : Env} {s : State} {m : MethodId} {below : List Frame} {meth : Method} {c : Code} {D : va_G} {cI cO : ClassId} {b Lx : Nat} {xs : Nat → Int32} {aX aM : Nat → Nat}
theorem uL_k52 : Jvm.Cond.constantLong R_law 52 (4294967295) ∈ wsL_law := nw_in nwl_L_law nwe_797 (by decide +kernel)
set_option maxHeartbeats 4000000 in
set_option maxRecDepth 100000 in
theorem tL_oak (K : XK p m c code 4 s #[Value.ref b] wsL_law R_law D (xtys cI cO) (fun q : Nat => s.heap.size ≤ q) meth ret) (hX : va_X b Lx xs s s.heap) (hbl : b < s.heap.size) (hbA : ¬ s.heap.size ≤ b) (hL : Lx ≤ 3072) {I : xF → xA → xF → xA → Prop} (ho : oX_oak I) (k : Nat) (hk : k + 6 ≤ Lx) (F : xF) (G : xA) (F' : xF) (G' : xA) (hI : I F G F' G') (hgo : ∀ (F : xF) (G : xA) (F' : xF) (G' : xA), I F G F' G' → XJ p l e room_1 s m #[Value.ref b] below meth c 121 3708 (lw_Z below #[Value.ref b] s) D (xtys cI cO) (fun q : Nat => s.heap.size ≤ q) 4 (w6 cI cO aX F G ++ w7 cI aM F' G') 1300 [(0, .ref b), (1, .ref (aX 0)), (2, .ref (aM 0)), (3, .int (nI k))] []) : XJ p l e room_1 s m #[Value.ref b] below meth c 121 3708 (lw_Z below #[Value.ref b] s) D (xtys cI cO) (fun q : Nat => s.heap.size ≤ q) 4 (w6 cI cO aX F G ++ w7 cI aM F' G') 192 [(0, .ref b), (1, .ref (aX 0)), (2, .ref (aM 0)), (3, .int (nI k))] [] := by
  have h := fun x1 x2 x3 => ho x1 x2 x3 F G F' G' hI
  refine x_aload_n (pc' := 193) K dL_law_192 1 rfl rfl ?_
  refine x_aload_n (pc' := 194) K dL_law_193 0 rfl rfl ?_
  refine x_iload_n (pc' := 195) K dL_law_194 3 rfl rfl ?_
  refine x_iconst (pc' := 196) (v := 1) K dL_law_195 (by decide) rfl ?_
  refine x_iadd (pc' := 197) K dL_law_196 rfl ?_
  refine x_sld (pc' := 198) K hX hbl hbA (i := nI k + 1) (xlin (j := 1) (by omega) hL) dL_law_197 rfl ?_
  refine x_aload_n (pc' := 199) K dL_law_198 0 rfl rfl ?_
  refine x_iload_n (pc' := 200) K dL_law_199 3 rfl rfl ?_
  refine x_iconst (pc' := 201) (v := 2) K dL_law_200 (by decide) rfl ?_
  refine x_iadd (pc' := 202) K dL_law_201 rfl ?_
  refine x_sld (pc' := 203) K hX hbl hbA (i := nI k + 2) (xlin (j := 2) (by omega) hL) dL_law_202 rfl ?_
  refine x_aload_n (pc' := 204) K dL_law_203 0 rfl rfl ?_
  refine x_iload_n (pc' := 205) K dL_law_204 3 rfl rfl ?_
  refine x_iconst (pc' := 206) (v := 3) K dL_law_205 (by decide) rfl ?_
  refine x_iadd (pc' := 207) K dL_law_206 rfl ?_
  refine x_sld (pc' := 208) K hX hbl hbA (i := nI k + 3) (xlin (j := 3) (by omega) hL) dL_law_207 rfl ?_
  refine x_subI (pc' := 211) (wn := fun F1 G1 => w6 cI cO aX F1 G1 ++ w7 cI aM F' G') K (mX6_oak l D cI cO aX _ _ _) rfl gL_law_X6_oak rfl dsX6_oak ⟨rfl, rfl, ⟨Nat.le_of_ble_eq_true rfl, Nat.le_of_ble_eq_true rfl⟩, Nat.le_of_ble_eq_true rfl, Nat.le_of_ble_eq_true rfl⟩ (h _ _ _) 6 0 rfl rfl (X := w7 cI aM F' G') List.perm_append_comm (fun _ _ => List.perm_append_comm) (st := []) rfl rfl (Nat.le_of_ble_eq_true rfl) dL_law_208 rfl (fun r F1 G1 h => ?_)
  refine x_aload_n (pc' := 212) K dL_law_211 2 rfl rfl ?_
  refine x_aload_n (pc' := 213) K dL_law_212 0 rfl rfl ?_
  refine x_iload_n (pc' := 214) K dL_law_213 3 rfl rfl ?_
  refine x_iconst (pc' := 215) (v := 1) K dL_law_214 (by decide) rfl ?_
  refine x_iadd (pc' := 216) K dL_law_215 rfl ?_
  refine x_sld (pc' := 217) K hX hbl hbA (i := nI k + 1) (xlin (j := 1) (by omega) hL) dL_law_216 rfl ?_
  refine x_aload_n (pc' := 218) K dL_law_217 0 rfl rfl ?_
  refine x_iload_n (pc' := 219) K dL_law_218 3 rfl rfl ?_
  refine x_iconst (pc' := 220) (v := 2) K dL_law_219 (by decide) rfl ?_
  refine x_iadd (pc' := 221) K dL_law_220 rfl ?_
  refine x_sld (pc' := 222) K hX hbl hbA (i := nI k + 2) (xlin (j := 2) (by omega) hL) dL_law_221 rfl ?_
  refine x_aload_n (pc' := 223) K dL_law_222 0 rfl rfl ?_
  refine x_iload_n (pc' := 224) K dL_law_223 3 rfl rfl ?_
  refine x_iconst (pc' := 225) (v := 3) K dL_law_224 (by decide) rfl ?_
  refine x_iadd (pc' := 226) K dL_law_225 rfl ?_
  refine x_sld (pc' := 227) K hX hbl hbA (i := nI k + 3) (xlin (j := 3) (by omega) hL) dL_law_226 rfl ?_
  refine x_subI (pc' := 230) (wn := fun F2 G2 => w6 cI cO aX F1 G1 ++ w7 cI aM F2 G2) K (mX7_oak l D cI cO aM _ _ _) rfl gL_law_X7_oak rfl dsX7_oak ⟨rfl, rfl, ⟨Nat.le_of_ble_eq_true rfl, Nat.le_of_ble_eq_true rfl⟩, Nat.le_of_ble_eq_true rfl, Nat.le_of_ble_eq_true rfl⟩ h 7 0 rfl rfl (X := w6 cI cO aX F1 G1) (List.Perm.refl _) (fun _ _ => List.Perm.refl _) (st := [.int _]) rfl rfl (Nat.le_of_ble_eq_true rfl) dL_law_227 rfl (fun r' F2 G2 h => ?_)
  refine x_icmp_eq (tgt := 1300) (pc' := 233) K dL_law_230 rfl rfl (fun _ => hgo _ _ _ _ h.2) (fun q => absurd h.1 q)
set_option maxHeartbeats 4000000 in
set_option maxRecDepth 100000 in
theorem tL_oakIs (K : XK p m c code 4 s #[Value.ref b] wsL_law R_law D (xtys cI cO) (fun q : Nat => s.heap.size ≤ q) meth ret) (hX : va_X b Lx xs s s.heap) (hbl : b < s.heap.size) (hbA : ¬ s.heap.size ≤ b) (hL : Lx ≤ 3072) {I : xF → xA → xF → xA → Prop} (ho : oX_oakIs I) (k : Nat) (hk : k + 6 ≤ Lx) (F : xF) (G : xA) (F' : xF) (G' : xA) (hI : I F G F' G') (hgo : ∀ (F : xF) (G : xA) (F' : xF) (G' : xA), I F G F' G' → XJ p l e room_1 s m #[Value.ref b] below meth c 121 3708 (lw_Z below #[Value.ref b] s) D (xtys cI cO) (fun q : Nat => s.heap.size ≤ q) 4 (w6 cI cO aX F G ++ w7 cI aM F' G') 1300 [(0, .ref b), (1, .ref (aX 0)), (2, .ref (aM 0)), (3, .int (nI k))] []) : XJ p l e room_1 s m #[Value.ref b] below meth c 121 3708 (lw_Z below #[Value.ref b] s) D (xtys cI cO) (fun q : Nat => s.heap.size ≤ q) 4 (w6 cI cO aX F G ++ w7 cI aM F' G') 235 [(0, .ref b), (1, .ref (aX 0)), (2, .ref (aM 0)), (3, .int (nI k))] [] := by
  have h := fun x1 x2 => ho x1 x2 F G F' G' hI
  refine x_aload_n (pc' := 236) K dL_law_235 1 rfl rfl ?_
  refine x_aload_n (pc' := 237) K dL_law_236 0 rfl rfl ?_
  refine x_iload_n (pc' := 238) K dL_law_237 3 rfl rfl ?_
  refine x_iconst (pc' := 239) (v := 1) K dL_law_238 (by decide) rfl ?_
  refine x_iadd (pc' := 240) K dL_law_239 rfl ?_
  refine x_sld (pc' := 241) K hX hbl hbA (i := nI k + 1) (xlin (j := 1) (by omega) hL) dL_law_240 rfl ?_
  refine x_aload_n (pc' := 242) K dL_law_241 0 rfl rfl ?_
  refine x_iload_n (pc' := 243) K dL_law_242 3 rfl rfl ?_
  refine x_iconst (pc' := 244) (v := 2) K dL_law_243 (by decide) rfl ?_
  refine x_iadd (pc' := 245) K dL_law_244 rfl ?_
  refine x_sld (pc' := 246) K hX hbl hbA (i := nI k + 2) (xlin (j := 2) (by omega) hL) dL_law_245 rfl ?_
  refine x_subI (pc' := 249) (wn := fun F1 G1 => w6 cI cO aX F1 G1 ++ w7 cI aM F' G') K (mX6_oakIs l D cI cO aX _ _) rfl gL_law_X6_oakIs rfl dsX6_oakIs ⟨rfl, rfl, ⟨Nat.le_of_ble_eq_true rfl, Nat.le_of_ble_eq_true rfl⟩, Nat.le_of_ble_eq_true rfl, Nat.le_of_ble_eq_true rfl⟩ (h _ _) 6 0 rfl rfl (X := w7 cI aM F' G') List.perm_append_comm (fun _ _ => List.perm_append_comm) (st := []) rfl rfl (Nat.le_of_ble_eq_true rfl) dL_law_246 rfl (fun r F1 G1 h => ?_)
  refine x_aload_n (pc' := 250) K dL_law_249 2 rfl rfl ?_
  refine x_aload_n (pc' := 251) K dL_law_250 0 rfl rfl ?_
  refine x_iload_n (pc' := 252) K dL_law_251 3 rfl rfl ?_
  refine x_iconst (pc' := 253) (v := 1) K dL_law_252 (by decide) rfl ?_
  refine x_iadd (pc' := 254) K dL_law_253 rfl ?_
  refine x_sld (pc' := 255) K hX hbl hbA (i := nI k + 1) (xlin (j := 1) (by omega) hL) dL_law_254 rfl ?_
  refine x_aload_n (pc' := 256) K dL_law_255 0 rfl rfl ?_
  refine x_iload_n (pc' := 257) K dL_law_256 3 rfl rfl ?_
  refine x_iconst (pc' := 258) (v := 2) K dL_law_257 (by decide) rfl ?_
  refine x_iadd (pc' := 259) K dL_law_258 rfl ?_
  refine x_sld (pc' := 260) K hX hbl hbA (i := nI k + 2) (xlin (j := 2) (by omega) hL) dL_law_259 rfl ?_
  refine x_subI (pc' := 263) (wn := fun F2 G2 => w6 cI cO aX F1 G1 ++ w7 cI aM F2 G2) K (mX7_oakIs l D cI cO aM _ _) rfl gL_law_X7_oakIs rfl dsX7_oakIs ⟨rfl, rfl, ⟨Nat.le_of_ble_eq_true rfl, Nat.le_of_ble_eq_true rfl⟩, Nat.le_of_ble_eq_true rfl, Nat.le_of_ble_eq_true rfl⟩ h 7 0 rfl rfl (X := w6 cI cO aX F1 G1) (List.Perm.refl _) (fun _ _ => List.Perm.refl _) (st := [.int _]) rfl rfl (Nat.le_of_ble_eq_true rfl) dL_law_260 rfl (fun r' F2 G2 h => ?_)
  refine x_icmp_eq (tgt := 1300) (pc' := 266) K dL_law_263 rfl rfl (fun _ => hgo _ _ _ _ h.2) (fun q => absurd h.1 q)
set_option maxHeartbeats 4000000 in
set_option maxRecDepth 100000 in
theorem tL_rain (K : XK p m c code 4 s #[Value.ref b] wsL_law R_law D (xtys cI cO) (fun q : Nat => s.heap.size ≤ q) meth ret) (hX : va_X b Lx xs s s.heap) (hbl : b < s.heap.size) (hbA : ¬ s.heap.size ≤ b) (hL : Lx ≤ 3072) {I : xF → xA → xF → xA → Prop} (ho : oX_rain I) (k : Nat) (hk : k + 6 ≤ Lx) (F : xF) (G : xA) (F' : xF) (G' : xA) (hI : I F G F' G') (hgo : ∀ (F : xF) (G : xA) (F' : xF) (G' : xA), I F G F' G' → XJ p l e room_1 s m #[Value.ref b] below meth c 121 3708 (lw_Z below #[Value.ref b] s) D (xtys cI cO) (fun q : Nat => s.heap.size ≤ q) 4 (w6 cI cO aX F G ++ w7 cI aM F' G') 1300 [(0, .ref b), (1, .ref (aX 0)), (2, .ref (aM 0)), (3, .int (nI k))] []) : XJ p l e room_1 s m #[Value.ref b] below meth c 121 3708 (lw_Z below #[Value.ref b] s) D (xtys cI cO) (fun q : Nat => s.heap.size ≤ q) 4 (w6 cI cO aX F G ++ w7 cI aM F' G') 268 [(0, .ref b), (1, .ref (aX 0)), (2, .ref (aM 0)), (3, .int (nI k))] [] := by
  have h := fun x1 => ho x1 F G F' G' hI
  refine x_aload_n (pc' := 269) K dL_law_268 1 rfl rfl ?_
  refine x_aload_n (pc' := 270) K dL_law_269 0 rfl rfl ?_
  refine x_iload_n (pc' := 271) K dL_law_270 3 rfl rfl ?_
  refine x_iconst (pc' := 272) (v := 1) K dL_law_271 (by decide) rfl ?_
  refine x_iadd (pc' := 273) K dL_law_272 rfl ?_
  refine x_sld (pc' := 274) K hX hbl hbA (i := nI k + 1) (xlin (j := 1) (by omega) hL) dL_law_273 rfl ?_
  refine x_subI (pc' := 277) (wn := fun F1 G1 => w6 cI cO aX F1 G1 ++ w7 cI aM F' G') K (mX6_rain l D cI cO aX _) rfl gL_law_X6_rain rfl dsX6_rain ⟨rfl, rfl, ⟨Nat.le_of_ble_eq_true rfl, Nat.le_of_ble_eq_true rfl⟩, Nat.le_of_ble_eq_true rfl, Nat.le_of_ble_eq_true rfl⟩ (h _) 6 0 rfl rfl (X := w7 cI aM F' G') List.perm_append_comm (fun _ _ => List.perm_append_comm) (st := []) rfl rfl (Nat.le_of_ble_eq_true rfl) dL_law_274 rfl (fun r F1 G1 h => ?_)
  refine x_aload_n (pc' := 278) K dL_law_277 2 rfl rfl ?_
  refine x_aload_n (pc' := 279) K dL_law_278 0 rfl rfl ?_
  refine x_iload_n (pc' := 280) K dL_law_279 3 rfl rfl ?_
  refine x_iconst (pc' := 281) (v := 1) K dL_law_280 (by decide) rfl ?_
  refine x_iadd (pc' := 282) K dL_law_281 rfl ?_
  refine x_sld (pc' := 283) K hX hbl hbA (i := nI k + 1) (xlin (j := 1) (by omega) hL) dL_law_282 rfl ?_
  refine x_subI (pc' := 286) (wn := fun F2 G2 => w6 cI cO aX F1 G1 ++ w7 cI aM F2 G2) K (mX7_rain l D cI cO aM _) rfl gL_law_X7_rain rfl dsX7_rain ⟨rfl, rfl, ⟨Nat.le_of_ble_eq_true rfl, Nat.le_of_ble_eq_true rfl⟩, Nat.le_of_ble_eq_true rfl, Nat.le_of_ble_eq_true rfl⟩ h 7 0 rfl rfl (X := w6 cI cO aX F1 G1) (List.Perm.refl _) (fun _ _ => List.Perm.refl _) (st := [.int _]) rfl rfl (Nat.le_of_ble_eq_true rfl) dL_law_283 rfl (fun r' F2 G2 h => ?_)
  refine x_icmp_eq (tgt := 1300) (pc' := 289) K dL_law_286 rfl rfl (fun _ => hgo _ _ _ _ h.2) (fun q => absurd h.1 q)
set_option maxHeartbeats 4000000 in
set_option maxRecDepth 100000 in
theorem tL_farmer (K : XK p m c code 4 s #[Value.ref b] wsL_law R_law D (xtys cI cO) (fun q : Nat => s.heap.size ≤ q) meth ret) (hX : va_X b Lx xs s s.heap) (hbl : b < s.heap.size) (hbA : ¬ s.heap.size ≤ b) (hL : Lx ≤ 3072) {I : xF → xA → xF → xA → Prop} (ho : oX_farmer I) (k : Nat) (hk : k + 6 ≤ Lx) (F : xF) (G : xA) (F' : xF) (G' : xA) (hI : I F G F' G') (hgo : ∀ (F : xF) (G : xA) (F' : xF) (G' : xA), I F G F' G' → XJ p l e room_1 s m #[Value.ref b] below meth c 121 3708 (lw_Z below #[Value.ref b] s) D (xtys cI cO) (fun q : Nat => s.heap.size ≤ q) 4 (w6 cI cO aX F G ++ w7 cI aM F' G') 1300 [(0, .ref b), (1, .ref (aX 0)), (2, .ref (aM 0)), (3, .int (nI k))] []) : XJ p l e room_1 s m #[Value.ref b] below meth c 121 3708 (lw_Z below #[Value.ref b] s) D (xtys cI cO) (fun q : Nat => s.heap.size ≤ q) 4 (w6 cI cO aX F G ++ w7 cI aM F' G') 291 [(0, .ref b), (1, .ref (aX 0)), (2, .ref (aM 0)), (3, .int (nI k))] [] := by
  have h := fun x1 x2 => ho x1 x2 F G F' G' hI
  refine x_aload_n (pc' := 292) K dL_law_291 1 rfl rfl ?_
  refine x_aload_n (pc' := 293) K dL_law_292 0 rfl rfl ?_
  refine x_iload_n (pc' := 294) K dL_law_293 3 rfl rfl ?_
  refine x_iconst (pc' := 295) (v := 1) K dL_law_294 (by decide) rfl ?_
  refine x_iadd (pc' := 296) K dL_law_295 rfl ?_
  refine x_sld (pc' := 297) K hX hbl hbA (i := nI k + 1) (xlin (j := 1) (by omega) hL) dL_law_296 rfl ?_
  refine x_aload_n (pc' := 298) K dL_law_297 0 rfl rfl ?_
  refine x_iload_n (pc' := 299) K dL_law_298 3 rfl rfl ?_
  refine x_iconst (pc' := 300) (v := 2) K dL_law_299 (by decide) rfl ?_
  refine x_iadd (pc' := 301) K dL_law_300 rfl ?_
  refine x_sld (pc' := 302) K hX hbl hbA (i := nI k + 2) (xlin (j := 2) (by omega) hL) dL_law_301 rfl ?_
  refine x_subI (pc' := 305) (wn := fun F1 G1 => w6 cI cO aX F1 G1 ++ w7 cI aM F' G') K (mX6_farmer l D cI cO aX _ _) rfl gL_law_X6_farmer rfl dsX6_farmer ⟨rfl, rfl, ⟨Nat.le_of_ble_eq_true rfl, Nat.le_of_ble_eq_true rfl⟩, Nat.le_of_ble_eq_true rfl, Nat.le_of_ble_eq_true rfl⟩ (h _ _) 6 0 rfl rfl (X := w7 cI aM F' G') List.perm_append_comm (fun _ _ => List.perm_append_comm) (st := []) rfl rfl (Nat.le_of_ble_eq_true rfl) dL_law_302 rfl (fun r F1 G1 h => ?_)
  refine x_aload_n (pc' := 306) K dL_law_305 2 rfl rfl ?_
  refine x_aload_n (pc' := 307) K dL_law_306 0 rfl rfl ?_
  refine x_iload_n (pc' := 308) K dL_law_307 3 rfl rfl ?_
  refine x_iconst (pc' := 309) (v := 1) K dL_law_308 (by decide) rfl ?_
  refine x_iadd (pc' := 310) K dL_law_309 rfl ?_
  refine x_sld (pc' := 311) K hX hbl hbA (i := nI k + 1) (xlin (j := 1) (by omega) hL) dL_law_310 rfl ?_
  refine x_aload_n (pc' := 312) K dL_law_311 0 rfl rfl ?_
  refine x_iload_n (pc' := 313) K dL_law_312 3 rfl rfl ?_
  refine x_iconst (pc' := 314) (v := 2) K dL_law_313 (by decide) rfl ?_
  refine x_iadd (pc' := 315) K dL_law_314 rfl ?_
  refine x_sld (pc' := 316) K hX hbl hbA (i := nI k + 2) (xlin (j := 2) (by omega) hL) dL_law_315 rfl ?_
  refine x_subI (pc' := 319) (wn := fun F2 G2 => w6 cI cO aX F1 G1 ++ w7 cI aM F2 G2) K (mX7_farmer l D cI cO aM _ _) rfl gL_law_X7_farmer rfl dsX7_farmer ⟨rfl, rfl, ⟨Nat.le_of_ble_eq_true rfl, Nat.le_of_ble_eq_true rfl⟩, Nat.le_of_ble_eq_true rfl, Nat.le_of_ble_eq_true rfl⟩ h 7 0 rfl rfl (X := w6 cI cO aX F1 G1) (List.Perm.refl _) (fun _ _ => List.Perm.refl _) (st := [.int _]) rfl rfl (Nat.le_of_ble_eq_true rfl) dL_law_316 rfl (fun r' F2 G2 h => ?_)
  refine x_icmp_eq (tgt := 1300) (pc' := 322) K dL_law_319 rfl rfl (fun _ => hgo _ _ _ _ h.2) (fun q => absurd h.1 q)
set_option maxHeartbeats 4000000 in
set_option maxRecDepth 100000 in
theorem tL_farmerIs (K : XK p m c code 4 s #[Value.ref b] wsL_law R_law D (xtys cI cO) (fun q : Nat => s.heap.size ≤ q) meth ret) (hX : va_X b Lx xs s s.heap) (hbl : b < s.heap.size) (hbA : ¬ s.heap.size ≤ b) (hL : Lx ≤ 3072) {I : xF → xA → xF → xA → Prop} (ho : oX_farmerIs I) (k : Nat) (hk : k + 6 ≤ Lx) (F : xF) (G : xA) (F' : xF) (G' : xA) (hI : I F G F' G') (hgo : ∀ (F : xF) (G : xA) (F' : xF) (G' : xA), I F G F' G' → XJ p l e room_1 s m #[Value.ref b] below meth c 121 3708 (lw_Z below #[Value.ref b] s) D (xtys cI cO) (fun q : Nat => s.heap.size ≤ q) 4 (w6 cI cO aX F G ++ w7 cI aM F' G') 1300 [(0, .ref b), (1, .ref (aX 0)), (2, .ref (aM 0)), (3, .int (nI k))] []) : XJ p l e room_1 s m #[Value.ref b] below meth c 121 3708 (lw_Z below #[Value.ref b] s) D (xtys cI cO) (fun q : Nat => s.heap.size ≤ q) 4 (w6 cI cO aX F G ++ w7 cI aM F' G') 324 [(0, .ref b), (1, .ref (aX 0)), (2, .ref (aM 0)), (3, .int (nI k))] [] := by
  have h := fun x1 x2 => ho x1 x2 F G F' G' hI
  refine x_aload_n (pc' := 325) K dL_law_324 1 rfl rfl ?_
  refine x_aload_n (pc' := 326) K dL_law_325 0 rfl rfl ?_
  refine x_iload_n (pc' := 327) K dL_law_326 3 rfl rfl ?_
  refine x_iconst (pc' := 328) (v := 1) K dL_law_327 (by decide) rfl ?_
  refine x_iadd (pc' := 329) K dL_law_328 rfl ?_
  refine x_sld (pc' := 330) K hX hbl hbA (i := nI k + 1) (xlin (j := 1) (by omega) hL) dL_law_329 rfl ?_
  refine x_aload_n (pc' := 331) K dL_law_330 0 rfl rfl ?_
  refine x_iload_n (pc' := 332) K dL_law_331 3 rfl rfl ?_
  refine x_iconst (pc' := 333) (v := 2) K dL_law_332 (by decide) rfl ?_
  refine x_iadd (pc' := 334) K dL_law_333 rfl ?_
  refine x_sld (pc' := 335) K hX hbl hbA (i := nI k + 2) (xlin (j := 2) (by omega) hL) dL_law_334 rfl ?_
  refine x_subI (pc' := 338) (wn := fun F1 G1 => w6 cI cO aX F1 G1 ++ w7 cI aM F' G') K (mX6_farmerIs l D cI cO aX _ _) rfl gL_law_X6_farmerIs rfl dsX6_farmerIs ⟨rfl, rfl, ⟨Nat.le_of_ble_eq_true rfl, Nat.le_of_ble_eq_true rfl⟩, Nat.le_of_ble_eq_true rfl, Nat.le_of_ble_eq_true rfl⟩ (h _ _) 6 0 rfl rfl (X := w7 cI aM F' G') List.perm_append_comm (fun _ _ => List.perm_append_comm) (st := []) rfl rfl (Nat.le_of_ble_eq_true rfl) dL_law_335 rfl (fun r F1 G1 h => ?_)
  refine x_aload_n (pc' := 339) K dL_law_338 2 rfl rfl ?_
  refine x_aload_n (pc' := 340) K dL_law_339 0 rfl rfl ?_
  refine x_iload_n (pc' := 341) K dL_law_340 3 rfl rfl ?_
  refine x_iconst (pc' := 342) (v := 1) K dL_law_341 (by decide) rfl ?_
  refine x_iadd (pc' := 343) K dL_law_342 rfl ?_
  refine x_sld (pc' := 344) K hX hbl hbA (i := nI k + 1) (xlin (j := 1) (by omega) hL) dL_law_343 rfl ?_
  refine x_aload_n (pc' := 345) K dL_law_344 0 rfl rfl ?_
  refine x_iload_n (pc' := 346) K dL_law_345 3 rfl rfl ?_
  refine x_iconst (pc' := 347) (v := 2) K dL_law_346 (by decide) rfl ?_
  refine x_iadd (pc' := 348) K dL_law_347 rfl ?_
  refine x_sld (pc' := 349) K hX hbl hbA (i := nI k + 2) (xlin (j := 2) (by omega) hL) dL_law_348 rfl ?_
  refine x_subI (pc' := 352) (wn := fun F2 G2 => w6 cI cO aX F1 G1 ++ w7 cI aM F2 G2) K (mX7_farmerIs l D cI cO aM _ _) rfl gL_law_X7_farmerIs rfl dsX7_farmerIs ⟨rfl, rfl, ⟨Nat.le_of_ble_eq_true rfl, Nat.le_of_ble_eq_true rfl⟩, Nat.le_of_ble_eq_true rfl, Nat.le_of_ble_eq_true rfl⟩ h 7 0 rfl rfl (X := w6 cI cO aX F1 G1) (List.Perm.refl _) (fun _ _ => List.Perm.refl _) (st := [.int _]) rfl rfl (Nat.le_of_ble_eq_true rfl) dL_law_349 rfl (fun r' F2 G2 h => ?_)
  refine x_icmp_eq (tgt := 1300) (pc' := 355) K dL_law_352 rfl rfl (fun _ => hgo _ _ _ _ h.2) (fun q => absurd h.1 q)
set_option maxHeartbeats 4000000 in
set_option maxRecDepth 100000 in
theorem tL_as (K : XK p m c code 4 s #[Value.ref b] wsL_law R_law D (xtys cI cO) (fun q : Nat => s.heap.size ≤ q) meth ret) (hX : va_X b Lx xs s s.heap) (hbl : b < s.heap.size) (hbA : ¬ s.heap.size ≤ b) (hL : Lx ≤ 3072) {I : xF → xA → xF → xA → Prop} (ho : oX_as I) (k : Nat) (hk : k + 6 ≤ Lx) (F : xF) (G : xA) (F' : xF) (G' : xA) (hI : I F G F' G') (hgo : ∀ (F : xF) (G : xA) (F' : xF) (G' : xA), I F G F' G' → XJ p l e room_1 s m #[Value.ref b] below meth c 121 3708 (lw_Z below #[Value.ref b] s) D (xtys cI cO) (fun q : Nat => s.heap.size ≤ q) 4 (w6 cI cO aX F G ++ w7 cI aM F' G') 1300 [(0, .ref b), (1, .ref (aX 0)), (2, .ref (aM 0)), (3, .int (nI k))] []) : XJ p l e room_1 s m #[Value.ref b] below meth c 121 3708 (lw_Z below #[Value.ref b] s) D (xtys cI cO) (fun q : Nat => s.heap.size ≤ q) 4 (w6 cI cO aX F G ++ w7 cI aM F' G') 357 [(0, .ref b), (1, .ref (aX 0)), (2, .ref (aM 0)), (3, .int (nI k))] [] := by
  have h := fun x1 x2 => ho x1 x2 F G F' G' hI
  refine x_aload_n (pc' := 358) K dL_law_357 1 rfl rfl ?_
  refine x_aload_n (pc' := 359) K dL_law_358 0 rfl rfl ?_
  refine x_iload_n (pc' := 360) K dL_law_359 3 rfl rfl ?_
  refine x_iconst (pc' := 361) (v := 1) K dL_law_360 (by decide) rfl ?_
  refine x_iadd (pc' := 362) K dL_law_361 rfl ?_
  refine x_sld (pc' := 363) K hX hbl hbA (i := nI k + 1) (xlin (j := 1) (by omega) hL) dL_law_362 rfl ?_
  refine x_aload_n (pc' := 364) K dL_law_363 0 rfl rfl ?_
  refine x_iload_n (pc' := 365) K dL_law_364 3 rfl rfl ?_
  refine x_iconst (pc' := 366) (v := 2) K dL_law_365 (by decide) rfl ?_
  refine x_iadd (pc' := 367) K dL_law_366 rfl ?_
  refine x_sld (pc' := 368) K hX hbl hbA (i := nI k + 2) (xlin (j := 2) (by omega) hL) dL_law_367 rfl ?_
  refine x_subI (pc' := 371) (wn := fun F1 G1 => w6 cI cO aX F1 G1 ++ w7 cI aM F' G') K (mX6_as l D cI cO aX _ _) rfl gL_law_X6_as rfl dsX6_as ⟨rfl, rfl, ⟨Nat.le_of_ble_eq_true rfl, Nat.le_of_ble_eq_true rfl⟩, Nat.le_of_ble_eq_true rfl, Nat.le_of_ble_eq_true rfl⟩ (h _ _) 6 0 rfl rfl (X := w7 cI aM F' G') List.perm_append_comm (fun _ _ => List.perm_append_comm) (st := []) rfl rfl (Nat.le_of_ble_eq_true rfl) dL_law_368 rfl (fun r F1 G1 h => ?_)
  refine x_aload_n (pc' := 372) K dL_law_371 2 rfl rfl ?_
  refine x_aload_n (pc' := 373) K dL_law_372 0 rfl rfl ?_
  refine x_iload_n (pc' := 374) K dL_law_373 3 rfl rfl ?_
  refine x_iconst (pc' := 375) (v := 1) K dL_law_374 (by decide) rfl ?_
  refine x_iadd (pc' := 376) K dL_law_375 rfl ?_
  refine x_sld (pc' := 377) K hX hbl hbA (i := nI k + 1) (xlin (j := 1) (by omega) hL) dL_law_376 rfl ?_
  refine x_aload_n (pc' := 378) K dL_law_377 0 rfl rfl ?_
  refine x_iload_n (pc' := 379) K dL_law_378 3 rfl rfl ?_
  refine x_iconst (pc' := 380) (v := 2) K dL_law_379 (by decide) rfl ?_
  refine x_iadd (pc' := 381) K dL_law_380 rfl ?_
  refine x_sld (pc' := 382) K hX hbl hbA (i := nI k + 2) (xlin (j := 2) (by omega) hL) dL_law_381 rfl ?_
  refine x_subI (pc' := 385) (wn := fun F2 G2 => w6 cI cO aX F1 G1 ++ w7 cI aM F2 G2) K (mX7_as l D cI cO aM _ _) rfl gL_law_X7_as rfl dsX7_as ⟨rfl, rfl, ⟨Nat.le_of_ble_eq_true rfl, Nat.le_of_ble_eq_true rfl⟩, Nat.le_of_ble_eq_true rfl, Nat.le_of_ble_eq_true rfl⟩ h 7 0 rfl rfl (X := w6 cI cO aX F1 G1) (List.Perm.refl _) (fun _ _ => List.Perm.refl _) (st := [.int _]) rfl rfl (Nat.le_of_ble_eq_true rfl) dL_law_382 rfl (fun r' F2 G2 h => ?_)
  refine x_icmp_eq (tgt := 1300) (pc' := 388) K dL_law_385 rfl rfl (fun _ => hgo _ _ _ _ h.2) (fun q => absurd h.1 q)
set_option maxHeartbeats 4000000 in
set_option maxRecDepth 100000 in
theorem tL_trade (K : XK p m c code 4 s #[Value.ref b] wsL_law R_law D (xtys cI cO) (fun q : Nat => s.heap.size ≤ q) meth ret) (hX : va_X b Lx xs s s.heap) (hbl : b < s.heap.size) (hbA : ¬ s.heap.size ≤ b) (hL : Lx ≤ 3072) {I : xF → xA → xF → xA → Prop} (ho : oX_trade I) (k : Nat) (hk : k + 6 ≤ Lx) (F : xF) (G : xA) (F' : xF) (G' : xA) (hI : I F G F' G') (hgo : ∀ (F : xF) (G : xA) (F' : xF) (G' : xA), I F G F' G' → XJ p l e room_1 s m #[Value.ref b] below meth c 121 3708 (lw_Z below #[Value.ref b] s) D (xtys cI cO) (fun q : Nat => s.heap.size ≤ q) 4 (w6 cI cO aX F G ++ w7 cI aM F' G') 1300 [(0, .ref b), (1, .ref (aX 0)), (2, .ref (aM 0)), (3, .int (nI k))] []) : XJ p l e room_1 s m #[Value.ref b] below meth c 121 3708 (lw_Z below #[Value.ref b] s) D (xtys cI cO) (fun q : Nat => s.heap.size ≤ q) 4 (w6 cI cO aX F G ++ w7 cI aM F' G') 390 [(0, .ref b), (1, .ref (aX 0)), (2, .ref (aM 0)), (3, .int (nI k))] [] := by
  have h := fun x1 x2 => ho x1 x2 F G F' G' hI
  refine x_aload_n (pc' := 391) K dL_law_390 1 rfl rfl ?_
  refine x_aload_n (pc' := 392) K dL_law_391 0 rfl rfl ?_
  refine x_iload_n (pc' := 393) K dL_law_392 3 rfl rfl ?_
  refine x_iconst (pc' := 394) (v := 1) K dL_law_393 (by decide) rfl ?_
  refine x_iadd (pc' := 395) K dL_law_394 rfl ?_
  refine x_sld (pc' := 396) K hX hbl hbA (i := nI k + 1) (xlin (j := 1) (by omega) hL) dL_law_395 rfl ?_
  refine x_aload_n (pc' := 397) K dL_law_396 0 rfl rfl ?_
  refine x_iload_n (pc' := 398) K dL_law_397 3 rfl rfl ?_
  refine x_iconst (pc' := 399) (v := 2) K dL_law_398 (by decide) rfl ?_
  refine x_iadd (pc' := 400) K dL_law_399 rfl ?_
  refine x_sld (pc' := 401) K hX hbl hbA (i := nI k + 2) (xlin (j := 2) (by omega) hL) dL_law_400 rfl ?_
  refine x_subI (pc' := 404) (wn := fun F1 G1 => w6 cI cO aX F1 G1 ++ w7 cI aM F' G') K (mX6_trade l D cI cO aX _ _) rfl gL_law_X6_trade rfl dsX6_trade ⟨rfl, rfl, ⟨Nat.le_of_ble_eq_true rfl, Nat.le_of_ble_eq_true rfl⟩, Nat.le_of_ble_eq_true rfl, Nat.le_of_ble_eq_true rfl⟩ (h _ _) 6 0 rfl rfl (X := w7 cI aM F' G') List.perm_append_comm (fun _ _ => List.perm_append_comm) (st := []) rfl rfl (Nat.le_of_ble_eq_true rfl) dL_law_401 rfl (fun r F1 G1 h => ?_)
  refine x_aload_n (pc' := 405) K dL_law_404 2 rfl rfl ?_
  refine x_aload_n (pc' := 406) K dL_law_405 0 rfl rfl ?_
  refine x_iload_n (pc' := 407) K dL_law_406 3 rfl rfl ?_
  refine x_iconst (pc' := 408) (v := 1) K dL_law_407 (by decide) rfl ?_
  refine x_iadd (pc' := 409) K dL_law_408 rfl ?_
  refine x_sld (pc' := 410) K hX hbl hbA (i := nI k + 1) (xlin (j := 1) (by omega) hL) dL_law_409 rfl ?_
  refine x_aload_n (pc' := 411) K dL_law_410 0 rfl rfl ?_
  refine x_iload_n (pc' := 412) K dL_law_411 3 rfl rfl ?_
  refine x_iconst (pc' := 413) (v := 2) K dL_law_412 (by decide) rfl ?_
  refine x_iadd (pc' := 414) K dL_law_413 rfl ?_
  refine x_sld (pc' := 415) K hX hbl hbA (i := nI k + 2) (xlin (j := 2) (by omega) hL) dL_law_414 rfl ?_
  refine x_subI (pc' := 418) (wn := fun F2 G2 => w6 cI cO aX F1 G1 ++ w7 cI aM F2 G2) K (mX7_trade l D cI cO aM _ _) rfl gL_law_X7_trade rfl dsX7_trade ⟨rfl, rfl, ⟨Nat.le_of_ble_eq_true rfl, Nat.le_of_ble_eq_true rfl⟩, Nat.le_of_ble_eq_true rfl, Nat.le_of_ble_eq_true rfl⟩ h 7 0 rfl rfl (X := w6 cI cO aX F1 G1) (List.Perm.refl _) (fun _ _ => List.Perm.refl _) (st := [.int _]) rfl rfl (Nat.le_of_ble_eq_true rfl) dL_law_415 rfl (fun r' F2 G2 h => ?_)
  refine x_icmp_eq (tgt := 1300) (pc' := 421) K dL_law_418 rfl rfl (fun _ => hgo _ _ _ _ h.2) (fun q => absurd h.1 q)
set_option maxHeartbeats 4000000 in
set_option maxRecDepth 100000 in
theorem tL_leash (K : XK p m c code 4 s #[Value.ref b] wsL_law R_law D (xtys cI cO) (fun q : Nat => s.heap.size ≤ q) meth ret) (hX : va_X b Lx xs s s.heap) (hbl : b < s.heap.size) (hbA : ¬ s.heap.size ≤ b) (hL : Lx ≤ 3072) {I : xF → xA → xF → xA → Prop} (ho : oX_leash I) (k : Nat) (hk : k + 6 ≤ Lx) (F : xF) (G : xA) (F' : xF) (G' : xA) (hI : I F G F' G') (hgo : ∀ (F : xF) (G : xA) (F' : xF) (G' : xA), I F G F' G' → XJ p l e room_1 s m #[Value.ref b] below meth c 121 3708 (lw_Z below #[Value.ref b] s) D (xtys cI cO) (fun q : Nat => s.heap.size ≤ q) 4 (w6 cI cO aX F G ++ w7 cI aM F' G') 1300 [(0, .ref b), (1, .ref (aX 0)), (2, .ref (aM 0)), (3, .int (nI k))] []) : XJ p l e room_1 s m #[Value.ref b] below meth c 121 3708 (lw_Z below #[Value.ref b] s) D (xtys cI cO) (fun q : Nat => s.heap.size ≤ q) 4 (w6 cI cO aX F G ++ w7 cI aM F' G') 423 [(0, .ref b), (1, .ref (aX 0)), (2, .ref (aM 0)), (3, .int (nI k))] [] := by
  have h := fun x1 x2 x3 => ho x1 x2 x3 F G F' G' hI
  refine x_aload_n (pc' := 424) K dL_law_423 1 rfl rfl ?_
  refine x_aload_n (pc' := 425) K dL_law_424 0 rfl rfl ?_
  refine x_iload_n (pc' := 426) K dL_law_425 3 rfl rfl ?_
  refine x_iconst (pc' := 427) (v := 1) K dL_law_426 (by decide) rfl ?_
  refine x_iadd (pc' := 428) K dL_law_427 rfl ?_
  refine x_sld (pc' := 429) K hX hbl hbA (i := nI k + 1) (xlin (j := 1) (by omega) hL) dL_law_428 rfl ?_
  refine x_aload_n (pc' := 430) K dL_law_429 0 rfl rfl ?_
  refine x_iload_n (pc' := 431) K dL_law_430 3 rfl rfl ?_
  refine x_iconst (pc' := 432) (v := 2) K dL_law_431 (by decide) rfl ?_
  refine x_iadd (pc' := 433) K dL_law_432 rfl ?_
  refine x_sld (pc' := 434) K hX hbl hbA (i := nI k + 2) (xlin (j := 2) (by omega) hL) dL_law_433 rfl ?_
  refine x_aload_n (pc' := 435) K dL_law_434 0 rfl rfl ?_
  refine x_iload_n (pc' := 436) K dL_law_435 3 rfl rfl ?_
  refine x_iconst (pc' := 437) (v := 3) K dL_law_436 (by decide) rfl ?_
  refine x_iadd (pc' := 438) K dL_law_437 rfl ?_
  refine x_sld (pc' := 439) K hX hbl hbA (i := nI k + 3) (xlin (j := 3) (by omega) hL) dL_law_438 rfl ?_
  refine x_subI (pc' := 442) (wn := fun F1 G1 => w6 cI cO aX F1 G1 ++ w7 cI aM F' G') K (mX6_leash l D cI cO aX _ _ _) rfl gL_law_X6_leash rfl dsX6_leash ⟨rfl, rfl, ⟨Nat.le_of_ble_eq_true rfl, Nat.le_of_ble_eq_true rfl⟩, Nat.le_of_ble_eq_true rfl, Nat.le_of_ble_eq_true rfl⟩ (h _ _ _) 6 0 rfl rfl (X := w7 cI aM F' G') List.perm_append_comm (fun _ _ => List.perm_append_comm) (st := []) rfl rfl (Nat.le_of_ble_eq_true rfl) dL_law_439 rfl (fun r F1 G1 h => ?_)
  refine x_aload_n (pc' := 443) K dL_law_442 2 rfl rfl ?_
  refine x_aload_n (pc' := 444) K dL_law_443 0 rfl rfl ?_
  refine x_iload_n (pc' := 445) K dL_law_444 3 rfl rfl ?_
  refine x_iconst (pc' := 446) (v := 1) K dL_law_445 (by decide) rfl ?_
  refine x_iadd (pc' := 447) K dL_law_446 rfl ?_
  refine x_sld (pc' := 448) K hX hbl hbA (i := nI k + 1) (xlin (j := 1) (by omega) hL) dL_law_447 rfl ?_
  refine x_aload_n (pc' := 449) K dL_law_448 0 rfl rfl ?_
  refine x_iload_n (pc' := 450) K dL_law_449 3 rfl rfl ?_
  refine x_iconst (pc' := 451) (v := 2) K dL_law_450 (by decide) rfl ?_
  refine x_iadd (pc' := 452) K dL_law_451 rfl ?_
  refine x_sld (pc' := 453) K hX hbl hbA (i := nI k + 2) (xlin (j := 2) (by omega) hL) dL_law_452 rfl ?_
  refine x_aload_n (pc' := 454) K dL_law_453 0 rfl rfl ?_
  refine x_iload_n (pc' := 455) K dL_law_454 3 rfl rfl ?_
  refine x_iconst (pc' := 456) (v := 3) K dL_law_455 (by decide) rfl ?_
  refine x_iadd (pc' := 457) K dL_law_456 rfl ?_
  refine x_sld (pc' := 458) K hX hbl hbA (i := nI k + 3) (xlin (j := 3) (by omega) hL) dL_law_457 rfl ?_
  refine x_subI (pc' := 461) (wn := fun F2 G2 => w6 cI cO aX F1 G1 ++ w7 cI aM F2 G2) K (mX7_leash l D cI cO aM _ _ _) rfl gL_law_X7_leash rfl dsX7_leash ⟨rfl, rfl, ⟨Nat.le_of_ble_eq_true rfl, Nat.le_of_ble_eq_true rfl⟩, Nat.le_of_ble_eq_true rfl, Nat.le_of_ble_eq_true rfl⟩ h 7 0 rfl rfl (X := w6 cI cO aX F1 G1) (List.Perm.refl _) (fun _ _ => List.Perm.refl _) (st := [.int _]) rfl rfl (Nat.le_of_ble_eq_true rfl) dL_law_458 rfl (fun r' F2 G2 h => ?_)
  refine x_icmp_eq (tgt := 1300) (pc' := 464) K dL_law_461 rfl rfl (fun _ => hgo _ _ _ _ h.2) (fun q => absurd h.1 q)
set_option maxHeartbeats 4000000 in
set_option maxRecDepth 100000 in
theorem tL_pig (K : XK p m c code 4 s #[Value.ref b] wsL_law R_law D (xtys cI cO) (fun q : Nat => s.heap.size ≤ q) meth ret) (hX : va_X b Lx xs s s.heap) (hbl : b < s.heap.size) (hbA : ¬ s.heap.size ≤ b) (hL : Lx ≤ 3072) {I : xF → xA → xF → xA → Prop} (ho : oX_pig I) (k : Nat) (hk : k + 6 ≤ Lx) (F : xF) (G : xA) (F' : xF) (G' : xA) (hI : I F G F' G') (hgo : ∀ (F : xF) (G : xA) (F' : xF) (G' : xA), I F G F' G' → XJ p l e room_1 s m #[Value.ref b] below meth c 121 3708 (lw_Z below #[Value.ref b] s) D (xtys cI cO) (fun q : Nat => s.heap.size ≤ q) 4 (w6 cI cO aX F G ++ w7 cI aM F' G') 1300 [(0, .ref b), (1, .ref (aX 0)), (2, .ref (aM 0)), (3, .int (nI k))] []) : XJ p l e room_1 s m #[Value.ref b] below meth c 121 3708 (lw_Z below #[Value.ref b] s) D (xtys cI cO) (fun q : Nat => s.heap.size ≤ q) 4 (w6 cI cO aX F G ++ w7 cI aM F' G') 466 [(0, .ref b), (1, .ref (aX 0)), (2, .ref (aM 0)), (3, .int (nI k))] [] := by
  have h := fun x1 x2 => ho x1 x2 F G F' G' hI
  refine x_aload_n (pc' := 467) K dL_law_466 1 rfl rfl ?_
  refine x_aload_n (pc' := 468) K dL_law_467 0 rfl rfl ?_
  refine x_iload_n (pc' := 469) K dL_law_468 3 rfl rfl ?_
  refine x_iconst (pc' := 470) (v := 1) K dL_law_469 (by decide) rfl ?_
  refine x_iadd (pc' := 471) K dL_law_470 rfl ?_
  refine x_sld (pc' := 472) K hX hbl hbA (i := nI k + 1) (xlin (j := 1) (by omega) hL) dL_law_471 rfl ?_
  refine x_aload_n (pc' := 473) K dL_law_472 0 rfl rfl ?_
  refine x_iload_n (pc' := 474) K dL_law_473 3 rfl rfl ?_
  refine x_iconst (pc' := 475) (v := 2) K dL_law_474 (by decide) rfl ?_
  refine x_iadd (pc' := 476) K dL_law_475 rfl ?_
  refine x_sld (pc' := 477) K hX hbl hbA (i := nI k + 2) (xlin (j := 2) (by omega) hL) dL_law_476 rfl ?_
  refine x_subI (pc' := 480) (wn := fun F1 G1 => w6 cI cO aX F1 G1 ++ w7 cI aM F' G') K (mX6_pig l D cI cO aX _ _) rfl gL_law_X6_pig rfl dsX6_pig ⟨rfl, rfl, ⟨Nat.le_of_ble_eq_true rfl, Nat.le_of_ble_eq_true rfl⟩, Nat.le_of_ble_eq_true rfl, Nat.le_of_ble_eq_true rfl⟩ (h _ _) 6 0 rfl rfl (X := w7 cI aM F' G') List.perm_append_comm (fun _ _ => List.perm_append_comm) (st := []) rfl rfl (Nat.le_of_ble_eq_true rfl) dL_law_477 rfl (fun r F1 G1 h => ?_)
  refine x_aload_n (pc' := 481) K dL_law_480 2 rfl rfl ?_
  refine x_aload_n (pc' := 482) K dL_law_481 0 rfl rfl ?_
  refine x_iload_n (pc' := 483) K dL_law_482 3 rfl rfl ?_
  refine x_iconst (pc' := 484) (v := 1) K dL_law_483 (by decide) rfl ?_
  refine x_iadd (pc' := 485) K dL_law_484 rfl ?_
  refine x_sld (pc' := 486) K hX hbl hbA (i := nI k + 1) (xlin (j := 1) (by omega) hL) dL_law_485 rfl ?_
  refine x_aload_n (pc' := 487) K dL_law_486 0 rfl rfl ?_
  refine x_iload_n (pc' := 488) K dL_law_487 3 rfl rfl ?_
  refine x_iconst (pc' := 489) (v := 2) K dL_law_488 (by decide) rfl ?_
  refine x_iadd (pc' := 490) K dL_law_489 rfl ?_
  refine x_sld (pc' := 491) K hX hbl hbA (i := nI k + 2) (xlin (j := 2) (by omega) hL) dL_law_490 rfl ?_
  refine x_subI (pc' := 494) (wn := fun F2 G2 => w6 cI cO aX F1 G1 ++ w7 cI aM F2 G2) K (mX7_pig l D cI cO aM _ _) rfl gL_law_X7_pig rfl dsX7_pig ⟨rfl, rfl, ⟨Nat.le_of_ble_eq_true rfl, Nat.le_of_ble_eq_true rfl⟩, Nat.le_of_ble_eq_true rfl, Nat.le_of_ble_eq_true rfl⟩ h 7 0 rfl rfl (X := w6 cI cO aX F1 G1) (List.Perm.refl _) (fun _ _ => List.Perm.refl _) (st := [.int _]) rfl rfl (Nat.le_of_ble_eq_true rfl) dL_law_491 rfl (fun r' F2 G2 h => ?_)
  refine x_icmp_eq (tgt := 1300) (pc' := 497) K dL_law_494 rfl rfl (fun _ => hgo _ _ _ _ h.2) (fun q => absurd h.1 q)
set_option maxHeartbeats 4000000 in
set_option maxRecDepth 100000 in
theorem tL_feed (K : XK p m c code 4 s #[Value.ref b] wsL_law R_law D (xtys cI cO) (fun q : Nat => s.heap.size ≤ q) meth ret) (hX : va_X b Lx xs s s.heap) (hbl : b < s.heap.size) (hbA : ¬ s.heap.size ≤ b) (hL : Lx ≤ 3072) {I : xF → xA → xF → xA → Prop} (ho : oX_feed I) (k : Nat) (hk : k + 6 ≤ Lx) (F : xF) (G : xA) (F' : xF) (G' : xA) (hI : I F G F' G') (hgo : ∀ (F : xF) (G : xA) (F' : xF) (G' : xA), I F G F' G' → XJ p l e room_1 s m #[Value.ref b] below meth c 121 3708 (lw_Z below #[Value.ref b] s) D (xtys cI cO) (fun q : Nat => s.heap.size ≤ q) 4 (w6 cI cO aX F G ++ w7 cI aM F' G') 1300 [(0, .ref b), (1, .ref (aX 0)), (2, .ref (aM 0)), (3, .int (nI k))] []) : XJ p l e room_1 s m #[Value.ref b] below meth c 121 3708 (lw_Z below #[Value.ref b] s) D (xtys cI cO) (fun q : Nat => s.heap.size ≤ q) 4 (w6 cI cO aX F G ++ w7 cI aM F' G') 499 [(0, .ref b), (1, .ref (aX 0)), (2, .ref (aM 0)), (3, .int (nI k))] [] := by
  have h := fun x1 x3 => ho x1 x3 F G F' G' hI
  refine x_aload_n (pc' := 500) K dL_law_499 1 rfl rfl ?_
  refine x_aload_n (pc' := 501) K dL_law_500 0 rfl rfl ?_
  refine x_iload_n (pc' := 502) K dL_law_501 3 rfl rfl ?_
  refine x_iconst (pc' := 503) (v := 1) K dL_law_502 (by decide) rfl ?_
  refine x_iadd (pc' := 504) K dL_law_503 rfl ?_
  refine x_sld (pc' := 505) K hX hbl hbA (i := nI k + 1) (xlin (j := 1) (by omega) hL) dL_law_504 rfl ?_
  refine x_i2l (pc' := 506) K dL_law_505 rfl ?_
  refine x_bipush (pc' := 508) (v := 32) K dL_law_506 (by decide) rfl ?_
  refine x_lshl (pc' := 509) K dL_law_508 rfl ?_
  refine x_aload_n (pc' := 510) K dL_law_509 0 rfl rfl ?_
  refine x_iload_n (pc' := 511) K dL_law_510 3 rfl rfl ?_
  refine x_iconst (pc' := 512) (v := 2) K dL_law_511 (by decide) rfl ?_
  refine x_iadd (pc' := 513) K dL_law_512 rfl ?_
  refine x_sld (pc' := 514) K hX hbl hbA (i := nI k + 2) (xlin (j := 2) (by omega) hL) dL_law_513 rfl ?_
  refine x_i2l (pc' := 515) K dL_law_514 rfl ?_
  refine x_ldc2 (pc' := 518) K dL_law_515 uL_k52 rfl ?_
  refine x_land (pc' := 519) K dL_law_518 rfl ?_
  refine x_lor (pc' := 520) K dL_law_519 rfl ?_
  refine x_aload_n (pc' := 521) K dL_law_520 0 rfl rfl ?_
  refine x_iload_n (pc' := 522) K dL_law_521 3 rfl rfl ?_
  refine x_iconst (pc' := 523) (v := 3) K dL_law_522 (by decide) rfl ?_
  refine x_iadd (pc' := 524) K dL_law_523 rfl ?_
  refine x_sld (pc' := 525) K hX hbl hbA (i := nI k + 3) (xlin (j := 3) (by omega) hL) dL_law_524 rfl ?_
  refine x_subI (pc' := 528) (wn := fun F1 G1 => w6 cI cO aX F1 G1 ++ w7 cI aM F' G') K (mX6_feed l D cI cO aX _ _) rfl gL_law_X6_feed rfl dsX6_feed ⟨rfl, rfl, ⟨Nat.le_of_ble_eq_true rfl, Nat.le_of_ble_eq_true rfl⟩, Nat.le_of_ble_eq_true rfl, Nat.le_of_ble_eq_true rfl⟩ (h _ _) 6 0 rfl rfl (X := w7 cI aM F' G') List.perm_append_comm (fun _ _ => List.perm_append_comm) (st := []) rfl rfl (Nat.le_of_ble_eq_true rfl) dL_law_525 rfl (fun r F1 G1 h => ?_)
  refine x_aload_n (pc' := 529) K dL_law_528 2 rfl rfl ?_
  refine x_aload_n (pc' := 530) K dL_law_529 0 rfl rfl ?_
  refine x_iload_n (pc' := 531) K dL_law_530 3 rfl rfl ?_
  refine x_iconst (pc' := 532) (v := 1) K dL_law_531 (by decide) rfl ?_
  refine x_iadd (pc' := 533) K dL_law_532 rfl ?_
  refine x_sld (pc' := 534) K hX hbl hbA (i := nI k + 1) (xlin (j := 1) (by omega) hL) dL_law_533 rfl ?_
  refine x_i2l (pc' := 535) K dL_law_534 rfl ?_
  refine x_bipush (pc' := 537) (v := 32) K dL_law_535 (by decide) rfl ?_
  refine x_lshl (pc' := 538) K dL_law_537 rfl ?_
  refine x_aload_n (pc' := 539) K dL_law_538 0 rfl rfl ?_
  refine x_iload_n (pc' := 540) K dL_law_539 3 rfl rfl ?_
  refine x_iconst (pc' := 541) (v := 2) K dL_law_540 (by decide) rfl ?_
  refine x_iadd (pc' := 542) K dL_law_541 rfl ?_
  refine x_sld (pc' := 543) K hX hbl hbA (i := nI k + 2) (xlin (j := 2) (by omega) hL) dL_law_542 rfl ?_
  refine x_i2l (pc' := 544) K dL_law_543 rfl ?_
  refine x_ldc2 (pc' := 547) K dL_law_544 uL_k52 rfl ?_
  refine x_land (pc' := 548) K dL_law_547 rfl ?_
  refine x_lor (pc' := 549) K dL_law_548 rfl ?_
  refine x_aload_n (pc' := 550) K dL_law_549 0 rfl rfl ?_
  refine x_iload_n (pc' := 551) K dL_law_550 3 rfl rfl ?_
  refine x_iconst (pc' := 552) (v := 3) K dL_law_551 (by decide) rfl ?_
  refine x_iadd (pc' := 553) K dL_law_552 rfl ?_
  refine x_sld (pc' := 554) K hX hbl hbA (i := nI k + 3) (xlin (j := 3) (by omega) hL) dL_law_553 rfl ?_
  refine x_subI (pc' := 557) (wn := fun F2 G2 => w6 cI cO aX F1 G1 ++ w7 cI aM F2 G2) K (mX7_feed l D cI cO aM _ _) rfl gL_law_X7_feed rfl dsX7_feed ⟨rfl, rfl, ⟨Nat.le_of_ble_eq_true rfl, Nat.le_of_ble_eq_true rfl⟩, Nat.le_of_ble_eq_true rfl, Nat.le_of_ble_eq_true rfl⟩ h 7 0 rfl rfl (X := w6 cI cO aX F1 G1) (List.Perm.refl _) (fun _ _ => List.Perm.refl _) (st := [.int _]) rfl rfl (Nat.le_of_ble_eq_true rfl) dL_law_554 rfl (fun r' F2 G2 h => ?_)
  refine x_icmp_eq (tgt := 1300) (pc' := 560) K dL_law_557 rfl rfl (fun _ => hgo _ _ _ _ h.2) (fun q => absurd h.1 q)
set_option maxHeartbeats 4000000 in
set_option maxRecDepth 100000 in
theorem tL_text (K : XK p m c code 4 s #[Value.ref b] wsL_law R_law D (xtys cI cO) (fun q : Nat => s.heap.size ≤ q) meth ret) (hX : va_X b Lx xs s s.heap) (hbl : b < s.heap.size) (hbA : ¬ s.heap.size ≤ b) (hL : Lx ≤ 3072) {I : xF → xA → xF → xA → Prop} (ho : oX_text I) (k : Nat) (hk : k + 6 ≤ Lx) (F : xF) (G : xA) (F' : xF) (G' : xA) (hI : I F G F' G') (hgo : ∀ (F : xF) (G : xA) (F' : xF) (G' : xA), I F G F' G' → XJ p l e room_1 s m #[Value.ref b] below meth c 121 3708 (lw_Z below #[Value.ref b] s) D (xtys cI cO) (fun q : Nat => s.heap.size ≤ q) 4 (w6 cI cO aX F G ++ w7 cI aM F' G') 1300 [(0, .ref b), (1, .ref (aX 0)), (2, .ref (aM 0)), (3, .int (nI k))] []) : XJ p l e room_1 s m #[Value.ref b] below meth c 121 3708 (lw_Z below #[Value.ref b] s) D (xtys cI cO) (fun q : Nat => s.heap.size ≤ q) 4 (w6 cI cO aX F G ++ w7 cI aM F' G') 562 [(0, .ref b), (1, .ref (aX 0)), (2, .ref (aM 0)), (3, .int (nI k))] [] := by
  have h := fun x1 => ho x1 F G F' G' hI
  refine x_aload_n (pc' := 563) K dL_law_562 1 rfl rfl ?_
  refine x_aload_n (pc' := 564) K dL_law_563 0 rfl rfl ?_
  refine x_iload_n (pc' := 565) K dL_law_564 3 rfl rfl ?_
  refine x_iconst (pc' := 566) (v := 1) K dL_law_565 (by decide) rfl ?_
  refine x_iadd (pc' := 567) K dL_law_566 rfl ?_
  refine x_sld (pc' := 568) K hX hbl hbA (i := nI k + 1) (xlin (j := 1) (by omega) hL) dL_law_567 rfl ?_
  refine x_subI (pc' := 571) (wn := fun F1 G1 => w6 cI cO aX F1 G1 ++ w7 cI aM F' G') K (mX6_text l D cI cO aX _) rfl gL_law_X6_text rfl dsX6_text ⟨rfl, rfl, ⟨Nat.le_of_ble_eq_true rfl, Nat.le_of_ble_eq_true rfl⟩, Nat.le_of_ble_eq_true rfl, Nat.le_of_ble_eq_true rfl⟩ (h _) 6 0 rfl rfl (X := w7 cI aM F' G') List.perm_append_comm (fun _ _ => List.perm_append_comm) (st := []) rfl rfl (Nat.le_of_ble_eq_true rfl) dL_law_568 rfl (fun r F1 G1 h => ?_)
  refine x_aload_n (pc' := 572) K dL_law_571 2 rfl rfl ?_
  refine x_aload_n (pc' := 573) K dL_law_572 0 rfl rfl ?_
  refine x_iload_n (pc' := 574) K dL_law_573 3 rfl rfl ?_
  refine x_iconst (pc' := 575) (v := 1) K dL_law_574 (by decide) rfl ?_
  refine x_iadd (pc' := 576) K dL_law_575 rfl ?_
  refine x_sld (pc' := 577) K hX hbl hbA (i := nI k + 1) (xlin (j := 1) (by omega) hL) dL_law_576 rfl ?_
  refine x_subI (pc' := 580) (wn := fun F2 G2 => w6 cI cO aX F1 G1 ++ w7 cI aM F2 G2) K (mX7_text l D cI cO aM _) rfl gL_law_X7_text rfl dsX7_text ⟨rfl, rfl, ⟨Nat.le_of_ble_eq_true rfl, Nat.le_of_ble_eq_true rfl⟩, Nat.le_of_ble_eq_true rfl, Nat.le_of_ble_eq_true rfl⟩ h 7 0 rfl rfl (X := w6 cI cO aX F1 G1) (List.Perm.refl _) (fun _ _ => List.Perm.refl _) (st := [.int _]) rfl rfl (Nat.le_of_ble_eq_true rfl) dL_law_577 rfl (fun r' F2 G2 h => ?_)
  refine x_icmp_eq (tgt := 1300) (pc' := 583) K dL_law_580 rfl rfl (fun _ => hgo _ _ _ _ h.2) (fun q => absurd h.1 q)
set_option maxHeartbeats 4000000 in
set_option maxRecDepth 100000 in
theorem tL_untell (K : XK p m c code 4 s #[Value.ref b] wsL_law R_law D (xtys cI cO) (fun q : Nat => s.heap.size ≤ q) meth ret) (hX : va_X b Lx xs s s.heap) (hbl : b < s.heap.size) (hbA : ¬ s.heap.size ≤ b) (hL : Lx ≤ 3072) {I : xF → xA → xF → xA → Prop} (ho : oX_untell I) (k : Nat) (hk : k + 6 ≤ Lx) (F : xF) (G : xA) (F' : xF) (G' : xA) (hI : I F G F' G') (hgo : ∀ (F : xF) (G : xA) (F' : xF) (G' : xA), I F G F' G' → XJ p l e room_1 s m #[Value.ref b] below meth c 121 3708 (lw_Z below #[Value.ref b] s) D (xtys cI cO) (fun q : Nat => s.heap.size ≤ q) 4 (w6 cI cO aX F G ++ w7 cI aM F' G') 1300 [(0, .ref b), (1, .ref (aX 0)), (2, .ref (aM 0)), (3, .int (nI k))] []) : XJ p l e room_1 s m #[Value.ref b] below meth c 121 3708 (lw_Z below #[Value.ref b] s) D (xtys cI cO) (fun q : Nat => s.heap.size ≤ q) 4 (w6 cI cO aX F G ++ w7 cI aM F' G') 585 [(0, .ref b), (1, .ref (aX 0)), (2, .ref (aM 0)), (3, .int (nI k))] [] := by
  have h := fun x1 => ho x1 F G F' G' hI
  refine x_aload_n (pc' := 586) K dL_law_585 1 rfl rfl ?_
  refine x_aload_n (pc' := 587) K dL_law_586 0 rfl rfl ?_
  refine x_iload_n (pc' := 588) K dL_law_587 3 rfl rfl ?_
  refine x_iconst (pc' := 589) (v := 1) K dL_law_588 (by decide) rfl ?_
  refine x_iadd (pc' := 590) K dL_law_589 rfl ?_
  refine x_sld (pc' := 591) K hX hbl hbA (i := nI k + 1) (xlin (j := 1) (by omega) hL) dL_law_590 rfl ?_
  refine x_subI (pc' := 594) (wn := fun F1 G1 => w6 cI cO aX F1 G1 ++ w7 cI aM F' G') K (mX6_untell l D cI cO aX _) rfl gL_law_X6_untell rfl dsX6_untell ⟨rfl, rfl, ⟨Nat.le_of_ble_eq_true rfl, Nat.le_of_ble_eq_true rfl⟩, Nat.le_of_ble_eq_true rfl, Nat.le_of_ble_eq_true rfl⟩ (h _) 6 0 rfl rfl (X := w7 cI aM F' G') List.perm_append_comm (fun _ _ => List.perm_append_comm) (st := []) rfl rfl (Nat.le_of_ble_eq_true rfl) dL_law_591 rfl (fun r F1 G1 h => ?_)
  refine x_aload_n (pc' := 595) K dL_law_594 2 rfl rfl ?_
  refine x_aload_n (pc' := 596) K dL_law_595 0 rfl rfl ?_
  refine x_iload_n (pc' := 597) K dL_law_596 3 rfl rfl ?_
  refine x_iconst (pc' := 598) (v := 1) K dL_law_597 (by decide) rfl ?_
  refine x_iadd (pc' := 599) K dL_law_598 rfl ?_
  refine x_sld (pc' := 600) K hX hbl hbA (i := nI k + 1) (xlin (j := 1) (by omega) hL) dL_law_599 rfl ?_
  refine x_subI (pc' := 603) (wn := fun F2 G2 => w6 cI cO aX F1 G1 ++ w7 cI aM F2 G2) K (mX7_untell l D cI cO aM _) rfl gL_law_X7_untell rfl dsX7_untell ⟨rfl, rfl, ⟨Nat.le_of_ble_eq_true rfl, Nat.le_of_ble_eq_true rfl⟩, Nat.le_of_ble_eq_true rfl, Nat.le_of_ble_eq_true rfl⟩ h 7 0 rfl rfl (X := w6 cI cO aX F1 G1) (List.Perm.refl _) (fun _ _ => List.Perm.refl _) (st := [.int _]) rfl rfl (Nat.le_of_ble_eq_true rfl) dL_law_600 rfl (fun r' F2 G2 h => ?_)
  refine x_icmp_eq (tgt := 1300) (pc' := 606) K dL_law_603 rfl rfl (fun _ => hgo _ _ _ _ h.2) (fun q => absurd h.1 q)
set_option maxHeartbeats 4000000 in
set_option maxRecDepth 100000 in
theorem tL_days (K : XK p m c code 4 s #[Value.ref b] wsL_law R_law D (xtys cI cO) (fun q : Nat => s.heap.size ≤ q) meth ret) (hX : va_X b Lx xs s s.heap) (hbl : b < s.heap.size) (hbA : ¬ s.heap.size ≤ b) (hL : Lx ≤ 3072) {I : xF → xA → xF → xA → Prop} (ho : oX_days I) (k : Nat) (hk : k + 6 ≤ Lx) (F : xF) (G : xA) (F' : xF) (G' : xA) (hI : I F G F' G') (hgo : ∀ (F : xF) (G : xA) (F' : xF) (G' : xA), I F G F' G' → XJ p l e room_1 s m #[Value.ref b] below meth c 121 3708 (lw_Z below #[Value.ref b] s) D (xtys cI cO) (fun q : Nat => s.heap.size ≤ q) 4 (w6 cI cO aX F G ++ w7 cI aM F' G') 1300 [(0, .ref b), (1, .ref (aX 0)), (2, .ref (aM 0)), (3, .int (nI k))] []) : XJ p l e room_1 s m #[Value.ref b] below meth c 121 3708 (lw_Z below #[Value.ref b] s) D (xtys cI cO) (fun q : Nat => s.heap.size ≤ q) 4 (w6 cI cO aX F G ++ w7 cI aM F' G') 608 [(0, .ref b), (1, .ref (aX 0)), (2, .ref (aM 0)), (3, .int (nI k))] [] := by
  have h := fun x1 => ho x1 F G F' G' hI
  refine x_aload_n (pc' := 609) K dL_law_608 1 rfl rfl ?_
  refine x_aload_n (pc' := 610) K dL_law_609 0 rfl rfl ?_
  refine x_iload_n (pc' := 611) K dL_law_610 3 rfl rfl ?_
  refine x_iconst (pc' := 612) (v := 1) K dL_law_611 (by decide) rfl ?_
  refine x_iadd (pc' := 613) K dL_law_612 rfl ?_
  refine x_sld (pc' := 614) K hX hbl hbA (i := nI k + 1) (xlin (j := 1) (by omega) hL) dL_law_613 rfl ?_
  refine x_subI (pc' := 617) (wn := fun F1 G1 => w6 cI cO aX F1 G1 ++ w7 cI aM F' G') K (mX6_days l D cI cO aX _) rfl gL_law_X6_days rfl dsX6_days ⟨rfl, rfl, ⟨Nat.le_of_ble_eq_true rfl, Nat.le_of_ble_eq_true rfl⟩, Nat.le_of_ble_eq_true rfl, Nat.le_of_ble_eq_true rfl⟩ (h _) 6 0 rfl rfl (X := w7 cI aM F' G') List.perm_append_comm (fun _ _ => List.perm_append_comm) (st := []) rfl rfl (Nat.le_of_ble_eq_true rfl) dL_law_614 rfl (fun r F1 G1 h => ?_)
  refine x_aload_n (pc' := 618) K dL_law_617 2 rfl rfl ?_
  refine x_aload_n (pc' := 619) K dL_law_618 0 rfl rfl ?_
  refine x_iload_n (pc' := 620) K dL_law_619 3 rfl rfl ?_
  refine x_iconst (pc' := 621) (v := 1) K dL_law_620 (by decide) rfl ?_
  refine x_iadd (pc' := 622) K dL_law_621 rfl ?_
  refine x_sld (pc' := 623) K hX hbl hbA (i := nI k + 1) (xlin (j := 1) (by omega) hL) dL_law_622 rfl ?_
  refine x_subI (pc' := 626) (wn := fun F2 G2 => w6 cI cO aX F1 G1 ++ w7 cI aM F2 G2) K (mX7_days l D cI cO aM _) rfl gL_law_X7_days rfl dsX7_days ⟨rfl, rfl, ⟨Nat.le_of_ble_eq_true rfl, Nat.le_of_ble_eq_true rfl⟩, Nat.le_of_ble_eq_true rfl, Nat.le_of_ble_eq_true rfl⟩ h 7 0 rfl rfl (X := w6 cI cO aX F1 G1) (List.Perm.refl _) (fun _ _ => List.Perm.refl _) (st := [.int _]) rfl rfl (Nat.le_of_ble_eq_true rfl) dL_law_623 rfl (fun r' F2 G2 h => ?_)
  refine x_icmp_eq (tgt := 1300) (pc' := 629) K dL_law_626 rfl rfl (fun _ => hgo _ _ _ _ h.2) (fun q => absurd h.1 q)
set_option maxHeartbeats 4000000 in
set_option maxRecDepth 100000 in
theorem tL_draws (K : XK p m c code 4 s #[Value.ref b] wsL_law R_law D (xtys cI cO) (fun q : Nat => s.heap.size ≤ q) meth ret) (hX : va_X b Lx xs s s.heap) (hbl : b < s.heap.size) (hbA : ¬ s.heap.size ≤ b) (hL : Lx ≤ 3072) {I : xF → xA → xF → xA → Prop} (ho : oX_draws I) (k : Nat) (hk : k + 6 ≤ Lx) (F : xF) (G : xA) (F' : xF) (G' : xA) (hI : I F G F' G') (hgo : ∀ (F : xF) (G : xA) (F' : xF) (G' : xA), I F G F' G' → XJ p l e room_1 s m #[Value.ref b] below meth c 121 3708 (lw_Z below #[Value.ref b] s) D (xtys cI cO) (fun q : Nat => s.heap.size ≤ q) 4 (w6 cI cO aX F G ++ w7 cI aM F' G') 1300 [(0, .ref b), (1, .ref (aX 0)), (2, .ref (aM 0)), (3, .int (nI k))] []) : XJ p l e room_1 s m #[Value.ref b] below meth c 121 3708 (lw_Z below #[Value.ref b] s) D (xtys cI cO) (fun q : Nat => s.heap.size ≤ q) 4 (w6 cI cO aX F G ++ w7 cI aM F' G') 631 [(0, .ref b), (1, .ref (aX 0)), (2, .ref (aM 0)), (3, .int (nI k))] [] := by
  have h := fun x1 => ho x1 F G F' G' hI
  refine x_aload_n (pc' := 632) K dL_law_631 1 rfl rfl ?_
  refine x_aload_n (pc' := 633) K dL_law_632 0 rfl rfl ?_
  refine x_iload_n (pc' := 634) K dL_law_633 3 rfl rfl ?_
  refine x_iconst (pc' := 635) (v := 1) K dL_law_634 (by decide) rfl ?_
  refine x_iadd (pc' := 636) K dL_law_635 rfl ?_
  refine x_sld (pc' := 637) K hX hbl hbA (i := nI k + 1) (xlin (j := 1) (by omega) hL) dL_law_636 rfl ?_
  refine x_subI (pc' := 640) (wn := fun F1 G1 => w6 cI cO aX F1 G1 ++ w7 cI aM F' G') K (mX6_draws l D cI cO aX _) rfl gL_law_X6_draws rfl dsX6_draws ⟨rfl, rfl, ⟨Nat.le_of_ble_eq_true rfl, Nat.le_of_ble_eq_true rfl⟩, Nat.le_of_ble_eq_true rfl, Nat.le_of_ble_eq_true rfl⟩ (h _) 6 0 rfl rfl (X := w7 cI aM F' G') List.perm_append_comm (fun _ _ => List.perm_append_comm) (st := []) rfl rfl (Nat.le_of_ble_eq_true rfl) dL_law_637 rfl (fun r F1 G1 h => ?_)
  refine x_aload_n (pc' := 641) K dL_law_640 2 rfl rfl ?_
  refine x_aload_n (pc' := 642) K dL_law_641 0 rfl rfl ?_
  refine x_iload_n (pc' := 643) K dL_law_642 3 rfl rfl ?_
  refine x_iconst (pc' := 644) (v := 1) K dL_law_643 (by decide) rfl ?_
  refine x_iadd (pc' := 645) K dL_law_644 rfl ?_
  refine x_sld (pc' := 646) K hX hbl hbA (i := nI k + 1) (xlin (j := 1) (by omega) hL) dL_law_645 rfl ?_
  refine x_subI (pc' := 649) (wn := fun F2 G2 => w6 cI cO aX F1 G1 ++ w7 cI aM F2 G2) K (mX7_draws l D cI cO aM _) rfl gL_law_X7_draws rfl dsX7_draws ⟨rfl, rfl, ⟨Nat.le_of_ble_eq_true rfl, Nat.le_of_ble_eq_true rfl⟩, Nat.le_of_ble_eq_true rfl, Nat.le_of_ble_eq_true rfl⟩ h 7 0 rfl rfl (X := w6 cI cO aX F1 G1) (List.Perm.refl _) (fun _ _ => List.Perm.refl _) (st := [.int _]) rfl rfl (Nat.le_of_ble_eq_true rfl) dL_law_646 rfl (fun r' F2 G2 h => ?_)
  refine x_icmp_eq (tgt := 1300) (pc' := 652) K dL_law_649 rfl rfl (fun _ => hgo _ _ _ _ h.2) (fun q => absurd h.1 q)
set_option maxHeartbeats 4000000 in
set_option maxRecDepth 100000 in
theorem tL_seed (K : XK p m c code 4 s #[Value.ref b] wsL_law R_law D (xtys cI cO) (fun q : Nat => s.heap.size ≤ q) meth ret) (hX : va_X b Lx xs s s.heap) (hbl : b < s.heap.size) (hbA : ¬ s.heap.size ≤ b) (hL : Lx ≤ 3072) {I : xF → xA → xF → xA → Prop} (ho : oX_seed I) (k : Nat) (hk : k + 6 ≤ Lx) (F : xF) (G : xA) (F' : xF) (G' : xA) (hI : I F G F' G') (hgo : ∀ (F : xF) (G : xA) (F' : xF) (G' : xA), I F G F' G' → XJ p l e room_1 s m #[Value.ref b] below meth c 121 3708 (lw_Z below #[Value.ref b] s) D (xtys cI cO) (fun q : Nat => s.heap.size ≤ q) 4 (w6 cI cO aX F G ++ w7 cI aM F' G') 1300 [(0, .ref b), (1, .ref (aX 0)), (2, .ref (aM 0)), (3, .int (nI k))] []) : XJ p l e room_1 s m #[Value.ref b] below meth c 121 3708 (lw_Z below #[Value.ref b] s) D (xtys cI cO) (fun q : Nat => s.heap.size ≤ q) 4 (w6 cI cO aX F G ++ w7 cI aM F' G') 654 [(0, .ref b), (1, .ref (aX 0)), (2, .ref (aM 0)), (3, .int (nI k))] [] := by
  have h := fun x1 => ho x1 F G F' G' hI
  refine x_aload_n (pc' := 655) K dL_law_654 1 rfl rfl ?_
  refine x_aload_n (pc' := 656) K dL_law_655 0 rfl rfl ?_
  refine x_iload_n (pc' := 657) K dL_law_656 3 rfl rfl ?_
  refine x_iconst (pc' := 658) (v := 1) K dL_law_657 (by decide) rfl ?_
  refine x_iadd (pc' := 659) K dL_law_658 rfl ?_
  refine x_sld (pc' := 660) K hX hbl hbA (i := nI k + 1) (xlin (j := 1) (by omega) hL) dL_law_659 rfl ?_
  refine x_subI (pc' := 663) (wn := fun F1 G1 => w6 cI cO aX F1 G1 ++ w7 cI aM F' G') K (mX6_seed l D cI cO aX _) rfl gL_law_X6_seed rfl dsX6_seed ⟨rfl, rfl, ⟨Nat.le_of_ble_eq_true rfl, Nat.le_of_ble_eq_true rfl⟩, Nat.le_of_ble_eq_true rfl, Nat.le_of_ble_eq_true rfl⟩ (h _) 6 0 rfl rfl (X := w7 cI aM F' G') List.perm_append_comm (fun _ _ => List.perm_append_comm) (st := []) rfl rfl (Nat.le_of_ble_eq_true rfl) dL_law_660 rfl (fun r F1 G1 h => ?_)
  refine x_aload_n (pc' := 664) K dL_law_663 2 rfl rfl ?_
  refine x_aload_n (pc' := 665) K dL_law_664 0 rfl rfl ?_
  refine x_iload_n (pc' := 666) K dL_law_665 3 rfl rfl ?_
  refine x_iconst (pc' := 667) (v := 1) K dL_law_666 (by decide) rfl ?_
  refine x_iadd (pc' := 668) K dL_law_667 rfl ?_
  refine x_sld (pc' := 669) K hX hbl hbA (i := nI k + 1) (xlin (j := 1) (by omega) hL) dL_law_668 rfl ?_
  refine x_subI (pc' := 672) (wn := fun F2 G2 => w6 cI cO aX F1 G1 ++ w7 cI aM F2 G2) K (mX7_seed l D cI cO aM _) rfl gL_law_X7_seed rfl dsX7_seed ⟨rfl, rfl, ⟨Nat.le_of_ble_eq_true rfl, Nat.le_of_ble_eq_true rfl⟩, Nat.le_of_ble_eq_true rfl, Nat.le_of_ble_eq_true rfl⟩ h 7 0 rfl rfl (X := w6 cI cO aX F1 G1) (List.Perm.refl _) (fun _ _ => List.Perm.refl _) (st := [.int _]) rfl rfl (Nat.le_of_ble_eq_true rfl) dL_law_669 rfl (fun r' F2 G2 h => ?_)
  refine x_icmp_eq (tgt := 1300) (pc' := 675) K dL_law_672 rfl rfl (fun _ => hgo _ _ _ _ h.2) (fun q => absurd h.1 q)
set_option maxHeartbeats 4000000 in
set_option maxRecDepth 100000 in
theorem tL_then (K : XK p m c code 4 s #[Value.ref b] wsL_law R_law D (xtys cI cO) (fun q : Nat => s.heap.size ≤ q) meth ret) (hX : va_X b Lx xs s s.heap) (hbl : b < s.heap.size) (hbA : ¬ s.heap.size ≤ b) (hL : Lx ≤ 3072) {I : xF → xA → xF → xA → Prop} (ho : oX_then I) (k : Nat) (hk : k + 6 ≤ Lx) (F : xF) (G : xA) (F' : xF) (G' : xA) (hI : I F G F' G') (hgo : ∀ (F : xF) (G : xA) (F' : xF) (G' : xA), I F G F' G' → XJ p l e room_1 s m #[Value.ref b] below meth c 121 3708 (lw_Z below #[Value.ref b] s) D (xtys cI cO) (fun q : Nat => s.heap.size ≤ q) 4 (w6 cI cO aX F G ++ w7 cI aM F' G') 1300 [(0, .ref b), (1, .ref (aX 0)), (2, .ref (aM 0)), (3, .int (nI k))] []) : XJ p l e room_1 s m #[Value.ref b] below meth c 121 3708 (lw_Z below #[Value.ref b] s) D (xtys cI cO) (fun q : Nat => s.heap.size ≤ q) 4 (w6 cI cO aX F G ++ w7 cI aM F' G') 677 [(0, .ref b), (1, .ref (aX 0)), (2, .ref (aM 0)), (3, .int (nI k))] [] := by
  have h := fun x1 x2 x3 => ho x1 x2 x3 F G F' G' hI
  refine x_aload_n (pc' := 678) K dL_law_677 1 rfl rfl ?_
  refine x_aload_n (pc' := 679) K dL_law_678 0 rfl rfl ?_
  refine x_iload_n (pc' := 680) K dL_law_679 3 rfl rfl ?_
  refine x_iconst (pc' := 681) (v := 1) K dL_law_680 (by decide) rfl ?_
  refine x_iadd (pc' := 682) K dL_law_681 rfl ?_
  refine x_sld (pc' := 683) K hX hbl hbA (i := nI k + 1) (xlin (j := 1) (by omega) hL) dL_law_682 rfl ?_
  refine x_aload_n (pc' := 684) K dL_law_683 0 rfl rfl ?_
  refine x_iload_n (pc' := 685) K dL_law_684 3 rfl rfl ?_
  refine x_iconst (pc' := 686) (v := 2) K dL_law_685 (by decide) rfl ?_
  refine x_iadd (pc' := 687) K dL_law_686 rfl ?_
  refine x_sld (pc' := 688) K hX hbl hbA (i := nI k + 2) (xlin (j := 2) (by omega) hL) dL_law_687 rfl ?_
  refine x_aload_n (pc' := 689) K dL_law_688 0 rfl rfl ?_
  refine x_iload_n (pc' := 690) K dL_law_689 3 rfl rfl ?_
  refine x_iconst (pc' := 691) (v := 3) K dL_law_690 (by decide) rfl ?_
  refine x_iadd (pc' := 692) K dL_law_691 rfl ?_
  refine x_sld (pc' := 693) K hX hbl hbA (i := nI k + 3) (xlin (j := 3) (by omega) hL) dL_law_692 rfl ?_
  refine x_subI (pc' := 696) (wn := fun F1 G1 => w6 cI cO aX F1 G1 ++ w7 cI aM F' G') K (mX6_then l D cI cO aX _ _ _) rfl gL_law_X6_then rfl dsX6_then ⟨rfl, rfl, ⟨Nat.le_of_ble_eq_true rfl, Nat.le_of_ble_eq_true rfl⟩, Nat.le_of_ble_eq_true rfl, Nat.le_of_ble_eq_true rfl⟩ (h _ _ _) 6 0 rfl rfl (X := w7 cI aM F' G') List.perm_append_comm (fun _ _ => List.perm_append_comm) (st := []) rfl rfl (Nat.le_of_ble_eq_true rfl) dL_law_693 rfl (fun r F1 G1 h => ?_)
  refine x_aload_n (pc' := 697) K dL_law_696 2 rfl rfl ?_
  refine x_aload_n (pc' := 698) K dL_law_697 0 rfl rfl ?_
  refine x_iload_n (pc' := 699) K dL_law_698 3 rfl rfl ?_
  refine x_iconst (pc' := 700) (v := 1) K dL_law_699 (by decide) rfl ?_
  refine x_iadd (pc' := 701) K dL_law_700 rfl ?_
  refine x_sld (pc' := 702) K hX hbl hbA (i := nI k + 1) (xlin (j := 1) (by omega) hL) dL_law_701 rfl ?_
  refine x_aload_n (pc' := 703) K dL_law_702 0 rfl rfl ?_
  refine x_iload_n (pc' := 704) K dL_law_703 3 rfl rfl ?_
  refine x_iconst (pc' := 705) (v := 2) K dL_law_704 (by decide) rfl ?_
  refine x_iadd (pc' := 706) K dL_law_705 rfl ?_
  refine x_sld (pc' := 707) K hX hbl hbA (i := nI k + 2) (xlin (j := 2) (by omega) hL) dL_law_706 rfl ?_
  refine x_aload_n (pc' := 708) K dL_law_707 0 rfl rfl ?_
  refine x_iload_n (pc' := 709) K dL_law_708 3 rfl rfl ?_
  refine x_iconst (pc' := 710) (v := 3) K dL_law_709 (by decide) rfl ?_
  refine x_iadd (pc' := 711) K dL_law_710 rfl ?_
  refine x_sld (pc' := 712) K hX hbl hbA (i := nI k + 3) (xlin (j := 3) (by omega) hL) dL_law_711 rfl ?_
  refine x_subI (pc' := 715) (wn := fun F2 G2 => w6 cI cO aX F1 G1 ++ w7 cI aM F2 G2) K (mX7_then l D cI cO aM _ _ _) rfl gL_law_X7_then rfl dsX7_then ⟨rfl, rfl, ⟨Nat.le_of_ble_eq_true rfl, Nat.le_of_ble_eq_true rfl⟩, Nat.le_of_ble_eq_true rfl, Nat.le_of_ble_eq_true rfl⟩ h 7 0 rfl rfl (X := w6 cI cO aX F1 G1) (List.Perm.refl _) (fun _ _ => List.Perm.refl _) (st := [.int _]) rfl rfl (Nat.le_of_ble_eq_true rfl) dL_law_712 rfl (fun r' F2 G2 h => ?_)
  refine x_icmp_eq (tgt := 1300) (pc' := 718) K dL_law_715 rfl rfl (fun _ => hgo _ _ _ _ h.2) (fun q => absurd h.1 q)
set_option maxHeartbeats 4000000 in
set_option maxRecDepth 100000 in
theorem tL_ahead (K : XK p m c code 4 s #[Value.ref b] wsL_law R_law D (xtys cI cO) (fun q : Nat => s.heap.size ≤ q) meth ret) (hX : va_X b Lx xs s s.heap) (hbl : b < s.heap.size) (hbA : ¬ s.heap.size ≤ b) (hL : Lx ≤ 3072) {I : xF → xA → xF → xA → Prop} (ho : oX_ahead I) (k : Nat) (hk : k + 6 ≤ Lx) (F : xF) (G : xA) (F' : xF) (G' : xA) (hI : I F G F' G') (hgo : ∀ (F : xF) (G : xA) (F' : xF) (G' : xA), I F G F' G' → XJ p l e room_1 s m #[Value.ref b] below meth c 121 3708 (lw_Z below #[Value.ref b] s) D (xtys cI cO) (fun q : Nat => s.heap.size ≤ q) 4 (w6 cI cO aX F G ++ w7 cI aM F' G') 1300 [(0, .ref b), (1, .ref (aX 0)), (2, .ref (aM 0)), (3, .int (nI k))] []) : XJ p l e room_1 s m #[Value.ref b] below meth c 121 3708 (lw_Z below #[Value.ref b] s) D (xtys cI cO) (fun q : Nat => s.heap.size ≤ q) 4 (w6 cI cO aX F G ++ w7 cI aM F' G') 720 [(0, .ref b), (1, .ref (aX 0)), (2, .ref (aM 0)), (3, .int (nI k))] [] := by
  have h := fun x1 x2 => ho x1 x2 F G F' G' hI
  refine x_aload_n (pc' := 721) K dL_law_720 1 rfl rfl ?_
  refine x_aload_n (pc' := 722) K dL_law_721 0 rfl rfl ?_
  refine x_iload_n (pc' := 723) K dL_law_722 3 rfl rfl ?_
  refine x_iconst (pc' := 724) (v := 1) K dL_law_723 (by decide) rfl ?_
  refine x_iadd (pc' := 725) K dL_law_724 rfl ?_
  refine x_sld (pc' := 726) K hX hbl hbA (i := nI k + 1) (xlin (j := 1) (by omega) hL) dL_law_725 rfl ?_
  refine x_aload_n (pc' := 727) K dL_law_726 0 rfl rfl ?_
  refine x_iload_n (pc' := 728) K dL_law_727 3 rfl rfl ?_
  refine x_iconst (pc' := 729) (v := 2) K dL_law_728 (by decide) rfl ?_
  refine x_iadd (pc' := 730) K dL_law_729 rfl ?_
  refine x_sld (pc' := 731) K hX hbl hbA (i := nI k + 2) (xlin (j := 2) (by omega) hL) dL_law_730 rfl ?_
  refine x_subI (pc' := 734) (wn := fun F1 G1 => w6 cI cO aX F1 G1 ++ w7 cI aM F' G') K (mX6_ahead l D cI cO aX _ _) rfl gL_law_X6_ahead rfl dsX6_ahead ⟨rfl, rfl, ⟨Nat.le_of_ble_eq_true rfl, Nat.le_of_ble_eq_true rfl⟩, Nat.le_of_ble_eq_true rfl, Nat.le_of_ble_eq_true rfl⟩ (h _ _) 6 0 rfl rfl (X := w7 cI aM F' G') List.perm_append_comm (fun _ _ => List.perm_append_comm) (st := []) rfl rfl (Nat.le_of_ble_eq_true rfl) dL_law_731 rfl (fun r F1 G1 h => ?_)
  refine x_aload_n (pc' := 735) K dL_law_734 2 rfl rfl ?_
  refine x_aload_n (pc' := 736) K dL_law_735 0 rfl rfl ?_
  refine x_iload_n (pc' := 737) K dL_law_736 3 rfl rfl ?_
  refine x_iconst (pc' := 738) (v := 1) K dL_law_737 (by decide) rfl ?_
  refine x_iadd (pc' := 739) K dL_law_738 rfl ?_
  refine x_sld (pc' := 740) K hX hbl hbA (i := nI k + 1) (xlin (j := 1) (by omega) hL) dL_law_739 rfl ?_
  refine x_aload_n (pc' := 741) K dL_law_740 0 rfl rfl ?_
  refine x_iload_n (pc' := 742) K dL_law_741 3 rfl rfl ?_
  refine x_iconst (pc' := 743) (v := 2) K dL_law_742 (by decide) rfl ?_
  refine x_iadd (pc' := 744) K dL_law_743 rfl ?_
  refine x_sld (pc' := 745) K hX hbl hbA (i := nI k + 2) (xlin (j := 2) (by omega) hL) dL_law_744 rfl ?_
  refine x_subI (pc' := 748) (wn := fun F2 G2 => w6 cI cO aX F1 G1 ++ w7 cI aM F2 G2) K (mX7_ahead l D cI cO aM _ _) rfl gL_law_X7_ahead rfl dsX7_ahead ⟨rfl, rfl, ⟨Nat.le_of_ble_eq_true rfl, Nat.le_of_ble_eq_true rfl⟩, Nat.le_of_ble_eq_true rfl, Nat.le_of_ble_eq_true rfl⟩ h 7 0 rfl rfl (X := w6 cI cO aX F1 G1) (List.Perm.refl _) (fun _ _ => List.Perm.refl _) (st := [.int _]) rfl rfl (Nat.le_of_ble_eq_true rfl) dL_law_745 rfl (fun r' F2 G2 h => ?_)
  refine x_icmp_eq (tgt := 1300) (pc' := 751) K dL_law_748 rfl rfl (fun _ => hgo _ _ _ _ h.2) (fun q => absurd h.1 q)
set_option maxHeartbeats 4000000 in
set_option maxRecDepth 100000 in
theorem tL_bestLeash (K : XK p m c code 4 s #[Value.ref b] wsL_law R_law D (xtys cI cO) (fun q : Nat => s.heap.size ≤ q) meth ret) (hX : va_X b Lx xs s s.heap) (hbl : b < s.heap.size) (hbA : ¬ s.heap.size ≤ b) (hL : Lx ≤ 3072) {I : xF → xA → xF → xA → Prop} (ho : oX_bestLeash I) (k : Nat) (hk : k + 6 ≤ Lx) (F : xF) (G : xA) (F' : xF) (G' : xA) (hI : I F G F' G') (hgo : ∀ (F : xF) (G : xA) (F' : xF) (G' : xA), I F G F' G' → XJ p l e room_1 s m #[Value.ref b] below meth c 121 3708 (lw_Z below #[Value.ref b] s) D (xtys cI cO) (fun q : Nat => s.heap.size ≤ q) 4 (w6 cI cO aX F G ++ w7 cI aM F' G') 1300 [(0, .ref b), (1, .ref (aX 0)), (2, .ref (aM 0)), (3, .int (nI k))] []) : XJ p l e room_1 s m #[Value.ref b] below meth c 121 3708 (lw_Z below #[Value.ref b] s) D (xtys cI cO) (fun q : Nat => s.heap.size ≤ q) 4 (w6 cI cO aX F G ++ w7 cI aM F' G') 753 [(0, .ref b), (1, .ref (aX 0)), (2, .ref (aM 0)), (3, .int (nI k))] [] := by
  have h := fun x1 => ho x1 F G F' G' hI
  refine x_aload_n (pc' := 754) K dL_law_753 1 rfl rfl ?_
  refine x_aload_n (pc' := 755) K dL_law_754 0 rfl rfl ?_
  refine x_iload_n (pc' := 756) K dL_law_755 3 rfl rfl ?_
  refine x_iconst (pc' := 757) (v := 1) K dL_law_756 (by decide) rfl ?_
  refine x_iadd (pc' := 758) K dL_law_757 rfl ?_
  refine x_sld (pc' := 759) K hX hbl hbA (i := nI k + 1) (xlin (j := 1) (by omega) hL) dL_law_758 rfl ?_
  refine x_subI (pc' := 762) (wn := fun F1 G1 => w6 cI cO aX F1 G1 ++ w7 cI aM F' G') K (mX6_bestLeash l D cI cO aX _) rfl gL_law_X6_bestLeash rfl dsX6_bestLeash ⟨rfl, rfl, ⟨Nat.le_of_ble_eq_true rfl, Nat.le_of_ble_eq_true rfl⟩, Nat.le_of_ble_eq_true rfl, Nat.le_of_ble_eq_true rfl⟩ (h _) 6 0 rfl rfl (X := w7 cI aM F' G') List.perm_append_comm (fun _ _ => List.perm_append_comm) (st := []) rfl rfl (Nat.le_of_ble_eq_true rfl) dL_law_759 rfl (fun r F1 G1 h => ?_)
  refine x_aload_n (pc' := 763) K dL_law_762 2 rfl rfl ?_
  refine x_aload_n (pc' := 764) K dL_law_763 0 rfl rfl ?_
  refine x_iload_n (pc' := 765) K dL_law_764 3 rfl rfl ?_
  refine x_iconst (pc' := 766) (v := 1) K dL_law_765 (by decide) rfl ?_
  refine x_iadd (pc' := 767) K dL_law_766 rfl ?_
  refine x_sld (pc' := 768) K hX hbl hbA (i := nI k + 1) (xlin (j := 1) (by omega) hL) dL_law_767 rfl ?_
  refine x_subI (pc' := 771) (wn := fun F2 G2 => w6 cI cO aX F1 G1 ++ w7 cI aM F2 G2) K (mX7_bestLeash l D cI cO aM _) rfl gL_law_X7_bestLeash rfl dsX7_bestLeash ⟨rfl, rfl, ⟨Nat.le_of_ble_eq_true rfl, Nat.le_of_ble_eq_true rfl⟩, Nat.le_of_ble_eq_true rfl, Nat.le_of_ble_eq_true rfl⟩ h 7 0 rfl rfl (X := w6 cI cO aX F1 G1) (List.Perm.refl _) (fun _ _ => List.Perm.refl _) (st := [.int _]) rfl rfl (Nat.le_of_ble_eq_true rfl) dL_law_768 rfl (fun r' F2 G2 h => ?_)
  refine x_icmp_eq (tgt := 1300) (pc' := 774) K dL_law_771 rfl rfl (fun _ => hgo _ _ _ _ h.2) (fun q => absurd h.1 q)
set_option maxHeartbeats 4000000 in
set_option maxRecDepth 100000 in
theorem tL_bestFeed (K : XK p m c code 4 s #[Value.ref b] wsL_law R_law D (xtys cI cO) (fun q : Nat => s.heap.size ≤ q) meth ret) (hX : va_X b Lx xs s s.heap) (hbl : b < s.heap.size) (hbA : ¬ s.heap.size ≤ b) (hL : Lx ≤ 3072) {I : xF → xA → xF → xA → Prop} (ho : oX_bestFeed I) (k : Nat) (hk : k + 6 ≤ Lx) (F : xF) (G : xA) (F' : xF) (G' : xA) (hI : I F G F' G') (hgo : ∀ (F : xF) (G : xA) (F' : xF) (G' : xA), I F G F' G' → XJ p l e room_1 s m #[Value.ref b] below meth c 121 3708 (lw_Z below #[Value.ref b] s) D (xtys cI cO) (fun q : Nat => s.heap.size ≤ q) 4 (w6 cI cO aX F G ++ w7 cI aM F' G') 1300 [(0, .ref b), (1, .ref (aX 0)), (2, .ref (aM 0)), (3, .int (nI k))] []) : XJ p l e room_1 s m #[Value.ref b] below meth c 121 3708 (lw_Z below #[Value.ref b] s) D (xtys cI cO) (fun q : Nat => s.heap.size ≤ q) 4 (w6 cI cO aX F G ++ w7 cI aM F' G') 776 [(0, .ref b), (1, .ref (aX 0)), (2, .ref (aM 0)), (3, .int (nI k))] [] := by
  have h := fun x1 => ho x1 F G F' G' hI
  refine x_aload_n (pc' := 777) K dL_law_776 1 rfl rfl ?_
  refine x_aload_n (pc' := 778) K dL_law_777 0 rfl rfl ?_
  refine x_iload_n (pc' := 779) K dL_law_778 3 rfl rfl ?_
  refine x_iconst (pc' := 780) (v := 1) K dL_law_779 (by decide) rfl ?_
  refine x_iadd (pc' := 781) K dL_law_780 rfl ?_
  refine x_sld (pc' := 782) K hX hbl hbA (i := nI k + 1) (xlin (j := 1) (by omega) hL) dL_law_781 rfl ?_
  refine x_subI (pc' := 785) (wn := fun F1 G1 => w6 cI cO aX F1 G1 ++ w7 cI aM F' G') K (mX6_bestFeed l D cI cO aX _) rfl gL_law_X6_bestFeed rfl dsX6_bestFeed ⟨rfl, rfl, ⟨Nat.le_of_ble_eq_true rfl, Nat.le_of_ble_eq_true rfl⟩, Nat.le_of_ble_eq_true rfl, Nat.le_of_ble_eq_true rfl⟩ (h _) 6 0 rfl rfl (X := w7 cI aM F' G') List.perm_append_comm (fun _ _ => List.perm_append_comm) (st := []) rfl rfl (Nat.le_of_ble_eq_true rfl) dL_law_782 rfl (fun r F1 G1 h => ?_)
  refine x_aload_n (pc' := 786) K dL_law_785 2 rfl rfl ?_
  refine x_aload_n (pc' := 787) K dL_law_786 0 rfl rfl ?_
  refine x_iload_n (pc' := 788) K dL_law_787 3 rfl rfl ?_
  refine x_iconst (pc' := 789) (v := 1) K dL_law_788 (by decide) rfl ?_
  refine x_iadd (pc' := 790) K dL_law_789 rfl ?_
  refine x_sld (pc' := 791) K hX hbl hbA (i := nI k + 1) (xlin (j := 1) (by omega) hL) dL_law_790 rfl ?_
  refine x_subI (pc' := 794) (wn := fun F2 G2 => w6 cI cO aX F1 G1 ++ w7 cI aM F2 G2) K (mX7_bestFeed l D cI cO aM _) rfl gL_law_X7_bestFeed rfl dsX7_bestFeed ⟨rfl, rfl, ⟨Nat.le_of_ble_eq_true rfl, Nat.le_of_ble_eq_true rfl⟩, Nat.le_of_ble_eq_true rfl, Nat.le_of_ble_eq_true rfl⟩ h 7 0 rfl rfl (X := w6 cI cO aX F1 G1) (List.Perm.refl _) (fun _ _ => List.Perm.refl _) (st := [.int _]) rfl rfl (Nat.le_of_ble_eq_true rfl) dL_law_791 rfl (fun r' F2 G2 h => ?_)
  refine x_icmp_eq (tgt := 1300) (pc' := 797) K dL_law_794 rfl rfl (fun _ => hgo _ _ _ _ h.2) (fun q => absurd h.1 q)
set_option maxHeartbeats 4000000 in
set_option maxRecDepth 100000 in
theorem tL_gain (K : XK p m c code 4 s #[Value.ref b] wsL_law R_law D (xtys cI cO) (fun q : Nat => s.heap.size ≤ q) meth ret) (hX : va_X b Lx xs s s.heap) (hbl : b < s.heap.size) (hbA : ¬ s.heap.size ≤ b) (hL : Lx ≤ 3072) {I : xF → xA → xF → xA → Prop} (ho : oX_gain I) (k : Nat) (hk : k + 6 ≤ Lx) (F : xF) (G : xA) (F' : xF) (G' : xA) (hI : I F G F' G') (hgo : ∀ (F : xF) (G : xA) (F' : xF) (G' : xA), I F G F' G' → XJ p l e room_1 s m #[Value.ref b] below meth c 121 3708 (lw_Z below #[Value.ref b] s) D (xtys cI cO) (fun q : Nat => s.heap.size ≤ q) 4 (w6 cI cO aX F G ++ w7 cI aM F' G') 1300 [(0, .ref b), (1, .ref (aX 0)), (2, .ref (aM 0)), (3, .int (nI k))] []) : XJ p l e room_1 s m #[Value.ref b] below meth c 121 3708 (lw_Z below #[Value.ref b] s) D (xtys cI cO) (fun q : Nat => s.heap.size ≤ q) 4 (w6 cI cO aX F G ++ w7 cI aM F' G') 799 [(0, .ref b), (1, .ref (aX 0)), (2, .ref (aM 0)), (3, .int (nI k))] [] := by
  have h := fun x1 x2 => ho x1 x2 F G F' G' hI
  refine x_aload_n (pc' := 800) K dL_law_799 1 rfl rfl ?_
  refine x_aload_n (pc' := 801) K dL_law_800 0 rfl rfl ?_
  refine x_iload_n (pc' := 802) K dL_law_801 3 rfl rfl ?_
  refine x_iconst (pc' := 803) (v := 1) K dL_law_802 (by decide) rfl ?_
  refine x_iadd (pc' := 804) K dL_law_803 rfl ?_
  refine x_sld (pc' := 805) K hX hbl hbA (i := nI k + 1) (xlin (j := 1) (by omega) hL) dL_law_804 rfl ?_
  refine x_aload_n (pc' := 806) K dL_law_805 0 rfl rfl ?_
  refine x_iload_n (pc' := 807) K dL_law_806 3 rfl rfl ?_
  refine x_iconst (pc' := 808) (v := 2) K dL_law_807 (by decide) rfl ?_
  refine x_iadd (pc' := 809) K dL_law_808 rfl ?_
  refine x_sld (pc' := 810) K hX hbl hbA (i := nI k + 2) (xlin (j := 2) (by omega) hL) dL_law_809 rfl ?_
  refine x_subI (pc' := 813) (wn := fun F1 G1 => w6 cI cO aX F1 G1 ++ w7 cI aM F' G') K (mX6_gain l D cI cO aX _ _) rfl gL_law_X6_gain rfl dsX6_gain ⟨rfl, rfl, ⟨Nat.le_of_ble_eq_true rfl, Nat.le_of_ble_eq_true rfl⟩, Nat.le_of_ble_eq_true rfl, Nat.le_of_ble_eq_true rfl⟩ (h _ _) 6 0 rfl rfl (X := w7 cI aM F' G') List.perm_append_comm (fun _ _ => List.perm_append_comm) (st := []) rfl rfl (Nat.le_of_ble_eq_true rfl) dL_law_810 rfl (fun r F1 G1 h => ?_)
  refine x_aload_n (pc' := 814) K dL_law_813 2 rfl rfl ?_
  refine x_aload_n (pc' := 815) K dL_law_814 0 rfl rfl ?_
  refine x_iload_n (pc' := 816) K dL_law_815 3 rfl rfl ?_
  refine x_iconst (pc' := 817) (v := 1) K dL_law_816 (by decide) rfl ?_
  refine x_iadd (pc' := 818) K dL_law_817 rfl ?_
  refine x_sld (pc' := 819) K hX hbl hbA (i := nI k + 1) (xlin (j := 1) (by omega) hL) dL_law_818 rfl ?_
  refine x_aload_n (pc' := 820) K dL_law_819 0 rfl rfl ?_
  refine x_iload_n (pc' := 821) K dL_law_820 3 rfl rfl ?_
  refine x_iconst (pc' := 822) (v := 2) K dL_law_821 (by decide) rfl ?_
  refine x_iadd (pc' := 823) K dL_law_822 rfl ?_
  refine x_sld (pc' := 824) K hX hbl hbA (i := nI k + 2) (xlin (j := 2) (by omega) hL) dL_law_823 rfl ?_
  refine x_subI (pc' := 827) (wn := fun F2 G2 => w6 cI cO aX F1 G1 ++ w7 cI aM F2 G2) K (mX7_gain l D cI cO aM _ _) rfl gL_law_X7_gain rfl dsX7_gain ⟨rfl, rfl, ⟨Nat.le_of_ble_eq_true rfl, Nat.le_of_ble_eq_true rfl⟩, Nat.le_of_ble_eq_true rfl, Nat.le_of_ble_eq_true rfl⟩ h 7 0 rfl rfl (X := w6 cI cO aX F1 G1) (List.Perm.refl _) (fun _ _ => List.Perm.refl _) (st := [.int _]) rfl rfl (Nat.le_of_ble_eq_true rfl) dL_law_824 rfl (fun r' F2 G2 h => ?_)
  refine x_icmp_eq (tgt := 1300) (pc' := 830) K dL_law_827 rfl rfl (fun _ => hgo _ _ _ _ h.2) (fun q => absurd h.1 q)
set_option maxHeartbeats 4000000 in
set_option maxRecDepth 100000 in
theorem tL_bestTrade (K : XK p m c code 4 s #[Value.ref b] wsL_law R_law D (xtys cI cO) (fun q : Nat => s.heap.size ≤ q) meth ret) (hX : va_X b Lx xs s s.heap) (hbl : b < s.heap.size) (hbA : ¬ s.heap.size ≤ b) (hL : Lx ≤ 3072) {I : xF → xA → xF → xA → Prop} (ho : oX_bestTrade I) (k : Nat) (hk : k + 6 ≤ Lx) (F : xF) (G : xA) (F' : xF) (G' : xA) (hI : I F G F' G') (hgo : ∀ (F : xF) (G : xA) (F' : xF) (G' : xA), I F G F' G' → XJ p l e room_1 s m #[Value.ref b] below meth c 121 3708 (lw_Z below #[Value.ref b] s) D (xtys cI cO) (fun q : Nat => s.heap.size ≤ q) 4 (w6 cI cO aX F G ++ w7 cI aM F' G') 1300 [(0, .ref b), (1, .ref (aX 0)), (2, .ref (aM 0)), (3, .int (nI k))] []) : XJ p l e room_1 s m #[Value.ref b] below meth c 121 3708 (lw_Z below #[Value.ref b] s) D (xtys cI cO) (fun q : Nat => s.heap.size ≤ q) 4 (w6 cI cO aX F G ++ w7 cI aM F' G') 832 [(0, .ref b), (1, .ref (aX 0)), (2, .ref (aM 0)), (3, .int (nI k))] [] := by
  have h := ho F G F' G' hI
  refine x_aload_n (pc' := 833) K dL_law_832 1 rfl rfl ?_
  refine x_subI (pc' := 836) (wn := fun F1 G1 => w6 cI cO aX F1 G1 ++ w7 cI aM F' G') K (mX6_bestTrade l D cI cO aX) rfl gL_law_X6_bestTrade rfl dsX6_bestTrade ⟨rfl, rfl, ⟨Nat.le_of_ble_eq_true rfl, Nat.le_of_ble_eq_true rfl⟩, Nat.le_of_ble_eq_true rfl, Nat.le_of_ble_eq_true rfl⟩ h 6 0 rfl rfl (X := w7 cI aM F' G') List.perm_append_comm (fun _ _ => List.perm_append_comm) (st := []) rfl rfl (Nat.le_of_ble_eq_true rfl) dL_law_833 rfl (fun r F1 G1 h => ?_)
  refine x_aload_n (pc' := 837) K dL_law_836 2 rfl rfl ?_
  refine x_subI (pc' := 840) (wn := fun F2 G2 => w6 cI cO aX F1 G1 ++ w7 cI aM F2 G2) K (mX7_bestTrade l D cI cO aM) rfl gL_law_X7_bestTrade rfl dsX7_bestTrade ⟨rfl, rfl, ⟨Nat.le_of_ble_eq_true rfl, Nat.le_of_ble_eq_true rfl⟩, Nat.le_of_ble_eq_true rfl, Nat.le_of_ble_eq_true rfl⟩ h 7 0 rfl rfl (X := w6 cI cO aX F1 G1) (List.Perm.refl _) (fun _ _ => List.Perm.refl _) (st := [.int _]) rfl rfl (Nat.le_of_ble_eq_true rfl) dL_law_837 rfl (fun r' F2 G2 h => ?_)
  refine x_icmp_eq (tgt := 1300) (pc' := 843) K dL_law_840 rfl rfl (fun _ => hgo _ _ _ _ h.2) (fun q => absurd h.1 q)
set_option maxHeartbeats 4000000 in
set_option maxRecDepth 100000 in
theorem tL_share (K : XK p m c code 4 s #[Value.ref b] wsL_law R_law D (xtys cI cO) (fun q : Nat => s.heap.size ≤ q) meth ret) (hX : va_X b Lx xs s s.heap) (hbl : b < s.heap.size) (hbA : ¬ s.heap.size ≤ b) (hL : Lx ≤ 3072) {I : xF → xA → xF → xA → Prop} (ho : oX_share I) (k : Nat) (hk : k + 6 ≤ Lx) (F : xF) (G : xA) (F' : xF) (G' : xA) (hI : I F G F' G') (hgo : ∀ (F : xF) (G : xA) (F' : xF) (G' : xA), I F G F' G' → XJ p l e room_1 s m #[Value.ref b] below meth c 121 3708 (lw_Z below #[Value.ref b] s) D (xtys cI cO) (fun q : Nat => s.heap.size ≤ q) 4 (w6 cI cO aX F G ++ w7 cI aM F' G') 1300 [(0, .ref b), (1, .ref (aX 0)), (2, .ref (aM 0)), (3, .int (nI k))] []) : XJ p l e room_1 s m #[Value.ref b] below meth c 121 3708 (lw_Z below #[Value.ref b] s) D (xtys cI cO) (fun q : Nat => s.heap.size ≤ q) 4 (w6 cI cO aX F G ++ w7 cI aM F' G') 845 [(0, .ref b), (1, .ref (aX 0)), (2, .ref (aM 0)), (3, .int (nI k))] [] := by
  have h := fun x1 x2 x3 => ho x1 x2 x3 F G F' G' hI
  refine x_aload_n (pc' := 846) K dL_law_845 1 rfl rfl ?_
  refine x_aload_n (pc' := 847) K dL_law_846 0 rfl rfl ?_
  refine x_iload_n (pc' := 848) K dL_law_847 3 rfl rfl ?_
  refine x_iconst (pc' := 849) (v := 1) K dL_law_848 (by decide) rfl ?_
  refine x_iadd (pc' := 850) K dL_law_849 rfl ?_
  refine x_sld (pc' := 851) K hX hbl hbA (i := nI k + 1) (xlin (j := 1) (by omega) hL) dL_law_850 rfl ?_
  refine x_aload_n (pc' := 852) K dL_law_851 0 rfl rfl ?_
  refine x_iload_n (pc' := 853) K dL_law_852 3 rfl rfl ?_
  refine x_iconst (pc' := 854) (v := 2) K dL_law_853 (by decide) rfl ?_
  refine x_iadd (pc' := 855) K dL_law_854 rfl ?_
  refine x_sld (pc' := 856) K hX hbl hbA (i := nI k + 2) (xlin (j := 2) (by omega) hL) dL_law_855 rfl ?_
  refine x_aload_n (pc' := 857) K dL_law_856 0 rfl rfl ?_
  refine x_iload_n (pc' := 858) K dL_law_857 3 rfl rfl ?_
  refine x_iconst (pc' := 859) (v := 3) K dL_law_858 (by decide) rfl ?_
  refine x_iadd (pc' := 860) K dL_law_859 rfl ?_
  refine x_sld (pc' := 861) K hX hbl hbA (i := nI k + 3) (xlin (j := 3) (by omega) hL) dL_law_860 rfl ?_
  refine x_subI (pc' := 864) (wn := fun F1 G1 => w6 cI cO aX F1 G1 ++ w7 cI aM F' G') K (mX6_share l D cI cO aX _ _ _) rfl gL_law_X6_share rfl dsX6_share ⟨rfl, rfl, ⟨Nat.le_of_ble_eq_true rfl, Nat.le_of_ble_eq_true rfl⟩, Nat.le_of_ble_eq_true rfl, Nat.le_of_ble_eq_true rfl⟩ (h _ _ _) 6 0 rfl rfl (X := w7 cI aM F' G') List.perm_append_comm (fun _ _ => List.perm_append_comm) (st := []) rfl rfl (Nat.le_of_ble_eq_true rfl) dL_law_861 rfl (fun r F1 G1 h => ?_)
  refine x_aload_n (pc' := 865) K dL_law_864 2 rfl rfl ?_
  refine x_aload_n (pc' := 866) K dL_law_865 0 rfl rfl ?_
  refine x_iload_n (pc' := 867) K dL_law_866 3 rfl rfl ?_
  refine x_iconst (pc' := 868) (v := 1) K dL_law_867 (by decide) rfl ?_
  refine x_iadd (pc' := 869) K dL_law_868 rfl ?_
  refine x_sld (pc' := 870) K hX hbl hbA (i := nI k + 1) (xlin (j := 1) (by omega) hL) dL_law_869 rfl ?_
  refine x_aload_n (pc' := 871) K dL_law_870 0 rfl rfl ?_
  refine x_iload_n (pc' := 872) K dL_law_871 3 rfl rfl ?_
  refine x_iconst (pc' := 873) (v := 2) K dL_law_872 (by decide) rfl ?_
  refine x_iadd (pc' := 874) K dL_law_873 rfl ?_
  refine x_sld (pc' := 875) K hX hbl hbA (i := nI k + 2) (xlin (j := 2) (by omega) hL) dL_law_874 rfl ?_
  refine x_aload_n (pc' := 876) K dL_law_875 0 rfl rfl ?_
  refine x_iload_n (pc' := 877) K dL_law_876 3 rfl rfl ?_
  refine x_iconst (pc' := 878) (v := 3) K dL_law_877 (by decide) rfl ?_
  refine x_iadd (pc' := 879) K dL_law_878 rfl ?_
  refine x_sld (pc' := 880) K hX hbl hbA (i := nI k + 3) (xlin (j := 3) (by omega) hL) dL_law_879 rfl ?_
  refine x_subI (pc' := 883) (wn := fun F2 G2 => w6 cI cO aX F1 G1 ++ w7 cI aM F2 G2) K (mX7_share l D cI cO aM _ _ _) rfl gL_law_X7_share rfl dsX7_share ⟨rfl, rfl, ⟨Nat.le_of_ble_eq_true rfl, Nat.le_of_ble_eq_true rfl⟩, Nat.le_of_ble_eq_true rfl, Nat.le_of_ble_eq_true rfl⟩ h 7 0 rfl rfl (X := w6 cI cO aX F1 G1) (List.Perm.refl _) (fun _ _ => List.Perm.refl _) (st := [.int _]) rfl rfl (Nat.le_of_ble_eq_true rfl) dL_law_880 rfl (fun r' F2 G2 h => ?_)
  refine x_icmp_eq (tgt := 1300) (pc' := 886) K dL_law_883 rfl rfl (fun _ => hgo _ _ _ _ h.2) (fun q => absurd h.1 q)
set_option maxHeartbeats 4000000 in
set_option maxRecDepth 100000 in
theorem tL_whoHid (K : XK p m c code 4 s #[Value.ref b] wsL_law R_law D (xtys cI cO) (fun q : Nat => s.heap.size ≤ q) meth ret) (hX : va_X b Lx xs s s.heap) (hbl : b < s.heap.size) (hbA : ¬ s.heap.size ≤ b) (hL : Lx ≤ 3072) {I : xF → xA → xF → xA → Prop} (ho : oX_whoHid I) (k : Nat) (hk : k + 6 ≤ Lx) (F : xF) (G : xA) (F' : xF) (G' : xA) (hI : I F G F' G') (hgo : ∀ (F : xF) (G : xA) (F' : xF) (G' : xA), I F G F' G' → XJ p l e room_1 s m #[Value.ref b] below meth c 121 3708 (lw_Z below #[Value.ref b] s) D (xtys cI cO) (fun q : Nat => s.heap.size ≤ q) 4 (w6 cI cO aX F G ++ w7 cI aM F' G') 1300 [(0, .ref b), (1, .ref (aX 0)), (2, .ref (aM 0)), (3, .int (nI k))] []) : XJ p l e room_1 s m #[Value.ref b] below meth c 121 3708 (lw_Z below #[Value.ref b] s) D (xtys cI cO) (fun q : Nat => s.heap.size ≤ q) 4 (w6 cI cO aX F G ++ w7 cI aM F' G') 888 [(0, .ref b), (1, .ref (aX 0)), (2, .ref (aM 0)), (3, .int (nI k))] [] := by
  have h := fun x1 x2 x3 => ho x1 x2 x3 F G F' G' hI
  refine x_aload_n (pc' := 889) K dL_law_888 1 rfl rfl ?_
  refine x_aload_n (pc' := 890) K dL_law_889 0 rfl rfl ?_
  refine x_iload_n (pc' := 891) K dL_law_890 3 rfl rfl ?_
  refine x_iconst (pc' := 892) (v := 1) K dL_law_891 (by decide) rfl ?_
  refine x_iadd (pc' := 893) K dL_law_892 rfl ?_
  refine x_sld (pc' := 894) K hX hbl hbA (i := nI k + 1) (xlin (j := 1) (by omega) hL) dL_law_893 rfl ?_
  refine x_aload_n (pc' := 895) K dL_law_894 0 rfl rfl ?_
  refine x_iload_n (pc' := 896) K dL_law_895 3 rfl rfl ?_
  refine x_iconst (pc' := 897) (v := 2) K dL_law_896 (by decide) rfl ?_
  refine x_iadd (pc' := 898) K dL_law_897 rfl ?_
  refine x_sld (pc' := 899) K hX hbl hbA (i := nI k + 2) (xlin (j := 2) (by omega) hL) dL_law_898 rfl ?_
  refine x_aload_n (pc' := 900) K dL_law_899 0 rfl rfl ?_
  refine x_iload_n (pc' := 901) K dL_law_900 3 rfl rfl ?_
  refine x_iconst (pc' := 902) (v := 3) K dL_law_901 (by decide) rfl ?_
  refine x_iadd (pc' := 903) K dL_law_902 rfl ?_
  refine x_sld (pc' := 904) K hX hbl hbA (i := nI k + 3) (xlin (j := 3) (by omega) hL) dL_law_903 rfl ?_
  refine x_subI (pc' := 907) (wn := fun F1 G1 => w6 cI cO aX F1 G1 ++ w7 cI aM F' G') K (mX6_whoHid l D cI cO aX _ _ _) rfl gL_law_X6_whoHid rfl dsX6_whoHid ⟨rfl, rfl, ⟨Nat.le_of_ble_eq_true rfl, Nat.le_of_ble_eq_true rfl⟩, Nat.le_of_ble_eq_true rfl, Nat.le_of_ble_eq_true rfl⟩ (h _ _ _) 6 0 rfl rfl (X := w7 cI aM F' G') List.perm_append_comm (fun _ _ => List.perm_append_comm) (st := []) rfl rfl (Nat.le_of_ble_eq_true rfl) dL_law_904 rfl (fun r F1 G1 h => ?_)
  refine x_aload_n (pc' := 908) K dL_law_907 2 rfl rfl ?_
  refine x_aload_n (pc' := 909) K dL_law_908 0 rfl rfl ?_
  refine x_iload_n (pc' := 910) K dL_law_909 3 rfl rfl ?_
  refine x_iconst (pc' := 911) (v := 1) K dL_law_910 (by decide) rfl ?_
  refine x_iadd (pc' := 912) K dL_law_911 rfl ?_
  refine x_sld (pc' := 913) K hX hbl hbA (i := nI k + 1) (xlin (j := 1) (by omega) hL) dL_law_912 rfl ?_
  refine x_aload_n (pc' := 914) K dL_law_913 0 rfl rfl ?_
  refine x_iload_n (pc' := 915) K dL_law_914 3 rfl rfl ?_
  refine x_iconst (pc' := 916) (v := 2) K dL_law_915 (by decide) rfl ?_
  refine x_iadd (pc' := 917) K dL_law_916 rfl ?_
  refine x_sld (pc' := 918) K hX hbl hbA (i := nI k + 2) (xlin (j := 2) (by omega) hL) dL_law_917 rfl ?_
  refine x_aload_n (pc' := 919) K dL_law_918 0 rfl rfl ?_
  refine x_iload_n (pc' := 920) K dL_law_919 3 rfl rfl ?_
  refine x_iconst (pc' := 921) (v := 3) K dL_law_920 (by decide) rfl ?_
  refine x_iadd (pc' := 922) K dL_law_921 rfl ?_
  refine x_sld (pc' := 923) K hX hbl hbA (i := nI k + 3) (xlin (j := 3) (by omega) hL) dL_law_922 rfl ?_
  refine x_subI (pc' := 926) (wn := fun F2 G2 => w6 cI cO aX F1 G1 ++ w7 cI aM F2 G2) K (mX7_whoHid l D cI cO aM _ _ _) rfl gL_law_X7_whoHid rfl dsX7_whoHid ⟨rfl, rfl, ⟨Nat.le_of_ble_eq_true rfl, Nat.le_of_ble_eq_true rfl⟩, Nat.le_of_ble_eq_true rfl, Nat.le_of_ble_eq_true rfl⟩ h 7 0 rfl rfl (X := w6 cI cO aX F1 G1) (List.Perm.refl _) (fun _ _ => List.Perm.refl _) (st := [.int _]) rfl rfl (Nat.le_of_ble_eq_true rfl) dL_law_923 rfl (fun r' F2 G2 h => ?_)
  refine x_icmp_eq (tgt := 1300) (pc' := 929) K dL_law_926 rfl rfl (fun _ => hgo _ _ _ _ h.2) (fun q => absurd h.1 q)
set_option maxHeartbeats 4000000 in
set_option maxRecDepth 100000 in
theorem tL_voice (K : XK p m c code 4 s #[Value.ref b] wsL_law R_law D (xtys cI cO) (fun q : Nat => s.heap.size ≤ q) meth ret) (hX : va_X b Lx xs s s.heap) (hbl : b < s.heap.size) (hbA : ¬ s.heap.size ≤ b) (hL : Lx ≤ 3072) {I : xF → xA → xF → xA → Prop} (ho : oX_voice I) (k : Nat) (hk : k + 6 ≤ Lx) (F : xF) (G : xA) (F' : xF) (G' : xA) (hI : I F G F' G') (hgo : ∀ (F : xF) (G : xA) (F' : xF) (G' : xA), I F G F' G' → XJ p l e room_1 s m #[Value.ref b] below meth c 121 3708 (lw_Z below #[Value.ref b] s) D (xtys cI cO) (fun q : Nat => s.heap.size ≤ q) 4 (w6 cI cO aX F G ++ w7 cI aM F' G') 1300 [(0, .ref b), (1, .ref (aX 0)), (2, .ref (aM 0)), (3, .int (nI k))] []) : XJ p l e room_1 s m #[Value.ref b] below meth c 121 3708 (lw_Z below #[Value.ref b] s) D (xtys cI cO) (fun q : Nat => s.heap.size ≤ q) 4 (w6 cI cO aX F G ++ w7 cI aM F' G') 931 [(0, .ref b), (1, .ref (aX 0)), (2, .ref (aM 0)), (3, .int (nI k))] [] := by
  have h := fun x1 x2 x3 => ho x1 x2 x3 F G F' G' hI
  refine x_aload_n (pc' := 932) K dL_law_931 1 rfl rfl ?_
  refine x_aload_n (pc' := 933) K dL_law_932 0 rfl rfl ?_
  refine x_iload_n (pc' := 934) K dL_law_933 3 rfl rfl ?_
  refine x_iconst (pc' := 935) (v := 1) K dL_law_934 (by decide) rfl ?_
  refine x_iadd (pc' := 936) K dL_law_935 rfl ?_
  refine x_sld (pc' := 937) K hX hbl hbA (i := nI k + 1) (xlin (j := 1) (by omega) hL) dL_law_936 rfl ?_
  refine x_aload_n (pc' := 938) K dL_law_937 0 rfl rfl ?_
  refine x_iload_n (pc' := 939) K dL_law_938 3 rfl rfl ?_
  refine x_iconst (pc' := 940) (v := 2) K dL_law_939 (by decide) rfl ?_
  refine x_iadd (pc' := 941) K dL_law_940 rfl ?_
  refine x_sld (pc' := 942) K hX hbl hbA (i := nI k + 2) (xlin (j := 2) (by omega) hL) dL_law_941 rfl ?_
  refine x_aload_n (pc' := 943) K dL_law_942 0 rfl rfl ?_
  refine x_iload_n (pc' := 944) K dL_law_943 3 rfl rfl ?_
  refine x_iconst (pc' := 945) (v := 3) K dL_law_944 (by decide) rfl ?_
  refine x_iadd (pc' := 946) K dL_law_945 rfl ?_
  refine x_sld (pc' := 947) K hX hbl hbA (i := nI k + 3) (xlin (j := 3) (by omega) hL) dL_law_946 rfl ?_
  refine x_subI (pc' := 950) (wn := fun F1 G1 => w6 cI cO aX F1 G1 ++ w7 cI aM F' G') K (mX6_voice l D cI cO aX _ _ _) rfl gL_law_X6_voice rfl dsX6_voice ⟨rfl, rfl, ⟨Nat.le_of_ble_eq_true rfl, Nat.le_of_ble_eq_true rfl⟩, Nat.le_of_ble_eq_true rfl, Nat.le_of_ble_eq_true rfl⟩ (h _ _ _) 6 0 rfl rfl (X := w7 cI aM F' G') List.perm_append_comm (fun _ _ => List.perm_append_comm) (st := []) rfl rfl (Nat.le_of_ble_eq_true rfl) dL_law_947 rfl (fun r F1 G1 h => ?_)
  refine x_aload_n (pc' := 951) K dL_law_950 2 rfl rfl ?_
  refine x_aload_n (pc' := 952) K dL_law_951 0 rfl rfl ?_
  refine x_iload_n (pc' := 953) K dL_law_952 3 rfl rfl ?_
  refine x_iconst (pc' := 954) (v := 1) K dL_law_953 (by decide) rfl ?_
  refine x_iadd (pc' := 955) K dL_law_954 rfl ?_
  refine x_sld (pc' := 956) K hX hbl hbA (i := nI k + 1) (xlin (j := 1) (by omega) hL) dL_law_955 rfl ?_
  refine x_aload_n (pc' := 957) K dL_law_956 0 rfl rfl ?_
  refine x_iload_n (pc' := 958) K dL_law_957 3 rfl rfl ?_
  refine x_iconst (pc' := 959) (v := 2) K dL_law_958 (by decide) rfl ?_
  refine x_iadd (pc' := 960) K dL_law_959 rfl ?_
  refine x_sld (pc' := 961) K hX hbl hbA (i := nI k + 2) (xlin (j := 2) (by omega) hL) dL_law_960 rfl ?_
  refine x_aload_n (pc' := 962) K dL_law_961 0 rfl rfl ?_
  refine x_iload_n (pc' := 963) K dL_law_962 3 rfl rfl ?_
  refine x_iconst (pc' := 964) (v := 3) K dL_law_963 (by decide) rfl ?_
  refine x_iadd (pc' := 965) K dL_law_964 rfl ?_
  refine x_sld (pc' := 966) K hX hbl hbA (i := nI k + 3) (xlin (j := 3) (by omega) hL) dL_law_965 rfl ?_
  refine x_subI (pc' := 969) (wn := fun F2 G2 => w6 cI cO aX F1 G1 ++ w7 cI aM F2 G2) K (mX7_voice l D cI cO aM _ _ _) rfl gL_law_X7_voice rfl dsX7_voice ⟨rfl, rfl, ⟨Nat.le_of_ble_eq_true rfl, Nat.le_of_ble_eq_true rfl⟩, Nat.le_of_ble_eq_true rfl, Nat.le_of_ble_eq_true rfl⟩ h 7 0 rfl rfl (X := w6 cI cO aX F1 G1) (List.Perm.refl _) (fun _ _ => List.Perm.refl _) (st := [.int _]) rfl rfl (Nat.le_of_ble_eq_true rfl) dL_law_966 rfl (fun r' F2 G2 h => ?_)
  refine x_icmp_eq (tgt := 1300) (pc' := 972) K dL_law_969 rfl rfl (fun _ => hgo _ _ _ _ h.2) (fun q => absurd h.1 q)
set_option maxHeartbeats 4000000 in
set_option maxRecDepth 100000 in
theorem tL_body (K : XK p m c code 4 s #[Value.ref b] wsL_law R_law D (xtys cI cO) (fun q : Nat => s.heap.size ≤ q) meth ret) (hX : va_X b Lx xs s s.heap) (hbl : b < s.heap.size) (hbA : ¬ s.heap.size ≤ b) (hL : Lx ≤ 3072) {I : xF → xA → xF → xA → Prop} (ho : oX_body I) (k : Nat) (hk : k + 6 ≤ Lx) (F : xF) (G : xA) (F' : xF) (G' : xA) (hI : I F G F' G') (hgo : ∀ (F : xF) (G : xA) (F' : xF) (G' : xA), I F G F' G' → XJ p l e room_1 s m #[Value.ref b] below meth c 121 3708 (lw_Z below #[Value.ref b] s) D (xtys cI cO) (fun q : Nat => s.heap.size ≤ q) 4 (w6 cI cO aX F G ++ w7 cI aM F' G') 1300 [(0, .ref b), (1, .ref (aX 0)), (2, .ref (aM 0)), (3, .int (nI k))] []) : XJ p l e room_1 s m #[Value.ref b] below meth c 121 3708 (lw_Z below #[Value.ref b] s) D (xtys cI cO) (fun q : Nat => s.heap.size ≤ q) 4 (w6 cI cO aX F G ++ w7 cI aM F' G') 974 [(0, .ref b), (1, .ref (aX 0)), (2, .ref (aM 0)), (3, .int (nI k))] [] := by
  have h := fun x1 => ho x1 F G F' G' hI
  refine x_aload_n (pc' := 975) K dL_law_974 1 rfl rfl ?_
  refine x_aload_n (pc' := 976) K dL_law_975 0 rfl rfl ?_
  refine x_iload_n (pc' := 977) K dL_law_976 3 rfl rfl ?_
  refine x_iconst (pc' := 978) (v := 1) K dL_law_977 (by decide) rfl ?_
  refine x_iadd (pc' := 979) K dL_law_978 rfl ?_
  refine x_sld (pc' := 980) K hX hbl hbA (i := nI k + 1) (xlin (j := 1) (by omega) hL) dL_law_979 rfl ?_
  refine x_subI (pc' := 983) (wn := fun F1 G1 => w6 cI cO aX F1 G1 ++ w7 cI aM F' G') K (mX6_body l D cI cO aX _) rfl gL_law_X6_body rfl dsX6_body ⟨rfl, rfl, ⟨Nat.le_of_ble_eq_true rfl, Nat.le_of_ble_eq_true rfl⟩, Nat.le_of_ble_eq_true rfl, Nat.le_of_ble_eq_true rfl⟩ (h _) 6 0 rfl rfl (X := w7 cI aM F' G') List.perm_append_comm (fun _ _ => List.perm_append_comm) (st := []) rfl rfl (Nat.le_of_ble_eq_true rfl) dL_law_980 rfl (fun r F1 G1 h => ?_)
  refine x_aload_n (pc' := 984) K dL_law_983 2 rfl rfl ?_
  refine x_aload_n (pc' := 985) K dL_law_984 0 rfl rfl ?_
  refine x_iload_n (pc' := 986) K dL_law_985 3 rfl rfl ?_
  refine x_iconst (pc' := 987) (v := 1) K dL_law_986 (by decide) rfl ?_
  refine x_iadd (pc' := 988) K dL_law_987 rfl ?_
  refine x_sld (pc' := 989) K hX hbl hbA (i := nI k + 1) (xlin (j := 1) (by omega) hL) dL_law_988 rfl ?_
  refine x_subI (pc' := 992) (wn := fun F2 G2 => w6 cI cO aX F1 G1 ++ w7 cI aM F2 G2) K (mX7_body l D cI cO aM _) rfl gL_law_X7_body rfl dsX7_body ⟨rfl, rfl, ⟨Nat.le_of_ble_eq_true rfl, Nat.le_of_ble_eq_true rfl⟩, Nat.le_of_ble_eq_true rfl, Nat.le_of_ble_eq_true rfl⟩ h 7 0 rfl rfl (X := w6 cI cO aX F1 G1) (List.Perm.refl _) (fun _ _ => List.Perm.refl _) (st := [.int _]) rfl rfl (Nat.le_of_ble_eq_true rfl) dL_law_989 rfl (fun r' F2 G2 h => ?_)
  refine x_icmp_eq (tgt := 1300) (pc' := 995) K dL_law_992 rfl rfl (fun _ => hgo _ _ _ _ h.2) (fun q => absurd h.1 q)
set_option maxHeartbeats 4000000 in
set_option maxRecDepth 100000 in
theorem tL_sheet (K : XK p m c code 4 s #[Value.ref b] wsL_law R_law D (xtys cI cO) (fun q : Nat => s.heap.size ≤ q) meth ret) (hX : va_X b Lx xs s s.heap) (hbl : b < s.heap.size) (hbA : ¬ s.heap.size ≤ b) (hL : Lx ≤ 3072) {I : xF → xA → xF → xA → Prop} (ho : oX_sheet I) (k : Nat) (hk : k + 6 ≤ Lx) (F : xF) (G : xA) (F' : xF) (G' : xA) (hI : I F G F' G') (hgo : ∀ (F : xF) (G : xA) (F' : xF) (G' : xA), I F G F' G' → XJ p l e room_1 s m #[Value.ref b] below meth c 121 3708 (lw_Z below #[Value.ref b] s) D (xtys cI cO) (fun q : Nat => s.heap.size ≤ q) 4 (w6 cI cO aX F G ++ w7 cI aM F' G') 1300 [(0, .ref b), (1, .ref (aX 0)), (2, .ref (aM 0)), (3, .int (nI k))] []) : XJ p l e room_1 s m #[Value.ref b] below meth c 121 3708 (lw_Z below #[Value.ref b] s) D (xtys cI cO) (fun q : Nat => s.heap.size ≤ q) 4 (w6 cI cO aX F G ++ w7 cI aM F' G') 997 [(0, .ref b), (1, .ref (aX 0)), (2, .ref (aM 0)), (3, .int (nI k))] [] := by
  have h := fun x1 x2 x3 => ho x1 x2 x3 F G F' G' hI
  refine x_aload_n (pc' := 998) K dL_law_997 1 rfl rfl ?_
  refine x_aload_n (pc' := 999) K dL_law_998 0 rfl rfl ?_
  refine x_iload_n (pc' := 1000) K dL_law_999 3 rfl rfl ?_
  refine x_iconst (pc' := 1001) (v := 1) K dL_law_1000 (by decide) rfl ?_
  refine x_iadd (pc' := 1002) K dL_law_1001 rfl ?_
  refine x_sld (pc' := 1003) K hX hbl hbA (i := nI k + 1) (xlin (j := 1) (by omega) hL) dL_law_1002 rfl ?_
  refine x_aload_n (pc' := 1004) K dL_law_1003 0 rfl rfl ?_
  refine x_iload_n (pc' := 1005) K dL_law_1004 3 rfl rfl ?_
  refine x_iconst (pc' := 1006) (v := 2) K dL_law_1005 (by decide) rfl ?_
  refine x_iadd (pc' := 1007) K dL_law_1006 rfl ?_
  refine x_sld (pc' := 1008) K hX hbl hbA (i := nI k + 2) (xlin (j := 2) (by omega) hL) dL_law_1007 rfl ?_
  refine x_aload_n (pc' := 1009) K dL_law_1008 0 rfl rfl ?_
  refine x_iload_n (pc' := 1010) K dL_law_1009 3 rfl rfl ?_
  refine x_iconst (pc' := 1011) (v := 3) K dL_law_1010 (by decide) rfl ?_
  refine x_iadd (pc' := 1012) K dL_law_1011 rfl ?_
  refine x_sld (pc' := 1013) K hX hbl hbA (i := nI k + 3) (xlin (j := 3) (by omega) hL) dL_law_1012 rfl ?_
  refine x_subI (pc' := 1016) (wn := fun F1 G1 => w6 cI cO aX F1 G1 ++ w7 cI aM F' G') K (mX6_sheet l D cI cO aX _ _ _) rfl gL_law_X6_sheet rfl dsX6_sheet ⟨rfl, rfl, ⟨Nat.le_of_ble_eq_true rfl, Nat.le_of_ble_eq_true rfl⟩, Nat.le_of_ble_eq_true rfl, Nat.le_of_ble_eq_true rfl⟩ (h _ _ _) 6 0 rfl rfl (X := w7 cI aM F' G') List.perm_append_comm (fun _ _ => List.perm_append_comm) (st := []) rfl rfl (Nat.le_of_ble_eq_true rfl) dL_law_1013 rfl (fun r F1 G1 h => ?_)
  refine x_aload_n (pc' := 1017) K dL_law_1016 2 rfl rfl ?_
  refine x_aload_n (pc' := 1018) K dL_law_1017 0 rfl rfl ?_
  refine x_iload_n (pc' := 1019) K dL_law_1018 3 rfl rfl ?_
  refine x_iconst (pc' := 1020) (v := 1) K dL_law_1019 (by decide) rfl ?_
  refine x_iadd (pc' := 1021) K dL_law_1020 rfl ?_
  refine x_sld (pc' := 1022) K hX hbl hbA (i := nI k + 1) (xlin (j := 1) (by omega) hL) dL_law_1021 rfl ?_
  refine x_aload_n (pc' := 1023) K dL_law_1022 0 rfl rfl ?_
  refine x_iload_n (pc' := 1024) K dL_law_1023 3 rfl rfl ?_
  refine x_iconst (pc' := 1025) (v := 2) K dL_law_1024 (by decide) rfl ?_
  refine x_iadd (pc' := 1026) K dL_law_1025 rfl ?_
  refine x_sld (pc' := 1027) K hX hbl hbA (i := nI k + 2) (xlin (j := 2) (by omega) hL) dL_law_1026 rfl ?_
  refine x_aload_n (pc' := 1028) K dL_law_1027 0 rfl rfl ?_
  refine x_iload_n (pc' := 1029) K dL_law_1028 3 rfl rfl ?_
  refine x_iconst (pc' := 1030) (v := 3) K dL_law_1029 (by decide) rfl ?_
  refine x_iadd (pc' := 1031) K dL_law_1030 rfl ?_
  refine x_sld (pc' := 1032) K hX hbl hbA (i := nI k + 3) (xlin (j := 3) (by omega) hL) dL_law_1031 rfl ?_
  refine x_subI (pc' := 1035) (wn := fun F2 G2 => w6 cI cO aX F1 G1 ++ w7 cI aM F2 G2) K (mX7_sheet l D cI cO aM _ _ _) rfl gL_law_X7_sheet rfl dsX7_sheet ⟨rfl, rfl, ⟨Nat.le_of_ble_eq_true rfl, Nat.le_of_ble_eq_true rfl⟩, Nat.le_of_ble_eq_true rfl, Nat.le_of_ble_eq_true rfl⟩ h 7 0 rfl rfl (X := w6 cI cO aX F1 G1) (List.Perm.refl _) (fun _ _ => List.Perm.refl _) (st := [.int _]) rfl rfl (Nat.le_of_ble_eq_true rfl) dL_law_1032 rfl (fun r' F2 G2 h => ?_)
  refine x_icmp_eq (tgt := 1300) (pc' := 1038) K dL_law_1035 rfl rfl (fun _ => hgo _ _ _ _ h.2) (fun q => absurd h.1 q)
set_option maxHeartbeats 4000000 in
set_option maxRecDepth 100000 in
theorem tL_put (K : XK p m c code 4 s #[Value.ref b] wsL_law R_law D (xtys cI cO) (fun q : Nat => s.heap.size ≤ q) meth ret) (hX : va_X b Lx xs s s.heap) (hbl : b < s.heap.size) (hbA : ¬ s.heap.size ≤ b) (hL : Lx ≤ 3072) {I : xF → xA → xF → xA → Prop} (ho : oX_put I) (k : Nat) (hk : k + 6 ≤ Lx) (F : xF) (G : xA) (F' : xF) (G' : xA) (hI : I F G F' G') (hgo : ∀ (F : xF) (G : xA) (F' : xF) (G' : xA), I F G F' G' → XJ p l e room_1 s m #[Value.ref b] below meth c 121 3708 (lw_Z below #[Value.ref b] s) D (xtys cI cO) (fun q : Nat => s.heap.size ≤ q) 4 (w6 cI cO aX F G ++ w7 cI aM F' G') 1300 [(0, .ref b), (1, .ref (aX 0)), (2, .ref (aM 0)), (3, .int (nI k))] []) : XJ p l e room_1 s m #[Value.ref b] below meth c 121 3708 (lw_Z below #[Value.ref b] s) D (xtys cI cO) (fun q : Nat => s.heap.size ≤ q) 4 (w6 cI cO aX F G ++ w7 cI aM F' G') 1040 [(0, .ref b), (1, .ref (aX 0)), (2, .ref (aM 0)), (3, .int (nI k))] [] := by
  have h := fun x1 x2 x3 => ho x1 x2 x3 F G F' G' hI
  refine x_aload_n (pc' := 1041) K dL_law_1040 1 rfl rfl ?_
  refine x_aload_n (pc' := 1042) K dL_law_1041 0 rfl rfl ?_
  refine x_iload_n (pc' := 1043) K dL_law_1042 3 rfl rfl ?_
  refine x_iconst (pc' := 1044) (v := 1) K dL_law_1043 (by decide) rfl ?_
  refine x_iadd (pc' := 1045) K dL_law_1044 rfl ?_
  refine x_sld (pc' := 1046) K hX hbl hbA (i := nI k + 1) (xlin (j := 1) (by omega) hL) dL_law_1045 rfl ?_
  refine x_aload_n (pc' := 1047) K dL_law_1046 0 rfl rfl ?_
  refine x_iload_n (pc' := 1048) K dL_law_1047 3 rfl rfl ?_
  refine x_iconst (pc' := 1049) (v := 2) K dL_law_1048 (by decide) rfl ?_
  refine x_iadd (pc' := 1050) K dL_law_1049 rfl ?_
  refine x_sld (pc' := 1051) K hX hbl hbA (i := nI k + 2) (xlin (j := 2) (by omega) hL) dL_law_1050 rfl ?_
  refine x_aload_n (pc' := 1052) K dL_law_1051 0 rfl rfl ?_
  refine x_iload_n (pc' := 1053) K dL_law_1052 3 rfl rfl ?_
  refine x_iconst (pc' := 1054) (v := 3) K dL_law_1053 (by decide) rfl ?_
  refine x_iadd (pc' := 1055) K dL_law_1054 rfl ?_
  refine x_sld (pc' := 1056) K hX hbl hbA (i := nI k + 3) (xlin (j := 3) (by omega) hL) dL_law_1055 rfl ?_
  refine x_subI (pc' := 1059) (wn := fun F1 G1 => w6 cI cO aX F1 G1 ++ w7 cI aM F' G') K (mX6_put l D cI cO aX _ _ _) rfl gL_law_X6_put rfl dsX6_put ⟨rfl, rfl, ⟨Nat.le_of_ble_eq_true rfl, Nat.le_of_ble_eq_true rfl⟩, Nat.le_of_ble_eq_true rfl, Nat.le_of_ble_eq_true rfl⟩ (h _ _ _) 6 0 rfl rfl (X := w7 cI aM F' G') List.perm_append_comm (fun _ _ => List.perm_append_comm) (st := []) rfl rfl (Nat.le_of_ble_eq_true rfl) dL_law_1056 rfl (fun r F1 G1 h => ?_)
  refine x_aload_n (pc' := 1060) K dL_law_1059 2 rfl rfl ?_
  refine x_aload_n (pc' := 1061) K dL_law_1060 0 rfl rfl ?_
  refine x_iload_n (pc' := 1062) K dL_law_1061 3 rfl rfl ?_
  refine x_iconst (pc' := 1063) (v := 1) K dL_law_1062 (by decide) rfl ?_
  refine x_iadd (pc' := 1064) K dL_law_1063 rfl ?_
  refine x_sld (pc' := 1065) K hX hbl hbA (i := nI k + 1) (xlin (j := 1) (by omega) hL) dL_law_1064 rfl ?_
  refine x_aload_n (pc' := 1066) K dL_law_1065 0 rfl rfl ?_
  refine x_iload_n (pc' := 1067) K dL_law_1066 3 rfl rfl ?_
  refine x_iconst (pc' := 1068) (v := 2) K dL_law_1067 (by decide) rfl ?_
  refine x_iadd (pc' := 1069) K dL_law_1068 rfl ?_
  refine x_sld (pc' := 1070) K hX hbl hbA (i := nI k + 2) (xlin (j := 2) (by omega) hL) dL_law_1069 rfl ?_
  refine x_aload_n (pc' := 1071) K dL_law_1070 0 rfl rfl ?_
  refine x_iload_n (pc' := 1072) K dL_law_1071 3 rfl rfl ?_
  refine x_iconst (pc' := 1073) (v := 3) K dL_law_1072 (by decide) rfl ?_
  refine x_iadd (pc' := 1074) K dL_law_1073 rfl ?_
  refine x_sld (pc' := 1075) K hX hbl hbA (i := nI k + 3) (xlin (j := 3) (by omega) hL) dL_law_1074 rfl ?_
  refine x_subI (pc' := 1078) (wn := fun F2 G2 => w6 cI cO aX F1 G1 ++ w7 cI aM F2 G2) K (mX7_put l D cI cO aM _ _ _) rfl gL_law_X7_put rfl dsX7_put ⟨rfl, rfl, ⟨Nat.le_of_ble_eq_true rfl, Nat.le_of_ble_eq_true rfl⟩, Nat.le_of_ble_eq_true rfl, Nat.le_of_ble_eq_true rfl⟩ h 7 0 rfl rfl (X := w6 cI cO aX F1 G1) (List.Perm.refl _) (fun _ _ => List.Perm.refl _) (st := [.int _]) rfl rfl (Nat.le_of_ble_eq_true rfl) dL_law_1075 rfl (fun r' F2 G2 h => ?_)
  refine x_icmp_eq (tgt := 1300) (pc' := 1081) K dL_law_1078 rfl rfl (fun _ => hgo _ _ _ _ h.2) (fun q => absurd h.1 q)
set_option maxHeartbeats 4000000 in
set_option maxRecDepth 100000 in
theorem tL_move (K : XK p m c code 4 s #[Value.ref b] wsL_law R_law D (xtys cI cO) (fun q : Nat => s.heap.size ≤ q) meth ret) (hX : va_X b Lx xs s s.heap) (hbl : b < s.heap.size) (hbA : ¬ s.heap.size ≤ b) (hL : Lx ≤ 3072) {I : xF → xA → xF → xA → Prop} (ho : oX_move I) (k : Nat) (hk : k + 6 ≤ Lx) (F : xF) (G : xA) (F' : xF) (G' : xA) (hI : I F G F' G') (hgo : ∀ (F : xF) (G : xA) (F' : xF) (G' : xA), I F G F' G' → XJ p l e room_1 s m #[Value.ref b] below meth c 121 3708 (lw_Z below #[Value.ref b] s) D (xtys cI cO) (fun q : Nat => s.heap.size ≤ q) 4 (w6 cI cO aX F G ++ w7 cI aM F' G') 1300 [(0, .ref b), (1, .ref (aX 0)), (2, .ref (aM 0)), (3, .int (nI k))] []) : XJ p l e room_1 s m #[Value.ref b] below meth c 121 3708 (lw_Z below #[Value.ref b] s) D (xtys cI cO) (fun q : Nat => s.heap.size ≤ q) 4 (w6 cI cO aX F G ++ w7 cI aM F' G') 1083 [(0, .ref b), (1, .ref (aX 0)), (2, .ref (aM 0)), (3, .int (nI k))] [] := by
  have h := fun x1 x2 x3 x4 x5 => ho x1 x2 x3 x4 x5 F G F' G' hI
  refine x_aload_n (pc' := 1084) K dL_law_1083 1 rfl rfl ?_
  refine x_aload_n (pc' := 1085) K dL_law_1084 0 rfl rfl ?_
  refine x_iload_n (pc' := 1086) K dL_law_1085 3 rfl rfl ?_
  refine x_iconst (pc' := 1087) (v := 1) K dL_law_1086 (by decide) rfl ?_
  refine x_iadd (pc' := 1088) K dL_law_1087 rfl ?_
  refine x_sld (pc' := 1089) K hX hbl hbA (i := nI k + 1) (xlin (j := 1) (by omega) hL) dL_law_1088 rfl ?_
  refine x_aload_n (pc' := 1090) K dL_law_1089 0 rfl rfl ?_
  refine x_iload_n (pc' := 1091) K dL_law_1090 3 rfl rfl ?_
  refine x_iconst (pc' := 1092) (v := 2) K dL_law_1091 (by decide) rfl ?_
  refine x_iadd (pc' := 1093) K dL_law_1092 rfl ?_
  refine x_sld (pc' := 1094) K hX hbl hbA (i := nI k + 2) (xlin (j := 2) (by omega) hL) dL_law_1093 rfl ?_
  refine x_aload_n (pc' := 1095) K dL_law_1094 0 rfl rfl ?_
  refine x_iload_n (pc' := 1096) K dL_law_1095 3 rfl rfl ?_
  refine x_iconst (pc' := 1097) (v := 3) K dL_law_1096 (by decide) rfl ?_
  refine x_iadd (pc' := 1098) K dL_law_1097 rfl ?_
  refine x_sld (pc' := 1099) K hX hbl hbA (i := nI k + 3) (xlin (j := 3) (by omega) hL) dL_law_1098 rfl ?_
  refine x_aload_n (pc' := 1100) K dL_law_1099 0 rfl rfl ?_
  refine x_iload_n (pc' := 1101) K dL_law_1100 3 rfl rfl ?_
  refine x_iconst (pc' := 1102) (v := 4) K dL_law_1101 (by decide) rfl ?_
  refine x_iadd (pc' := 1103) K dL_law_1102 rfl ?_
  refine x_sld (pc' := 1104) K hX hbl hbA (i := nI k + 4) (xlin (j := 4) (by omega) hL) dL_law_1103 rfl ?_
  refine x_aload_n (pc' := 1105) K dL_law_1104 0 rfl rfl ?_
  refine x_iload_n (pc' := 1106) K dL_law_1105 3 rfl rfl ?_
  refine x_iconst (pc' := 1107) (v := 5) K dL_law_1106 (by decide) rfl ?_
  refine x_iadd (pc' := 1108) K dL_law_1107 rfl ?_
  refine x_sld (pc' := 1109) K hX hbl hbA (i := nI k + 5) (xlin (j := 5) (by omega) hL) dL_law_1108 rfl ?_
  refine x_subI (pc' := 1112) (wn := fun F1 G1 => w6 cI cO aX F1 G1 ++ w7 cI aM F' G') K (mX6_move l D cI cO aX _ _ _ _ _) rfl gL_law_X6_move rfl dsX6_move ⟨rfl, rfl, ⟨Nat.le_of_ble_eq_true rfl, Nat.le_of_ble_eq_true rfl⟩, Nat.le_of_ble_eq_true rfl, Nat.le_of_ble_eq_true rfl⟩ (h _ _ _ _ _) 6 0 rfl rfl (X := w7 cI aM F' G') List.perm_append_comm (fun _ _ => List.perm_append_comm) (st := []) rfl rfl (Nat.le_of_ble_eq_true rfl) dL_law_1109 rfl (fun r F1 G1 h => ?_)
  refine x_aload_n (pc' := 1113) K dL_law_1112 2 rfl rfl ?_
  refine x_aload_n (pc' := 1114) K dL_law_1113 0 rfl rfl ?_
  refine x_iload_n (pc' := 1115) K dL_law_1114 3 rfl rfl ?_
  refine x_iconst (pc' := 1116) (v := 1) K dL_law_1115 (by decide) rfl ?_
  refine x_iadd (pc' := 1117) K dL_law_1116 rfl ?_
  refine x_sld (pc' := 1118) K hX hbl hbA (i := nI k + 1) (xlin (j := 1) (by omega) hL) dL_law_1117 rfl ?_
  refine x_aload_n (pc' := 1119) K dL_law_1118 0 rfl rfl ?_
  refine x_iload_n (pc' := 1120) K dL_law_1119 3 rfl rfl ?_
  refine x_iconst (pc' := 1121) (v := 2) K dL_law_1120 (by decide) rfl ?_
  refine x_iadd (pc' := 1122) K dL_law_1121 rfl ?_
  refine x_sld (pc' := 1123) K hX hbl hbA (i := nI k + 2) (xlin (j := 2) (by omega) hL) dL_law_1122 rfl ?_
  refine x_aload_n (pc' := 1124) K dL_law_1123 0 rfl rfl ?_
  refine x_iload_n (pc' := 1125) K dL_law_1124 3 rfl rfl ?_
  refine x_iconst (pc' := 1126) (v := 3) K dL_law_1125 (by decide) rfl ?_
  refine x_iadd (pc' := 1127) K dL_law_1126 rfl ?_
  refine x_sld (pc' := 1128) K hX hbl hbA (i := nI k + 3) (xlin (j := 3) (by omega) hL) dL_law_1127 rfl ?_
  refine x_aload_n (pc' := 1129) K dL_law_1128 0 rfl rfl ?_
  refine x_iload_n (pc' := 1130) K dL_law_1129 3 rfl rfl ?_
  refine x_iconst (pc' := 1131) (v := 4) K dL_law_1130 (by decide) rfl ?_
  refine x_iadd (pc' := 1132) K dL_law_1131 rfl ?_
  refine x_sld (pc' := 1133) K hX hbl hbA (i := nI k + 4) (xlin (j := 4) (by omega) hL) dL_law_1132 rfl ?_
  refine x_aload_n (pc' := 1134) K dL_law_1133 0 rfl rfl ?_
  refine x_iload_n (pc' := 1135) K dL_law_1134 3 rfl rfl ?_
  refine x_iconst (pc' := 1136) (v := 5) K dL_law_1135 (by decide) rfl ?_
  refine x_iadd (pc' := 1137) K dL_law_1136 rfl ?_
  refine x_sld (pc' := 1138) K hX hbl hbA (i := nI k + 5) (xlin (j := 5) (by omega) hL) dL_law_1137 rfl ?_
  refine x_subI (pc' := 1141) (wn := fun F2 G2 => w6 cI cO aX F1 G1 ++ w7 cI aM F2 G2) K (mX7_move l D cI cO aM _ _ _ _ _) rfl gL_law_X7_move rfl dsX7_move ⟨rfl, rfl, ⟨Nat.le_of_ble_eq_true rfl, Nat.le_of_ble_eq_true rfl⟩, Nat.le_of_ble_eq_true rfl, Nat.le_of_ble_eq_true rfl⟩ h 7 0 rfl rfl (X := w6 cI cO aX F1 G1) (List.Perm.refl _) (fun _ _ => List.Perm.refl _) (st := [.int _]) rfl rfl (Nat.le_of_ble_eq_true rfl) dL_law_1138 rfl (fun r' F2 G2 h => ?_)
  refine x_icmp_eq (tgt := 1300) (pc' := 1144) K dL_law_1141 rfl rfl (fun _ => hgo _ _ _ _ h.2) (fun q => absurd h.1 q)
set_option maxHeartbeats 4000000 in
set_option maxRecDepth 100000 in
theorem tL_unders (K : XK p m c code 4 s #[Value.ref b] wsL_law R_law D (xtys cI cO) (fun q : Nat => s.heap.size ≤ q) meth ret) (hX : va_X b Lx xs s s.heap) (hbl : b < s.heap.size) (hbA : ¬ s.heap.size ≤ b) (hL : Lx ≤ 3072) {I : xF → xA → xF → xA → Prop} (ho : oX_unders I) (k : Nat) (hk : k + 6 ≤ Lx) (F : xF) (G : xA) (F' : xF) (G' : xA) (hI : I F G F' G') (hgo : ∀ (F : xF) (G : xA) (F' : xF) (G' : xA), I F G F' G' → XJ p l e room_1 s m #[Value.ref b] below meth c 121 3708 (lw_Z below #[Value.ref b] s) D (xtys cI cO) (fun q : Nat => s.heap.size ≤ q) 4 (w6 cI cO aX F G ++ w7 cI aM F' G') 1300 [(0, .ref b), (1, .ref (aX 0)), (2, .ref (aM 0)), (3, .int (nI k))] []) : XJ p l e room_1 s m #[Value.ref b] below meth c 121 3708 (lw_Z below #[Value.ref b] s) D (xtys cI cO) (fun q : Nat => s.heap.size ≤ q) 4 (w6 cI cO aX F G ++ w7 cI aM F' G') 1146 [(0, .ref b), (1, .ref (aX 0)), (2, .ref (aM 0)), (3, .int (nI k))] [] := by
  have h := fun x1 => ho x1 F G F' G' hI
  refine x_aload_n (pc' := 1147) K dL_law_1146 1 rfl rfl ?_
  refine x_aload_n (pc' := 1148) K dL_law_1147 0 rfl rfl ?_
  refine x_iload_n (pc' := 1149) K dL_law_1148 3 rfl rfl ?_
  refine x_iconst (pc' := 1150) (v := 1) K dL_law_1149 (by decide) rfl ?_
  refine x_iadd (pc' := 1151) K dL_law_1150 rfl ?_
  refine x_sld (pc' := 1152) K hX hbl hbA (i := nI k + 1) (xlin (j := 1) (by omega) hL) dL_law_1151 rfl ?_
  refine x_subI (pc' := 1155) (wn := fun F1 G1 => w6 cI cO aX F1 G1 ++ w7 cI aM F' G') K (mX6_unders l D cI cO aX _) rfl gL_law_X6_unders rfl dsX6_unders ⟨rfl, rfl, ⟨Nat.le_of_ble_eq_true rfl, Nat.le_of_ble_eq_true rfl⟩, Nat.le_of_ble_eq_true rfl, Nat.le_of_ble_eq_true rfl⟩ (h _) 6 0 rfl rfl (X := w7 cI aM F' G') List.perm_append_comm (fun _ _ => List.perm_append_comm) (st := []) rfl rfl (Nat.le_of_ble_eq_true rfl) dL_law_1152 rfl (fun r F1 G1 h => ?_)
  refine x_aload_n (pc' := 1156) K dL_law_1155 2 rfl rfl ?_
  refine x_aload_n (pc' := 1157) K dL_law_1156 0 rfl rfl ?_
  refine x_iload_n (pc' := 1158) K dL_law_1157 3 rfl rfl ?_
  refine x_iconst (pc' := 1159) (v := 1) K dL_law_1158 (by decide) rfl ?_
  refine x_iadd (pc' := 1160) K dL_law_1159 rfl ?_
  refine x_sld (pc' := 1161) K hX hbl hbA (i := nI k + 1) (xlin (j := 1) (by omega) hL) dL_law_1160 rfl ?_
  refine x_subI (pc' := 1164) (wn := fun F2 G2 => w6 cI cO aX F1 G1 ++ w7 cI aM F2 G2) K (mX7_unders l D cI cO aM _) rfl gL_law_X7_unders rfl dsX7_unders ⟨rfl, rfl, ⟨Nat.le_of_ble_eq_true rfl, Nat.le_of_ble_eq_true rfl⟩, Nat.le_of_ble_eq_true rfl, Nat.le_of_ble_eq_true rfl⟩ h 7 0 rfl rfl (X := w6 cI cO aX F1 G1) (List.Perm.refl _) (fun _ _ => List.Perm.refl _) (st := [.int _]) rfl rfl (Nat.le_of_ble_eq_true rfl) dL_law_1161 rfl (fun r' F2 G2 h => ?_)
  refine x_icmp_eq (tgt := 1300) (pc' := 1167) K dL_law_1164 rfl rfl (fun _ => hgo _ _ _ _ h.2) (fun q => absurd h.1 q)
set_option maxHeartbeats 4000000 in
set_option maxRecDepth 100000 in
theorem tL_judge (K : XK p m c code 4 s #[Value.ref b] wsL_law R_law D (xtys cI cO) (fun q : Nat => s.heap.size ≤ q) meth ret) (hX : va_X b Lx xs s s.heap) (hbl : b < s.heap.size) (hbA : ¬ s.heap.size ≤ b) (hL : Lx ≤ 3072) {I : xF → xA → xF → xA → Prop} (ho : oX_judge I) (k : Nat) (hk : k + 6 ≤ Lx) (F : xF) (G : xA) (F' : xF) (G' : xA) (hI : I F G F' G') (hgo : ∀ (F : xF) (G : xA) (F' : xF) (G' : xA), I F G F' G' → XJ p l e room_1 s m #[Value.ref b] below meth c 121 3708 (lw_Z below #[Value.ref b] s) D (xtys cI cO) (fun q : Nat => s.heap.size ≤ q) 4 (w6 cI cO aX F G ++ w7 cI aM F' G') 1300 [(0, .ref b), (1, .ref (aX 0)), (2, .ref (aM 0)), (3, .int (nI k))] []) : XJ p l e room_1 s m #[Value.ref b] below meth c 121 3708 (lw_Z below #[Value.ref b] s) D (xtys cI cO) (fun q : Nat => s.heap.size ≤ q) 4 (w6 cI cO aX F G ++ w7 cI aM F' G') 1169 [(0, .ref b), (1, .ref (aX 0)), (2, .ref (aM 0)), (3, .int (nI k))] [] := by
  have h := fun x1 => ho x1 F G F' G' hI
  refine x_aload_n (pc' := 1170) K dL_law_1169 1 rfl rfl ?_
  refine x_aload_n (pc' := 1171) K dL_law_1170 0 rfl rfl ?_
  refine x_iload_n (pc' := 1172) K dL_law_1171 3 rfl rfl ?_
  refine x_iconst (pc' := 1173) (v := 1) K dL_law_1172 (by decide) rfl ?_
  refine x_iadd (pc' := 1174) K dL_law_1173 rfl ?_
  refine x_sld (pc' := 1175) K hX hbl hbA (i := nI k + 1) (xlin (j := 1) (by omega) hL) dL_law_1174 rfl ?_
  refine x_subI (pc' := 1178) (wn := fun F1 G1 => w6 cI cO aX F1 G1 ++ w7 cI aM F' G') K (mX6_judge l D cI cO aX _) rfl gL_law_X6_judge rfl dsX6_judge ⟨rfl, rfl, ⟨Nat.le_of_ble_eq_true rfl, Nat.le_of_ble_eq_true rfl⟩, Nat.le_of_ble_eq_true rfl, Nat.le_of_ble_eq_true rfl⟩ (h _) 6 0 rfl rfl (X := w7 cI aM F' G') List.perm_append_comm (fun _ _ => List.perm_append_comm) (st := []) rfl rfl (Nat.le_of_ble_eq_true rfl) dL_law_1175 rfl (fun r F1 G1 h => ?_)
  refine x_aload_n (pc' := 1179) K dL_law_1178 2 rfl rfl ?_
  refine x_aload_n (pc' := 1180) K dL_law_1179 0 rfl rfl ?_
  refine x_iload_n (pc' := 1181) K dL_law_1180 3 rfl rfl ?_
  refine x_iconst (pc' := 1182) (v := 1) K dL_law_1181 (by decide) rfl ?_
  refine x_iadd (pc' := 1183) K dL_law_1182 rfl ?_
  refine x_sld (pc' := 1184) K hX hbl hbA (i := nI k + 1) (xlin (j := 1) (by omega) hL) dL_law_1183 rfl ?_
  refine x_subI (pc' := 1187) (wn := fun F2 G2 => w6 cI cO aX F1 G1 ++ w7 cI aM F2 G2) K (mX7_judge l D cI cO aM _) rfl gL_law_X7_judge rfl dsX7_judge ⟨rfl, rfl, ⟨Nat.le_of_ble_eq_true rfl, Nat.le_of_ble_eq_true rfl⟩, Nat.le_of_ble_eq_true rfl, Nat.le_of_ble_eq_true rfl⟩ h 7 0 rfl rfl (X := w6 cI cO aX F1 G1) (List.Perm.refl _) (fun _ _ => List.Perm.refl _) (st := [.int _]) rfl rfl (Nat.le_of_ble_eq_true rfl) dL_law_1184 rfl (fun r' F2 G2 h => ?_)
  refine x_icmp_eq (tgt := 1300) (pc' := 1190) K dL_law_1187 rfl rfl (fun _ => hgo _ _ _ _ h.2) (fun q => absurd h.1 q)
set_option maxHeartbeats 4000000 in
set_option maxRecDepth 100000 in
theorem tL_image (K : XK p m c code 4 s #[Value.ref b] wsL_law R_law D (xtys cI cO) (fun q : Nat => s.heap.size ≤ q) meth ret) (hX : va_X b Lx xs s s.heap) (hbl : b < s.heap.size) (hbA : ¬ s.heap.size ≤ b) (hL : Lx ≤ 3072) {I : xF → xA → xF → xA → Prop} (ho : oX_image I) (k : Nat) (hk : k + 6 ≤ Lx) (F : xF) (G : xA) (F' : xF) (G' : xA) (hI : I F G F' G') (hgo : ∀ (F : xF) (G : xA) (F' : xF) (G' : xA), I F G F' G' → XJ p l e room_1 s m #[Value.ref b] below meth c 121 3708 (lw_Z below #[Value.ref b] s) D (xtys cI cO) (fun q : Nat => s.heap.size ≤ q) 4 (w6 cI cO aX F G ++ w7 cI aM F' G') 1300 [(0, .ref b), (1, .ref (aX 0)), (2, .ref (aM 0)), (3, .int (nI k))] []) : XJ p l e room_1 s m #[Value.ref b] below meth c 121 3708 (lw_Z below #[Value.ref b] s) D (xtys cI cO) (fun q : Nat => s.heap.size ≤ q) 4 (w6 cI cO aX F G ++ w7 cI aM F' G') 1192 [(0, .ref b), (1, .ref (aX 0)), (2, .ref (aM 0)), (3, .int (nI k))] [] := by
  have h := ho F G F' G' hI
  refine x_aload_n (pc' := 1193) K dL_law_1192 1 rfl rfl ?_
  refine x_subI (pc' := 1196) (wn := fun F1 G1 => w6 cI cO aX F1 G1 ++ w7 cI aM F' G') K (mX6_image l D cI cO aX) rfl gL_law_X6_image rfl dsX6_image ⟨rfl, rfl, ⟨Nat.le_of_ble_eq_true rfl, Nat.le_of_ble_eq_true rfl⟩, Nat.le_of_ble_eq_true rfl, Nat.le_of_ble_eq_true rfl⟩ h 6 0 rfl rfl (X := w7 cI aM F' G') List.perm_append_comm (fun _ _ => List.perm_append_comm) (st := []) rfl rfl (Nat.le_of_ble_eq_true rfl) dL_law_1193 rfl (fun r F1 G1 h => ?_)
  refine x_aload_n (pc' := 1197) K dL_law_1196 2 rfl rfl ?_
  refine x_subI (pc' := 1200) (wn := fun F2 G2 => w6 cI cO aX F1 G1 ++ w7 cI aM F2 G2) K (mX7_image l D cI cO aM) rfl gL_law_X7_image rfl dsX7_image ⟨rfl, rfl, ⟨Nat.le_of_ble_eq_true rfl, Nat.le_of_ble_eq_true rfl⟩, Nat.le_of_ble_eq_true rfl, Nat.le_of_ble_eq_true rfl⟩ h 7 0 rfl rfl (X := w6 cI cO aX F1 G1) (List.Perm.refl _) (fun _ _ => List.Perm.refl _) (st := [.int _]) rfl rfl (Nat.le_of_ble_eq_true rfl) dL_law_1197 rfl (fun r' F2 G2 h => ?_)
  refine x_icmp_eq (tgt := 1300) (pc' := 1203) K dL_law_1200 rfl rfl (fun _ => hgo _ _ _ _ h.2) (fun q => absurd h.1 q)
set_option maxHeartbeats 4000000 in
set_option maxRecDepth 100000 in
theorem tL_restore (K : XK p m c code 4 s #[Value.ref b] wsL_law R_law D (xtys cI cO) (fun q : Nat => s.heap.size ≤ q) meth ret) (hX : va_X b Lx xs s s.heap) (hbl : b < s.heap.size) (hbA : ¬ s.heap.size ≤ b) (hL : Lx ≤ 3072) {I : xF → xA → xF → xA → Prop} (ho : oX_restore I) (k : Nat) (hk : k + 6 ≤ Lx) (F : xF) (G : xA) (F' : xF) (G' : xA) (hI : I F G F' G') (hgo : ∀ (F : xF) (G : xA) (F' : xF) (G' : xA), I F G F' G' → XJ p l e room_1 s m #[Value.ref b] below meth c 121 3708 (lw_Z below #[Value.ref b] s) D (xtys cI cO) (fun q : Nat => s.heap.size ≤ q) 4 (w6 cI cO aX F G ++ w7 cI aM F' G') 1300 [(0, .ref b), (1, .ref (aX 0)), (2, .ref (aM 0)), (3, .int (nI k))] []) : XJ p l e room_1 s m #[Value.ref b] below meth c 121 3708 (lw_Z below #[Value.ref b] s) D (xtys cI cO) (fun q : Nat => s.heap.size ≤ q) 4 (w6 cI cO aX F G ++ w7 cI aM F' G') 1205 [(0, .ref b), (1, .ref (aX 0)), (2, .ref (aM 0)), (3, .int (nI k))] [] := by
  have h := ho F G F' G' hI
  refine x_aload_n (pc' := 1206) K dL_law_1205 1 rfl rfl ?_
  refine x_subI (pc' := 1209) (wn := fun F1 G1 => w6 cI cO aX F1 G1 ++ w7 cI aM F' G') K (mX6_restore l D cI cO aX) rfl gL_law_X6_restore rfl dsX6_restore ⟨rfl, rfl, ⟨Nat.le_of_ble_eq_true rfl, Nat.le_of_ble_eq_true rfl⟩, Nat.le_of_ble_eq_true rfl, Nat.le_of_ble_eq_true rfl⟩ h 6 0 rfl rfl (X := w7 cI aM F' G') List.perm_append_comm (fun _ _ => List.perm_append_comm) (st := []) rfl rfl (Nat.le_of_ble_eq_true rfl) dL_law_1206 rfl (fun r F1 G1 h => ?_)
  refine x_aload_n (pc' := 1210) K dL_law_1209 2 rfl rfl ?_
  refine x_subI (pc' := 1213) (wn := fun F2 G2 => w6 cI cO aX F1 G1 ++ w7 cI aM F2 G2) K (mX7_restore l D cI cO aM) rfl gL_law_X7_restore rfl dsX7_restore ⟨rfl, rfl, ⟨Nat.le_of_ble_eq_true rfl, Nat.le_of_ble_eq_true rfl⟩, Nat.le_of_ble_eq_true rfl, Nat.le_of_ble_eq_true rfl⟩ h 7 0 rfl rfl (X := w6 cI cO aX F1 G1) (List.Perm.refl _) (fun _ _ => List.Perm.refl _) (st := [.int _]) rfl rfl (Nat.le_of_ble_eq_true rfl) dL_law_1210 rfl (fun r' F2 G2 h => ?_)
  refine x_icmp_eq (tgt := 1300) (pc' := 1216) K dL_law_1213 rfl rfl (fun _ => hgo _ _ _ _ h.2) (fun q => absurd h.1 q)
set_option maxHeartbeats 4000000 in
set_option maxRecDepth 100000 in
theorem tL_tell (K : XK p m c code 4 s #[Value.ref b] wsL_law R_law D (xtys cI cO) (fun q : Nat => s.heap.size ≤ q) meth ret) (hX : va_X b Lx xs s s.heap) (hbl : b < s.heap.size) (hbA : ¬ s.heap.size ≤ b) (hL : Lx ≤ 3072) {I : xF → xA → xF → xA → Prop} (ho : oX_tell I) (k : Nat) (hk : k + 6 ≤ Lx) (F : xF) (G : xA) (F' : xF) (G' : xA) (hI : I F G F' G') (hgo : ∀ (F : xF) (G : xA) (F' : xF) (G' : xA), I F G F' G' → XJ p l e room_1 s m #[Value.ref b] below meth c 121 3708 (lw_Z below #[Value.ref b] s) D (xtys cI cO) (fun q : Nat => s.heap.size ≤ q) 4 (w6 cI cO aX F G ++ w7 cI aM F' G') 1300 [(0, .ref b), (1, .ref (aX 0)), (2, .ref (aM 0)), (3, .int (nI k))] []) : XJ p l e room_1 s m #[Value.ref b] below meth c 121 3708 (lw_Z below #[Value.ref b] s) D (xtys cI cO) (fun q : Nat => s.heap.size ≤ q) 4 (w6 cI cO aX F G ++ w7 cI aM F' G') 1218 [(0, .ref b), (1, .ref (aX 0)), (2, .ref (aM 0)), (3, .int (nI k))] [] := by
  have h := fun x1 => ho x1 F G F' G' hI
  refine x_aload_n (pc' := 1219) K dL_law_1218 1 rfl rfl ?_
  refine x_aload_n (pc' := 1220) K dL_law_1219 0 rfl rfl ?_
  refine x_iload_n (pc' := 1221) K dL_law_1220 3 rfl rfl ?_
  refine x_iconst (pc' := 1222) (v := 1) K dL_law_1221 (by decide) rfl ?_
  refine x_iadd (pc' := 1223) K dL_law_1222 rfl ?_
  refine x_sld (pc' := 1224) K hX hbl hbA (i := nI k + 1) (xlin (j := 1) (by omega) hL) dL_law_1223 rfl ?_
  refine x_subI (pc' := 1227) (wn := fun F1 G1 => w6 cI cO aX F1 G1 ++ w7 cI aM F' G') K (mX6_tell l D cI cO aX _) rfl gL_law_X6_tell rfl dsX6_tell ⟨rfl, rfl, ⟨Nat.le_of_ble_eq_true rfl, Nat.le_of_ble_eq_true rfl⟩, Nat.le_of_ble_eq_true rfl, Nat.le_of_ble_eq_true rfl⟩ (h _) 6 0 rfl rfl (X := w7 cI aM F' G') List.perm_append_comm (fun _ _ => List.perm_append_comm) (st := []) rfl rfl (Nat.le_of_ble_eq_true rfl) dL_law_1224 rfl (fun r F1 G1 h => ?_)
  refine x_aload_n (pc' := 1228) K dL_law_1227 2 rfl rfl ?_
  refine x_aload_n (pc' := 1229) K dL_law_1228 0 rfl rfl ?_
  refine x_iload_n (pc' := 1230) K dL_law_1229 3 rfl rfl ?_
  refine x_iconst (pc' := 1231) (v := 1) K dL_law_1230 (by decide) rfl ?_
  refine x_iadd (pc' := 1232) K dL_law_1231 rfl ?_
  refine x_sld (pc' := 1233) K hX hbl hbA (i := nI k + 1) (xlin (j := 1) (by omega) hL) dL_law_1232 rfl ?_
  refine x_subI (pc' := 1236) (wn := fun F2 G2 => w6 cI cO aX F1 G1 ++ w7 cI aM F2 G2) K (mX7_tell l D cI cO aM _) rfl gL_law_X7_tell rfl dsX7_tell ⟨rfl, rfl, ⟨Nat.le_of_ble_eq_true rfl, Nat.le_of_ble_eq_true rfl⟩, Nat.le_of_ble_eq_true rfl, Nat.le_of_ble_eq_true rfl⟩ h 7 0 rfl rfl (X := w6 cI cO aX F1 G1) (List.Perm.refl _) (fun _ _ => List.Perm.refl _) (st := [.int _]) rfl rfl (Nat.le_of_ble_eq_true rfl) dL_law_1233 rfl (fun r' F2 G2 h => ?_)
  refine x_icmp_eq (tgt := 1300) (pc' := 1239) K dL_law_1236 rfl rfl (fun _ => hgo _ _ _ _ h.2) (fun q => absurd h.1 q)
set_option maxHeartbeats 4000000 in
set_option maxRecDepth 100000 in
theorem tL_check (K : XK p m c code 4 s #[Value.ref b] wsL_law R_law D (xtys cI cO) (fun q : Nat => s.heap.size ≤ q) meth ret) (hX : va_X b Lx xs s s.heap) (hbl : b < s.heap.size) (hbA : ¬ s.heap.size ≤ b) (hL : Lx ≤ 3072) {I : xF → xA → xF → xA → Prop} (ho : oX_check I) (k : Nat) (hk : k + 6 ≤ Lx) (F : xF) (G : xA) (F' : xF) (G' : xA) (hI : I F G F' G') (hgo : ∀ (F : xF) (G : xA) (F' : xF) (G' : xA), I F G F' G' → XJ p l e room_1 s m #[Value.ref b] below meth c 121 3708 (lw_Z below #[Value.ref b] s) D (xtys cI cO) (fun q : Nat => s.heap.size ≤ q) 4 (w6 cI cO aX F G ++ w7 cI aM F' G') 1300 [(0, .ref b), (1, .ref (aX 0)), (2, .ref (aM 0)), (3, .int (nI k))] []) : XJ p l e room_1 s m #[Value.ref b] below meth c 121 3708 (lw_Z below #[Value.ref b] s) D (xtys cI cO) (fun q : Nat => s.heap.size ≤ q) 4 (w6 cI cO aX F G ++ w7 cI aM F' G') 1241 [(0, .ref b), (1, .ref (aX 0)), (2, .ref (aM 0)), (3, .int (nI k))] [] := by
  have h := ho F G F' G' hI
  refine x_aload_n (pc' := 1242) K dL_law_1241 1 rfl rfl ?_
  refine x_subI (pc' := 1245) (wn := fun F1 G1 => w6 cI cO aX F1 G1 ++ w7 cI aM F' G') K (mX6_check l D cI cO aX) rfl gL_law_X6_check rfl dsX6_check ⟨rfl, rfl, ⟨Nat.le_of_ble_eq_true rfl, Nat.le_of_ble_eq_true rfl⟩, Nat.le_of_ble_eq_true rfl, Nat.le_of_ble_eq_true rfl⟩ h 6 0 rfl rfl (X := w7 cI aM F' G') List.perm_append_comm (fun _ _ => List.perm_append_comm) (st := []) rfl rfl (Nat.le_of_ble_eq_true rfl) dL_law_1242 rfl (fun r F1 G1 h => ?_)
  refine x_aload_n (pc' := 1246) K dL_law_1245 2 rfl rfl ?_
  refine x_subI (pc' := 1249) (wn := fun F2 G2 => w6 cI cO aX F1 G1 ++ w7 cI aM F2 G2) K (mX7_check l D cI cO aM) rfl gL_law_X7_check rfl dsX7_check ⟨rfl, rfl, ⟨Nat.le_of_ble_eq_true rfl, Nat.le_of_ble_eq_true rfl⟩, Nat.le_of_ble_eq_true rfl, Nat.le_of_ble_eq_true rfl⟩ h 7 0 rfl rfl (X := w6 cI cO aX F1 G1) (List.Perm.refl _) (fun _ _ => List.Perm.refl _) (st := [.int _]) rfl rfl (Nat.le_of_ble_eq_true rfl) dL_law_1246 rfl (fun r' F2 G2 h => ?_)
  refine x_icmp_eq (tgt := 1300) (pc' := 1252) K dL_law_1249 rfl rfl (fun _ => hgo _ _ _ _ h.2) (fun q => absurd h.1 q)
set_option maxHeartbeats 4000000 in
set_option maxRecDepth 100000 in
theorem tL_count (K : XK p m c code 4 s #[Value.ref b] wsL_law R_law D (xtys cI cO) (fun q : Nat => s.heap.size ≤ q) meth ret) (hX : va_X b Lx xs s s.heap) (hbl : b < s.heap.size) (hbA : ¬ s.heap.size ≤ b) (hL : Lx ≤ 3072) {I : xF → xA → xF → xA → Prop} (ho : oX_count I) (k : Nat) (hk : k + 6 ≤ Lx) (F : xF) (G : xA) (F' : xF) (G' : xA) (hI : I F G F' G') (hgo : ∀ (F : xF) (G : xA) (F' : xF) (G' : xA), I F G F' G' → XJ p l e room_1 s m #[Value.ref b] below meth c 121 3708 (lw_Z below #[Value.ref b] s) D (xtys cI cO) (fun q : Nat => s.heap.size ≤ q) 4 (w6 cI cO aX F G ++ w7 cI aM F' G') 1300 [(0, .ref b), (1, .ref (aX 0)), (2, .ref (aM 0)), (3, .int (nI k))] []) : XJ p l e room_1 s m #[Value.ref b] below meth c 121 3708 (lw_Z below #[Value.ref b] s) D (xtys cI cO) (fun q : Nat => s.heap.size ≤ q) 4 (w6 cI cO aX F G ++ w7 cI aM F' G') 1254 [(0, .ref b), (1, .ref (aX 0)), (2, .ref (aM 0)), (3, .int (nI k))] [] := by
  have h := fun x1 => ho x1 F G F' G' hI
  refine x_aload_n (pc' := 1255) K dL_law_1254 1 rfl rfl ?_
  refine x_aload_n (pc' := 1256) K dL_law_1255 0 rfl rfl ?_
  refine x_iload_n (pc' := 1257) K dL_law_1256 3 rfl rfl ?_
  refine x_iconst (pc' := 1258) (v := 1) K dL_law_1257 (by decide) rfl ?_
  refine x_iadd (pc' := 1259) K dL_law_1258 rfl ?_
  refine x_sld (pc' := 1260) K hX hbl hbA (i := nI k + 1) (xlin (j := 1) (by omega) hL) dL_law_1259 rfl ?_
  refine x_subI (pc' := 1263) (wn := fun F1 G1 => w6 cI cO aX F1 G1 ++ w7 cI aM F' G') K (mX6_count l D cI cO aX _) rfl gL_law_X6_count rfl dsX6_count ⟨rfl, rfl, ⟨Nat.le_of_ble_eq_true rfl, Nat.le_of_ble_eq_true rfl⟩, Nat.le_of_ble_eq_true rfl, Nat.le_of_ble_eq_true rfl⟩ (h _) 6 0 rfl rfl (X := w7 cI aM F' G') List.perm_append_comm (fun _ _ => List.perm_append_comm) (st := []) rfl rfl (Nat.le_of_ble_eq_true rfl) dL_law_1260 rfl (fun r F1 G1 h => ?_)
  refine x_aload_n (pc' := 1264) K dL_law_1263 2 rfl rfl ?_
  refine x_aload_n (pc' := 1265) K dL_law_1264 0 rfl rfl ?_
  refine x_iload_n (pc' := 1266) K dL_law_1265 3 rfl rfl ?_
  refine x_iconst (pc' := 1267) (v := 1) K dL_law_1266 (by decide) rfl ?_
  refine x_iadd (pc' := 1268) K dL_law_1267 rfl ?_
  refine x_sld (pc' := 1269) K hX hbl hbA (i := nI k + 1) (xlin (j := 1) (by omega) hL) dL_law_1268 rfl ?_
  refine x_subI (pc' := 1272) (wn := fun F2 G2 => w6 cI cO aX F1 G1 ++ w7 cI aM F2 G2) K (mX7_count l D cI cO aM _) rfl gL_law_X7_count rfl dsX7_count ⟨rfl, rfl, ⟨Nat.le_of_ble_eq_true rfl, Nat.le_of_ble_eq_true rfl⟩, Nat.le_of_ble_eq_true rfl, Nat.le_of_ble_eq_true rfl⟩ h 7 0 rfl rfl (X := w6 cI cO aX F1 G1) (List.Perm.refl _) (fun _ _ => List.Perm.refl _) (st := [.int _]) rfl rfl (Nat.le_of_ble_eq_true rfl) dL_law_1269 rfl (fun r' F2 G2 h => ?_)
  refine x_icmp_eq (tgt := 1300) (pc' := 1275) K dL_law_1272 rfl rfl (fun _ => hgo _ _ _ _ h.2) (fun q => absurd h.1 q)
set_option maxHeartbeats 4000000 in
set_option maxRecDepth 100000 in
theorem tL_told (K : XK p m c code 4 s #[Value.ref b] wsL_law R_law D (xtys cI cO) (fun q : Nat => s.heap.size ≤ q) meth ret) (hX : va_X b Lx xs s s.heap) (hbl : b < s.heap.size) (hbA : ¬ s.heap.size ≤ b) (hL : Lx ≤ 3072) {I : xF → xA → xF → xA → Prop} (ho : oX_told I) (k : Nat) (hk : k + 6 ≤ Lx) (F : xF) (G : xA) (F' : xF) (G' : xA) (hI : I F G F' G') (hgo : ∀ (F : xF) (G : xA) (F' : xF) (G' : xA), I F G F' G' → XJ p l e room_1 s m #[Value.ref b] below meth c 121 3708 (lw_Z below #[Value.ref b] s) D (xtys cI cO) (fun q : Nat => s.heap.size ≤ q) 4 (w6 cI cO aX F G ++ w7 cI aM F' G') 1300 [(0, .ref b), (1, .ref (aX 0)), (2, .ref (aM 0)), (3, .int (nI k))] []) : XJ p l e room_1 s m #[Value.ref b] below meth c 121 3708 (lw_Z below #[Value.ref b] s) D (xtys cI cO) (fun q : Nat => s.heap.size ≤ q) 4 (w6 cI cO aX F G ++ w7 cI aM F' G') 1277 [(0, .ref b), (1, .ref (aX 0)), (2, .ref (aM 0)), (3, .int (nI k))] [] := by
  have h := fun x1 => ho x1 F G F' G' hI
  refine x_aload_n (pc' := 1278) K dL_law_1277 1 rfl rfl ?_
  refine x_aload_n (pc' := 1279) K dL_law_1278 0 rfl rfl ?_
  refine x_iload_n (pc' := 1280) K dL_law_1279 3 rfl rfl ?_
  refine x_iconst (pc' := 1281) (v := 1) K dL_law_1280 (by decide) rfl ?_
  refine x_iadd (pc' := 1282) K dL_law_1281 rfl ?_
  refine x_sld (pc' := 1283) K hX hbl hbA (i := nI k + 1) (xlin (j := 1) (by omega) hL) dL_law_1282 rfl ?_
  refine x_subI (pc' := 1286) (wn := fun F1 G1 => w6 cI cO aX F1 G1 ++ w7 cI aM F' G') K (mX6_told l D cI cO aX _) rfl gL_law_X6_told rfl dsX6_told ⟨rfl, rfl, ⟨Nat.le_of_ble_eq_true rfl, Nat.le_of_ble_eq_true rfl⟩, Nat.le_of_ble_eq_true rfl, Nat.le_of_ble_eq_true rfl⟩ (h _) 6 0 rfl rfl (X := w7 cI aM F' G') List.perm_append_comm (fun _ _ => List.perm_append_comm) (st := []) rfl rfl (Nat.le_of_ble_eq_true rfl) dL_law_1283 rfl (fun r F1 G1 h => ?_)
  refine x_aload_n (pc' := 1287) K dL_law_1286 2 rfl rfl ?_
  refine x_aload_n (pc' := 1288) K dL_law_1287 0 rfl rfl ?_
  refine x_iload_n (pc' := 1289) K dL_law_1288 3 rfl rfl ?_
  refine x_iconst (pc' := 1290) (v := 1) K dL_law_1289 (by decide) rfl ?_
  refine x_iadd (pc' := 1291) K dL_law_1290 rfl ?_
  refine x_sld (pc' := 1292) K hX hbl hbA (i := nI k + 1) (xlin (j := 1) (by omega) hL) dL_law_1291 rfl ?_
  refine x_subI (pc' := 1295) (wn := fun F2 G2 => w6 cI cO aX F1 G1 ++ w7 cI aM F2 G2) K (mX7_told l D cI cO aM _) rfl gL_law_X7_told rfl dsX7_told ⟨rfl, rfl, ⟨Nat.le_of_ble_eq_true rfl, Nat.le_of_ble_eq_true rfl⟩, Nat.le_of_ble_eq_true rfl, Nat.le_of_ble_eq_true rfl⟩ h 7 0 rfl rfl (X := w6 cI cO aX F1 G1) (List.Perm.refl _) (fun _ _ => List.Perm.refl _) (st := [.int _]) rfl rfl (Nat.le_of_ble_eq_true rfl) dL_law_1292 rfl (fun r' F2 G2 h => ?_)
  refine x_icmp_eq (tgt := 1300) (pc' := 1298) K dL_law_1295 rfl rfl (fun _ => hgo _ _ _ _ h.2) (fun q => absurd h.1 q)
set_option maxHeartbeats 8000000 in
set_option maxRecDepth 100000 in
theorem tL_loop (K : XK p m c code 4 s #[Value.ref b] wsL_law R_law D (xtys cI cO) (fun q : Nat => s.heap.size ≤ q) meth ret) (hX : va_X b Lx xs s s.heap) (hbl : b < s.heap.size) (hbA : ¬ s.heap.size ≤ b) (hL : Lx ≤ 3072) (hlocks : meth.locks = false) {I : xF → xA → xF → xA → Prop} (h_oak : oX_oak I) (h_oakIs : oX_oakIs I) (h_rain : oX_rain I) (h_farmer : oX_farmer I) (h_farmerIs : oX_farmerIs I) (h_as : oX_as I) (h_trade : oX_trade I) (h_leash : oX_leash I) (h_pig : oX_pig I) (h_feed : oX_feed I) (h_text : oX_text I) (h_untell : oX_untell I) (h_days : oX_days I) (h_draws : oX_draws I) (h_seed : oX_seed I) (h_then : oX_then I) (h_ahead : oX_ahead I) (h_bestLeash : oX_bestLeash I) (h_bestFeed : oX_bestFeed I) (h_gain : oX_gain I) (h_bestTrade : oX_bestTrade I) (h_share : oX_share I) (h_whoHid : oX_whoHid I) (h_voice : oX_voice I) (h_body : oX_body I) (h_sheet : oX_sheet I) (h_put : oX_put I) (h_move : oX_move I) (h_unders : oX_unders I) (h_judge : oX_judge I) (h_image : oX_image I) (h_restore : oX_restore I) (h_tell : oX_tell I) (h_check : oX_check I) (h_count : oX_count I) (h_told : oX_told I) : ∀ (n k : Nat), k ≤ Lx + 5 → Lx + 6 ≤ k + 6 * n → ∀ (F : xF) (G : xA) (F' : xF) (G' : xA), I F G F' G' → XJ p l e room_1 s m #[Value.ref b] below meth c 121 3708 (lw_Z below #[Value.ref b] s) D (xtys cI cO) (fun q : Nat => s.heap.size ≤ q) 4 (w6 cI cO aX F G ++ w7 cI aM F' G') 18 [(0, .ref b), (1, .ref (aX 0)), (2, .ref (aM 0)), (3, .int (nI k))] [] := by
  intro n
  induction n with
  | zero =>
    intro k h1 h2
    exact absurd h2 (by omega)
  | succ n ih =>
    intro k hk1 hk2 F G F' G' hI
    refine x_iload_n (pc' := 19) K dL_law_18 3 rfl rfl ?_
    refine x_aload_n (pc' := 20) K dL_law_19 0 rfl rfl ?_
    refine x_slen (pc' := 21) K hX hbl hbA dL_law_20 rfl ?_
    refine x_bipush (pc' := 23) (v := 6) K dL_law_21 (by decide) rfl ?_
    refine x_isub (pc' := 24) K dL_law_23 rfl ?_
    refine x_icmp_gt (tgt := 1306) (pc' := 27) K dL_law_24 rfl rfl (fun _ => ?_) (fun hc => ?_)
    · refine x_iconst (pc' := 1307) (v := 1) K dL_law_1306 (by decide) rfl ?_
      intro H locs ls hP hD hS hl
      refine va_forget (fun q hq => hS.2.2 q hq) ?_
      refine W.widen (k := 600000) (n := 7302250) (Nat.le_of_ble_eq_true rfl) (Nat.le_of_ble_eq_true rfl) ?_
      exact lw_ret K.1.1 K.1.2.1 K.2.2.2.2.2.1 hlocks dL_law_1307
    · have hk : k + 6 ≤ Lx := xlgo hL (by omega) hc
      refine x_aload_n (pc' := 28) K dL_law_27 0 rfl rfl ?_
      refine x_iload_n (pc' := 29) K dL_law_28 3 rfl rfl ?_
      refine x_sld (pc' := 30) K hX hbl hbA (i := nI k) (xlin0 (by omega) hL) dL_law_29 rfl ?_
      refine x_bipush (pc' := 32) (v := 63) K dL_law_30 (by decide) rfl ?_
      refine x_iand (pc' := 33) K dL_law_32 rfl ?_
      have hnext : ∀ (F : xF) (G : xA) (F' : xF) (G' : xA), I F G F' G' → XJ p l e room_1 s m #[Value.ref b] below meth c 121 3708 (lw_Z below #[Value.ref b] s) D (xtys cI cO) (fun q : Nat => s.heap.size ≤ q) 4 (w6 cI cO aX F G ++ w7 cI aM F' G') 1300 [(0, .ref b), (1, .ref (aX 0)), (2, .ref (aM 0)), (3, .int (nI k))] [] := by
        intro F G F' G' hI
        refine x_iinc (pc' := 1303) (v := nI (k + 6)) K dL_law_1300 3 rfl (nI_add k 6) (by decide) [1, 2, 3, 0] (L' := [(0, .ref b), (1, .ref (aX 0)), (2, .ref (aM 0)), (3, .int (nI (k + 6)))]) rfl rfl ?_
        refine x_goto (tgt := 18) K dL_law_1303 rfl ?_
        exact ih (k + 6) (by omega) (by omega) F G F' G' hI
      refine (Classical.em ((xs (nI k).toNatClampNeg &&& 63) = (0 : Int32))).elim (fun e33 => ?_) (fun e33_1 => ?_)
      · refine x_tableIn (tgt := 192) (off := 159) K dL_law_33 (by rw [e33]; decide) (by rw [e33]; decide) (by rw [e33]; rfl) rfl ?_
        exact tL_oak K hX hbl hbA hL h_oak k hk F G F' G' hI hnext
      · refine (Classical.em ((xs (nI k).toNatClampNeg &&& 63) = (1 : Int32))).elim (fun e33 => ?_) (fun e33_2 => ?_)
        · refine x_tableIn (tgt := 235) (off := 202) K dL_law_33 (by rw [e33]; decide) (by rw [e33]; decide) (by rw [e33]; rfl) rfl ?_
          exact tL_oakIs K hX hbl hbA hL h_oakIs k hk F G F' G' hI hnext
        · refine (Classical.em ((xs (nI k).toNatClampNeg &&& 63) = (2 : Int32))).elim (fun e33 => ?_) (fun e33_3 => ?_)
          · refine x_tableIn (tgt := 268) (off := 235) K dL_law_33 (by rw [e33]; decide) (by rw [e33]; decide) (by rw [e33]; rfl) rfl ?_
            exact tL_rain K hX hbl hbA hL h_rain k hk F G F' G' hI hnext
          · refine (Classical.em ((xs (nI k).toNatClampNeg &&& 63) = (3 : Int32))).elim (fun e33 => ?_) (fun e33_4 => ?_)
            · refine x_tableIn (tgt := 291) (off := 258) K dL_law_33 (by rw [e33]; decide) (by rw [e33]; decide) (by rw [e33]; rfl) rfl ?_
              exact tL_farmer K hX hbl hbA hL h_farmer k hk F G F' G' hI hnext
            · refine (Classical.em ((xs (nI k).toNatClampNeg &&& 63) = (4 : Int32))).elim (fun e33 => ?_) (fun e33_5 => ?_)
              · refine x_tableIn (tgt := 324) (off := 291) K dL_law_33 (by rw [e33]; decide) (by rw [e33]; decide) (by rw [e33]; rfl) rfl ?_
                exact tL_farmerIs K hX hbl hbA hL h_farmerIs k hk F G F' G' hI hnext
              · refine (Classical.em ((xs (nI k).toNatClampNeg &&& 63) = (5 : Int32))).elim (fun e33 => ?_) (fun e33_6 => ?_)
                · refine x_tableIn (tgt := 357) (off := 324) K dL_law_33 (by rw [e33]; decide) (by rw [e33]; decide) (by rw [e33]; rfl) rfl ?_
                  exact tL_as K hX hbl hbA hL h_as k hk F G F' G' hI hnext
                · refine (Classical.em ((xs (nI k).toNatClampNeg &&& 63) = (6 : Int32))).elim (fun e33 => ?_) (fun e33_7 => ?_)
                  · refine x_tableIn (tgt := 390) (off := 357) K dL_law_33 (by rw [e33]; decide) (by rw [e33]; decide) (by rw [e33]; rfl) rfl ?_
                    exact tL_trade K hX hbl hbA hL h_trade k hk F G F' G' hI hnext
                  · refine (Classical.em ((xs (nI k).toNatClampNeg &&& 63) = (7 : Int32))).elim (fun e33 => ?_) (fun e33_8 => ?_)
                    · refine x_tableIn (tgt := 423) (off := 390) K dL_law_33 (by rw [e33]; decide) (by rw [e33]; decide) (by rw [e33]; rfl) rfl ?_
                      exact tL_leash K hX hbl hbA hL h_leash k hk F G F' G' hI hnext
                    · refine (Classical.em ((xs (nI k).toNatClampNeg &&& 63) = (8 : Int32))).elim (fun e33 => ?_) (fun e33_9 => ?_)
                      · refine x_tableIn (tgt := 466) (off := 433) K dL_law_33 (by rw [e33]; decide) (by rw [e33]; decide) (by rw [e33]; rfl) rfl ?_
                        exact tL_pig K hX hbl hbA hL h_pig k hk F G F' G' hI hnext
                      · refine (Classical.em ((xs (nI k).toNatClampNeg &&& 63) = (9 : Int32))).elim (fun e33 => ?_) (fun e33_10 => ?_)
                        · refine x_tableIn (tgt := 499) (off := 466) K dL_law_33 (by rw [e33]; decide) (by rw [e33]; decide) (by rw [e33]; rfl) rfl ?_
                          exact tL_feed K hX hbl hbA hL h_feed k hk F G F' G' hI hnext
                        · refine (Classical.em ((xs (nI k).toNatClampNeg &&& 63) = (10 : Int32))).elim (fun e33 => ?_) (fun e33_11 => ?_)
                          · refine x_tableIn (tgt := 562) (off := 529) K dL_law_33 (by rw [e33]; decide) (by rw [e33]; decide) (by rw [e33]; rfl) rfl ?_
                            exact tL_text K hX hbl hbA hL h_text k hk F G F' G' hI hnext
                          · refine (Classical.em ((xs (nI k).toNatClampNeg &&& 63) = (11 : Int32))).elim (fun e33 => ?_) (fun e33_12 => ?_)
                            · refine x_tableIn (tgt := 585) (off := 552) K dL_law_33 (by rw [e33]; decide) (by rw [e33]; decide) (by rw [e33]; rfl) rfl ?_
                              exact tL_untell K hX hbl hbA hL h_untell k hk F G F' G' hI hnext
                            · refine (Classical.em ((xs (nI k).toNatClampNeg &&& 63) = (12 : Int32))).elim (fun e33 => ?_) (fun e33_13 => ?_)
                              · refine x_tableIn (tgt := 608) (off := 575) K dL_law_33 (by rw [e33]; decide) (by rw [e33]; decide) (by rw [e33]; rfl) rfl ?_
                                exact tL_days K hX hbl hbA hL h_days k hk F G F' G' hI hnext
                              · refine (Classical.em ((xs (nI k).toNatClampNeg &&& 63) = (13 : Int32))).elim (fun e33 => ?_) (fun e33_14 => ?_)
                                · refine x_tableIn (tgt := 631) (off := 598) K dL_law_33 (by rw [e33]; decide) (by rw [e33]; decide) (by rw [e33]; rfl) rfl ?_
                                  exact tL_draws K hX hbl hbA hL h_draws k hk F G F' G' hI hnext
                                · refine (Classical.em ((xs (nI k).toNatClampNeg &&& 63) = (14 : Int32))).elim (fun e33 => ?_) (fun e33_15 => ?_)
                                  · refine x_tableIn (tgt := 654) (off := 621) K dL_law_33 (by rw [e33]; decide) (by rw [e33]; decide) (by rw [e33]; rfl) rfl ?_
                                    exact tL_seed K hX hbl hbA hL h_seed k hk F G F' G' hI hnext
                                  · refine (Classical.em ((xs (nI k).toNatClampNeg &&& 63) = (15 : Int32))).elim (fun e33 => ?_) (fun e33_16 => ?_)
                                    · refine x_tableIn (tgt := 677) (off := 644) K dL_law_33 (by rw [e33]; decide) (by rw [e33]; decide) (by rw [e33]; rfl) rfl ?_
                                      exact tL_then K hX hbl hbA hL h_then k hk F G F' G' hI hnext
                                    · refine (Classical.em ((xs (nI k).toNatClampNeg &&& 63) = (16 : Int32))).elim (fun e33 => ?_) (fun e33_17 => ?_)
                                      · refine x_tableIn (tgt := 720) (off := 687) K dL_law_33 (by rw [e33]; decide) (by rw [e33]; decide) (by rw [e33]; rfl) rfl ?_
                                        exact tL_ahead K hX hbl hbA hL h_ahead k hk F G F' G' hI hnext
                                      · refine (Classical.em ((xs (nI k).toNatClampNeg &&& 63) = (17 : Int32))).elim (fun e33 => ?_) (fun e33_18 => ?_)
                                        · refine x_tableIn (tgt := 753) (off := 720) K dL_law_33 (by rw [e33]; decide) (by rw [e33]; decide) (by rw [e33]; rfl) rfl ?_
                                          exact tL_bestLeash K hX hbl hbA hL h_bestLeash k hk F G F' G' hI hnext
                                        · refine (Classical.em ((xs (nI k).toNatClampNeg &&& 63) = (18 : Int32))).elim (fun e33 => ?_) (fun e33_19 => ?_)
                                          · refine x_tableIn (tgt := 776) (off := 743) K dL_law_33 (by rw [e33]; decide) (by rw [e33]; decide) (by rw [e33]; rfl) rfl ?_
                                            exact tL_bestFeed K hX hbl hbA hL h_bestFeed k hk F G F' G' hI hnext
                                          · refine (Classical.em ((xs (nI k).toNatClampNeg &&& 63) = (19 : Int32))).elim (fun e33 => ?_) (fun e33_20 => ?_)
                                            · refine x_tableIn (tgt := 799) (off := 766) K dL_law_33 (by rw [e33]; decide) (by rw [e33]; decide) (by rw [e33]; rfl) rfl ?_
                                              exact tL_gain K hX hbl hbA hL h_gain k hk F G F' G' hI hnext
                                            · refine (Classical.em ((xs (nI k).toNatClampNeg &&& 63) = (20 : Int32))).elim (fun e33 => ?_) (fun e33_21 => ?_)
                                              · refine x_tableIn (tgt := 832) (off := 799) K dL_law_33 (by rw [e33]; decide) (by rw [e33]; decide) (by rw [e33]; rfl) rfl ?_
                                                exact tL_bestTrade K hX hbl hbA hL h_bestTrade k hk F G F' G' hI hnext
                                              · refine (Classical.em ((xs (nI k).toNatClampNeg &&& 63) = (21 : Int32))).elim (fun e33 => ?_) (fun e33_22 => ?_)
                                                · refine x_tableIn (tgt := 845) (off := 812) K dL_law_33 (by rw [e33]; decide) (by rw [e33]; decide) (by rw [e33]; rfl) rfl ?_
                                                  exact tL_share K hX hbl hbA hL h_share k hk F G F' G' hI hnext
                                                · refine (Classical.em ((xs (nI k).toNatClampNeg &&& 63) = (22 : Int32))).elim (fun e33 => ?_) (fun e33_23 => ?_)
                                                  · refine x_tableIn (tgt := 888) (off := 855) K dL_law_33 (by rw [e33]; decide) (by rw [e33]; decide) (by rw [e33]; rfl) rfl ?_
                                                    exact tL_whoHid K hX hbl hbA hL h_whoHid k hk F G F' G' hI hnext
                                                  · refine (Classical.em ((xs (nI k).toNatClampNeg &&& 63) = (23 : Int32))).elim (fun e33 => ?_) (fun e33_24 => ?_)
                                                    · refine x_tableIn (tgt := 931) (off := 898) K dL_law_33 (by rw [e33]; decide) (by rw [e33]; decide) (by rw [e33]; rfl) rfl ?_
                                                      exact tL_voice K hX hbl hbA hL h_voice k hk F G F' G' hI hnext
                                                    · refine (Classical.em ((xs (nI k).toNatClampNeg &&& 63) = (24 : Int32))).elim (fun e33 => ?_) (fun e33_25 => ?_)
                                                      · refine x_tableIn (tgt := 974) (off := 941) K dL_law_33 (by rw [e33]; decide) (by rw [e33]; decide) (by rw [e33]; rfl) rfl ?_
                                                        exact tL_body K hX hbl hbA hL h_body k hk F G F' G' hI hnext
                                                      · refine (Classical.em ((xs (nI k).toNatClampNeg &&& 63) = (25 : Int32))).elim (fun e33 => ?_) (fun e33_26 => ?_)
                                                        · refine x_tableIn (tgt := 997) (off := 964) K dL_law_33 (by rw [e33]; decide) (by rw [e33]; decide) (by rw [e33]; rfl) rfl ?_
                                                          exact tL_sheet K hX hbl hbA hL h_sheet k hk F G F' G' hI hnext
                                                        · refine (Classical.em ((xs (nI k).toNatClampNeg &&& 63) = (26 : Int32))).elim (fun e33 => ?_) (fun e33_27 => ?_)
                                                          · refine x_tableIn (tgt := 1040) (off := 1007) K dL_law_33 (by rw [e33]; decide) (by rw [e33]; decide) (by rw [e33]; rfl) rfl ?_
                                                            exact tL_put K hX hbl hbA hL h_put k hk F G F' G' hI hnext
                                                          · refine (Classical.em ((xs (nI k).toNatClampNeg &&& 63) = (27 : Int32))).elim (fun e33 => ?_) (fun e33_28 => ?_)
                                                            · refine x_tableIn (tgt := 1083) (off := 1050) K dL_law_33 (by rw [e33]; decide) (by rw [e33]; decide) (by rw [e33]; rfl) rfl ?_
                                                              exact tL_move K hX hbl hbA hL h_move k hk F G F' G' hI hnext
                                                            · refine (Classical.em ((xs (nI k).toNatClampNeg &&& 63) = (28 : Int32))).elim (fun e33 => ?_) (fun e33_29 => ?_)
                                                              · refine x_tableIn (tgt := 1146) (off := 1113) K dL_law_33 (by rw [e33]; decide) (by rw [e33]; decide) (by rw [e33]; rfl) rfl ?_
                                                                exact tL_unders K hX hbl hbA hL h_unders k hk F G F' G' hI hnext
                                                              · refine (Classical.em ((xs (nI k).toNatClampNeg &&& 63) = (29 : Int32))).elim (fun e33 => ?_) (fun e33_30 => ?_)
                                                                · refine x_tableIn (tgt := 1169) (off := 1136) K dL_law_33 (by rw [e33]; decide) (by rw [e33]; decide) (by rw [e33]; rfl) rfl ?_
                                                                  exact tL_judge K hX hbl hbA hL h_judge k hk F G F' G' hI hnext
                                                                · refine (Classical.em ((xs (nI k).toNatClampNeg &&& 63) = (30 : Int32))).elim (fun e33 => ?_) (fun e33_31 => ?_)
                                                                  · refine x_tableIn (tgt := 1192) (off := 1159) K dL_law_33 (by rw [e33]; decide) (by rw [e33]; decide) (by rw [e33]; rfl) rfl ?_
                                                                    exact tL_image K hX hbl hbA hL h_image k hk F G F' G' hI hnext
                                                                  · refine (Classical.em ((xs (nI k).toNatClampNeg &&& 63) = (31 : Int32))).elim (fun e33 => ?_) (fun e33_32 => ?_)
                                                                    · refine x_tableIn (tgt := 1205) (off := 1172) K dL_law_33 (by rw [e33]; decide) (by rw [e33]; decide) (by rw [e33]; rfl) rfl ?_
                                                                      exact tL_restore K hX hbl hbA hL h_restore k hk F G F' G' hI hnext
                                                                    · refine (Classical.em ((xs (nI k).toNatClampNeg &&& 63) = (32 : Int32))).elim (fun e33 => ?_) (fun e33_33 => ?_)
                                                                      · refine x_tableIn (tgt := 1218) (off := 1185) K dL_law_33 (by rw [e33]; decide) (by rw [e33]; decide) (by rw [e33]; rfl) rfl ?_
                                                                        exact tL_tell K hX hbl hbA hL h_tell k hk F G F' G' hI hnext
                                                                      · refine (Classical.em ((xs (nI k).toNatClampNeg &&& 63) = (33 : Int32))).elim (fun e33 => ?_) (fun e33_34 => ?_)
                                                                        · refine x_tableIn (tgt := 1241) (off := 1208) K dL_law_33 (by rw [e33]; decide) (by rw [e33]; decide) (by rw [e33]; rfl) rfl ?_
                                                                          exact tL_check K hX hbl hbA hL h_check k hk F G F' G' hI hnext
                                                                        · refine (Classical.em ((xs (nI k).toNatClampNeg &&& 63) = (34 : Int32))).elim (fun e33 => ?_) (fun e33_35 => ?_)
                                                                          · refine x_tableIn (tgt := 1254) (off := 1221) K dL_law_33 (by rw [e33]; decide) (by rw [e33]; decide) (by rw [e33]; rfl) rfl ?_
                                                                            exact tL_count K hX hbl hbA hL h_count k hk F G F' G' hI hnext
                                                                          · refine (Classical.em ((xs (nI k).toNatClampNeg &&& 63) = (35 : Int32))).elim (fun e33 => ?_) (fun e33_36 => ?_)
                                                                            · refine x_tableIn (tgt := 1277) (off := 1244) K dL_law_33 (by rw [e33]; decide) (by rw [e33]; decide) (by rw [e33]; rfl) rfl ?_
                                                                              exact tL_told K hX hbl hbA hL h_told k hk F G F' G' hI hnext
                                                                            · have f33_1 := xtin (i := 0) e33_1 (by decide)
                                                                              have f33_2 := xtin (i := 1) e33_2 (by decide)
                                                                              have f33_3 := xtin (i := 2) e33_3 (by decide)
                                                                              have f33_4 := xtin (i := 3) e33_4 (by decide)
                                                                              have f33_5 := xtin (i := 4) e33_5 (by decide)
                                                                              have f33_6 := xtin (i := 5) e33_6 (by decide)
                                                                              have f33_7 := xtin (i := 6) e33_7 (by decide)
                                                                              have f33_8 := xtin (i := 7) e33_8 (by decide)
                                                                              have f33_9 := xtin (i := 8) e33_9 (by decide)
                                                                              have f33_10 := xtin (i := 9) e33_10 (by decide)
                                                                              have f33_11 := xtin (i := 10) e33_11 (by decide)
                                                                              have f33_12 := xtin (i := 11) e33_12 (by decide)
                                                                              have f33_13 := xtin (i := 12) e33_13 (by decide)
                                                                              have f33_14 := xtin (i := 13) e33_14 (by decide)
                                                                              have f33_15 := xtin (i := 14) e33_15 (by decide)
                                                                              have f33_16 := xtin (i := 15) e33_16 (by decide)
                                                                              have f33_17 := xtin (i := 16) e33_17 (by decide)
                                                                              have f33_18 := xtin (i := 17) e33_18 (by decide)
                                                                              have f33_19 := xtin (i := 18) e33_19 (by decide)
                                                                              have f33_20 := xtin (i := 19) e33_20 (by decide)
                                                                              have f33_21 := xtin (i := 20) e33_21 (by decide)
                                                                              have f33_22 := xtin (i := 21) e33_22 (by decide)
                                                                              have f33_23 := xtin (i := 22) e33_23 (by decide)
                                                                              have f33_24 := xtin (i := 23) e33_24 (by decide)
                                                                              have f33_25 := xtin (i := 24) e33_25 (by decide)
                                                                              have f33_26 := xtin (i := 25) e33_26 (by decide)
                                                                              have f33_27 := xtin (i := 26) e33_27 (by decide)
                                                                              have f33_28 := xtin (i := 27) e33_28 (by decide)
                                                                              have f33_29 := xtin (i := 28) e33_29 (by decide)
                                                                              have f33_30 := xtin (i := 29) e33_30 (by decide)
                                                                              have f33_31 := xtin (i := 30) e33_31 (by decide)
                                                                              have f33_32 := xtin (i := 31) e33_32 (by decide)
                                                                              have f33_33 := xtin (i := 32) e33_33 (by decide)
                                                                              have f33_34 := xtin (i := 33) e33_34 (by decide)
                                                                              have f33_35 := xtin (i := 34) e33_35 (by decide)
                                                                              have f33_36 := xtin (i := 35) e33_36 (by decide)
                                                                              refine (Classical.em ((xs (nI k).toNatClampNeg &&& 63).toInt < 0 ∨ 35 < (xs (nI k).toNatClampNeg &&& 63).toInt)).elim (fun g33 => ?_) (fun g33 => ?_)
                                                                              · refine x_tableOut (tgt := 1300) K dL_law_33 g33 rfl ?_
                                                                                exact hnext F G F' G' hI
                                                                              · exact absurd g33 (by omega)
end
