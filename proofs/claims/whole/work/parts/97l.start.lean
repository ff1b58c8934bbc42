/-! the law's entry: whole_start out of a relation I that both constructors make and all calls keep -/
theorem uL_cl7 : Cond.classLink R_law 7 RX6 ∈ wsL_law := nw_in nwl_L_law nwe_793 (by decide +kernel)
theorem uL_cl10 : Cond.classLink R_law 10 RX7 ∈ wsL_law := nw_in nwl_L_law nwe_795 (by decide +kernel)
theorem uL_m9 : Cond.methodLink R_law 9 yX6_init ∈ wsL_law := nw_in nwl_L_law nwe_798 (by decide +kernel)
theorem uL_m12 : Cond.methodLink R_law 12 yX7_init ∈ wsL_law := nw_in nwl_L_law nwe_800 (by decide +kernel)
theorem uL_it6 : Cond.instantiable RX6 15 ∈ wsL_law := nw_in nwl_L_law nwe_794 (by decide +kernel)
theorem uL_ii6 : Cond.initialized RX6 ∈ wsL_law := nw_in nwl_L_law nwe_363 (by decide +kernel)
theorem uL_yi6 : Cond.initialized yX6_init.cls ∈ wsL_law := nw_in nwl_L_law nwe_363 (by decide +kernel)
theorem uL_im6 : Cond.instanceMethod yX6_init ∈ wsL_law := nw_in nwl_L_law nwe_799 (by decide +kernel)
theorem uL_it7 : Cond.instantiable RX7 24 ∈ wsL_law := nw_in nwl_L_law nwe_796 (by decide +kernel)
theorem uL_ii7 : Cond.initialized RX7 ∈ wsL_law := nw_in nwl_L_law nwe_534 (by decide +kernel)
theorem uL_yi7 : Cond.initialized yX7_init.cls ∈ wsL_law := nw_in nwl_L_law nwe_534 (by decide +kernel)
theorem uL_im7 : Cond.instanceMethod yX7_init ∈ wsL_law := nw_in nwl_L_law nwe_801 (by decide +kernel)
theorem uL_it0 : Cond.instantiable RX0 4 ∈ wsL_law := nw_in nwl_L_law nwe_342 (by decide +kernel)
theorem uL_it1 : Cond.instantiable RX1 2 ∈ wsL_law := nw_in nwl_L_law nwe_86 (by decide +kernel)
theorem uL_it2 : Cond.instantiable RX2 3 ∈ wsL_law := nw_in nwl_L_law nwe_350 (by decide +kernel)
theorem uL_it3 : Cond.instantiable RX3 2 ∈ wsL_law := nw_in nwl_L_law nwe_239 (by decide +kernel)
theorem uL_it4 : Cond.instantiable RX4 5 ∈ wsL_law := nw_in nwl_L_law nwe_345 (by decide +kernel)
theorem uL_it5 : Cond.instantiable RX5 17 ∈ wsL_law := nw_in nwl_L_law nwe_328 (by decide +kernel)
theorem uL_ac : Cond.arrayClass .int ∈ wsL_law := nw_in nwl_L_law nwe_81 (by decide +kernel)
set_option maxRecDepth 20000 in
theorem uT_ao : Cond.arrayOver (.object "PigNinths$Sheet") ∈ lw_tbl := by decide +kernel
set_option maxRecDepth 20000 in
theorem uT_n0 : Cond.fieldLinkNest "PigNinths$Voices" 45 "PigNinths" "ABOVE" "[I" "PigNinths" ∈ lw_tbl := by decide +kernel
set_option maxRecDepth 20000 in
theorem uT_n1 : Cond.methodLinkNest "PigNinths" 56 yX0_init "PigNinths" ∈ lw_tbl := by decide +kernel
set_option maxRecDepth 20000 in
theorem uT_n2 : Cond.methodLinkNest "PigNinths" 63 yX4_init "PigNinths" ∈ lw_tbl := by decide +kernel
set_option maxRecDepth 20000 in
theorem uT_n3 : Cond.methodLinkNest "PigNinths" 77 yX2_init "PigNinths" ∈ lw_tbl := by decide +kernel
set_option maxRecDepth 20000 in
theorem uT_n4 : Cond.methodLinkNest "PigNinths$World" 38 yX3_init "PigNinths" ∈ lw_tbl := by decide +kernel
set_option maxRecDepth 20000 in
theorem uT_lABOVE : Cond.laysStatic "PigNinths" "ABOVE" "[I" ∈ lw_tbl := by decide +kernel
set_option maxRecDepth 20000 in
theorem uT_iABOVE : Cond.initialized "PigNinths" ∈ lw_tbl := by decide +kernel
set_option maxRecDepth 20000 in
theorem uT_lROW_PLACES : Cond.laysStatic "PigNinths" "ROW_PLACES" "[I" ∈ lw_tbl := by decide +kernel
set_option maxRecDepth 20000 in
theorem uT_iROW_PLACES : Cond.initialized "PigNinths" ∈ lw_tbl := by decide +kernel
set_option maxRecDepth 20000 in
theorem uT_lBODIES : Cond.laysStatic "PigNinths$Voices" "BODIES" "[I" ∈ lw_tbl := by decide +kernel
set_option maxRecDepth 20000 in
theorem uT_iBODIES : Cond.initialized "PigNinths$Voices" ∈ lw_tbl := by decide +kernel
set_option maxRecDepth 20000 in
theorem uT_lNAMES_OF_USES : Cond.laysStatic "PigNinths$Reader" "NAMES_OF_USES" "[C" ∈ lw_tbl := by decide +kernel
set_option maxRecDepth 20000 in
theorem uT_iNAMES_OF_USES : Cond.initialized "PigNinths$Reader" ∈ lw_tbl := by decide +kernel
set_option maxRecDepth 20000 in
theorem uG_aABOVE : Cond.arrayOf (Term.static "PigNinths" "ABOVE" "[I") .int ∈ flatC (Jvm.Cond.and given_1 narrow_1) := by decide +kernel
set_option maxRecDepth 20000 in
theorem uG_nABOVE : Cond.eq (Term.length (Term.static "PigNinths" "ABOVE" "[I")) (Term.int (Int32.ofNat xt_above.length)) ∈ flatC (Jvm.Cond.and given_1 narrow_1) := by decide +kernel
set_option maxRecDepth 20000 in
theorem uG_eABOVE : ∀ j : Nat, j < xt_above.length → Cond.eq (Term.elem (Term.static "PigNinths" "ABOVE" "[I") (Term.int (Int32.ofNat j))) (Term.int (xt_above.getD j 0)) ∈ flatC (Jvm.Cond.and given_1 narrow_1) := by decide +kernel
set_option maxRecDepth 20000 in
theorem uG_aROW_PLACES : Cond.arrayOf (Term.static "PigNinths" "ROW_PLACES" "[I") .int ∈ flatC (Jvm.Cond.and given_1 narrow_1) := by decide +kernel
set_option maxRecDepth 20000 in
theorem uG_nROW_PLACES : Cond.eq (Term.length (Term.static "PigNinths" "ROW_PLACES" "[I")) (Term.int (Int32.ofNat xt_places.length)) ∈ flatC (Jvm.Cond.and given_1 narrow_1) := by decide +kernel
set_option maxRecDepth 20000 in
theorem uG_eROW_PLACES : ∀ j : Nat, j < xt_places.length → Cond.eq (Term.elem (Term.static "PigNinths" "ROW_PLACES" "[I") (Term.int (Int32.ofNat j))) (Term.int (xt_places.getD j 0)) ∈ flatC (Jvm.Cond.and given_1 narrow_1) := by decide +kernel
set_option maxRecDepth 20000 in
theorem uG_aBODIES : Cond.arrayOf (Term.static "PigNinths$Voices" "BODIES" "[I") .int ∈ flatC (Jvm.Cond.and given_1 narrow_1) := by decide +kernel
set_option maxRecDepth 20000 in
theorem uG_nBODIES : Cond.eq (Term.length (Term.static "PigNinths$Voices" "BODIES" "[I")) (Term.int (Int32.ofNat xt_bodies.length)) ∈ flatC (Jvm.Cond.and given_1 narrow_1) := by decide +kernel
set_option maxRecDepth 20000 in
theorem uG_eBODIES : ∀ j : Nat, j < xt_bodies.length → Cond.eq (Term.elem (Term.static "PigNinths$Voices" "BODIES" "[I") (Term.int (Int32.ofNat j))) (Term.int (xt_bodies.getD j 0)) ∈ flatC (Jvm.Cond.and given_1 narrow_1) := by decide +kernel
set_option maxRecDepth 20000 in
theorem uG_aNAMES_OF_USES : Cond.arrayOf (Term.static "PigNinths$Reader" "NAMES_OF_USES" "[C") .char ∈ flatC (Jvm.Cond.and given_1 narrow_1) := by decide +kernel
set_option maxRecDepth 20000 in
theorem uG_nNAMES_OF_USES : Cond.eq (Term.length (Term.static "PigNinths$Reader" "NAMES_OF_USES" "[C")) (Term.int (Int32.ofNat xt_names.length)) ∈ flatC (Jvm.Cond.and given_1 narrow_1) := by decide +kernel
set_option maxRecDepth 20000 in
theorem uG_eNAMES_OF_USES : ∀ j : Nat, j < xt_names.length → Cond.eq (Term.elem (Term.static "PigNinths$Reader" "NAMES_OF_USES" "[C") (Term.int (Int32.ofNat j))) (Term.int (xt_names.getD j 0)) ∈ flatC (Jvm.Cond.and given_1 narrow_1) := by decide +kernel
set_option maxHeartbeats 4000000 in
set_option maxRecDepth 100000 in
theorem whole_of {p : Program} {e : Env} {s : State} {m : MethodId} {below : List Frame} {meth : Method} {c : Code} (l : Launch) {b Lx : Nat} {xs : Nat → Int32} (hL : Lx ≤ 3072) (C0 : lw_At p s m meth c b Lx xs) {I : xF → xA → xF → xA → Prop} (h0 : qX6_init (fun F G => qX7_init (fun F' G' => I F G F' G'))) (h_oak : oX_oak I) (h_oakIs : oX_oakIs I) (h_rain : oX_rain I) (h_farmer : oX_farmer I) (h_farmerIs : oX_farmerIs I) (h_as : oX_as I) (h_trade : oX_trade I) (h_leash : oX_leash I) (h_pig : oX_pig I) (h_feed : oX_feed I) (h_text : oX_text I) (h_untell : oX_untell I) (h_days : oX_days I) (h_draws : oX_draws I) (h_seed : oX_seed I) (h_then : oX_then I) (h_ahead : oX_ahead I) (h_bestLeash : oX_bestLeash I) (h_bestFeed : oX_bestFeed I) (h_gain : oX_gain I) (h_bestTrade : oX_bestTrade I) (h_share : oX_share I) (h_whoHid : oX_whoHid I) (h_voice : oX_voice I) (h_body : oX_body I) (h_sheet : oX_sheet I) (h_put : oX_put I) (h_move : oX_move I) (h_unders : oX_unders I) (h_judge : oX_judge I) (h_image : oX_image I) (h_restore : oX_restore I) (h_tell : oX_tell I) (h_check : oX_check I) (h_count : oX_count I) (h_told : oX_told I) : W p l e room_1 s m #[Value.ref b] below meth c s.heap [] 0 0 (lw_Z below #[Value.ref b] s) (entryFrame m ([Value.ref b] : List Value).toArray 4) := by
  obtain ⟨hx, hb, hr, hml, hown, hts, hX, hbl, hlocks, hgv⟩ := id C0
  have hA0 : ∀ a : Nat, a < s.heap.size → ¬ s.heap.size ≤ a := fun a h => Nat.not_le.mpr h
  have hs := flat_of_before _ hgv
  have htsL : ∀ w ∈ wsL_law, w.before #[Value.ref b] s = true := fun w h => hts w (wsL_law_in w h)
  obtain ⟨c0, i0, k0⟩ := u_known (C := RX0) (T := TX0) (N := 4) (n := 4) htsL inlX0 (htsL _ uL_it0)
  obtain ⟨c1, i1, k1⟩ := u_known (C := RX1) (T := TX1) (N := 2) (n := 2) htsL inlX1 (htsL _ uL_it1)
  obtain ⟨c2, i2, k2⟩ := u_known (C := RX2) (T := TX2) (N := 3) (n := 3) htsL inlX2 (htsL _ uL_it2)
  obtain ⟨c3, i3, k3⟩ := u_known (C := RX3) (T := TX3) (N := 2) (n := 2) htsL inlX3 (htsL _ uL_it3)
  obtain ⟨c4, i4, k4⟩ := u_known (C := RX4) (T := TX4) (N := 5) (n := 5) htsL inlX4 (htsL _ uL_it4)
  obtain ⟨c5, i5, k5⟩ := u_known (C := RX5) (T := TX5) (N := 17) (n := 17) htsL inlX5 (htsL _ uL_it5)
  obtain ⟨c6, i6, k6⟩ := u_known (C := RX6) (T := TX6) (N := 15) (n := 15) htsL inlX6 (htsL _ uL_it6)
  obtain ⟨c7, i7, k7⟩ := u_known (C := RX7) (T := TX7) (N := 24) (n := 24) htsL inlX7 (htsL _ uL_it7)
  obtain ⟨D, hKc⟩ : ∃ D : va_G, ∀ (k : Nat) (q : vw_C), vwCl[k]? = some q → u_Kn s q.1 q.2.1 q.2.2 (D.1 k) (D.2 k) := by
    refine ⟨(fun k => ([c0, c1, c2, c3, c4, c5, c6, c7] : List ClassId).getD k c0, fun k => ([i0, i1, i2, i3, i4, i5, i6, i7] : List (Nat → Nat)).getD k i0), ?_⟩
    intro k q hq
    match k, hq with
    | 0, hq => cases hq; exact k0
    | 1, hq => cases hq; exact k1
    | 2, hq => cases hq; exact k2
    | 3, hq => cases hq; exact k3
    | 4, hq => cases hq; exact k4
    | 5, hq => cases hq; exact k5
    | 6, hq => cases hq; exact k6
    | 7, hq => cases hq; exact k7
    | k + 8, hq => simp [vwCl] at hq
  obtain ⟨cI, kA, cp, f1, f2, f3⟩ := Cond.arrayClass_spec (htsL _ uL_ac)
  obtain ⟨cpO, cO, kO, g1, g2, g3, g4, g5⟩ := Cond.arrayOver_spec (hts _ uT_ao)
  have hK : va_K D vwCl (xtys cI cO) s := by
    refine ⟨hKc, fun k q hq => ?_⟩
    match k, hq with
    | 0, hq => cases hq; exact ⟨fun n z => ⟨fun k h => (by cases h), kA, f2, cp, f3⟩, f1⟩
    | 1, hq => cases hq; exact ⟨fun n z => ⟨fun k h => (by cases h), kO, g3, cpO, g4⟩, kO, cpO, g3, g4, g1, g5⟩
    | k + 2, hq => simp [xtys] at hq
  have hT : xt_T (fun q : Nat => s.heap.size ≤ q) s s.heap := ⟨xt_mk (by decide) (hts _ uT_lABOVE) (hts _ uT_iABOVE) (hs _ uG_aABOVE) (hs _ uG_nABOVE) (fun j hj => hs _ (uG_eABOVE j hj)) hA0, xt_mk (by decide) (hts _ uT_lROW_PLACES) (hts _ uT_iROW_PLACES) (hs _ uG_aROW_PLACES) (hs _ uG_nROW_PLACES) (fun j hj => hs _ (uG_eROW_PLACES j hj)) hA0, xt_mk (by decide) (hts _ uT_lBODIES) (hts _ uT_iBODIES) (hs _ uG_aBODIES) (hs _ uG_nBODIES) (fun j hj => hs _ (uG_eBODIES j hj)) hA0, xt_mk (by decide) (hts _ uT_lNAMES_OF_USES) (hts _ uT_iNAMES_OF_USES) (hs _ uG_aNAMES_OF_USES) (hs _ uG_nNAMES_OF_USES) (fun j hj => hs _ (uG_eNAMES_OF_USES j hj)) hA0⟩
  have hN : xNst s := ⟨va_Nw.of rfl (hts _ uT_n0), va_Nw.of rfl (hts _ uT_n1), va_Nw.of rfl (hts _ uT_n2), va_Nw.of rfl (hts _ uT_n3), va_Nw.of rfl (hts _ uT_n4), va_AO.of (hts _ uT_ao)⟩
  have K : XK p m c code 4 s #[Value.ref b] wsL_law R_law D (xtys cI cO) (fun q : Nat => s.heap.size ≤ q) meth ret := ⟨⟨hx, hb, hml, hown, htsL⟩, hK, fun _ h => h, hT, hlocks, hr, hN⟩
  have hj : XJ p l e room_1 s m #[Value.ref b] below meth c 0 0 (lw_Z below #[Value.ref b] s) D (xtys cI cO) (fun q : Nat => s.heap.size ≤ q) 4 [] 0 [(0, .ref b)] [] := by
    refine x_new (pc' := 3) (C := RX6) (T := TX6) (N := 15) (ci := 6) (fs := [.null, .null, .null, .null, .null, .null, .int 0, .null, .null, .null, .null, .null, .null, .null, .null]) K inlX6 tyX6 tyX6_ok uL_cl7 uL_it6 uL_ii6 rfl (by decide +kernel) (Nat.le_of_ble_eq_true rfl) (Nat.le_of_ble_eq_true rfl) dL_law_0 rfl (fun q0 => ?_)
    refine x_dup (pc' := 4) K dL_law_3 rfl rfl ?_
    refine x_callC (pc' := 7) (X := []) K (mX6_init l D cI cO q0) rfl gL_law_X6_init uL_m9 uL_yi6 uL_im6 rfl dsX6_init ⟨rfl, rfl, ⟨Nat.le_of_ble_eq_true rfl, Nat.le_of_ble_eq_true rfl⟩⟩ ⟨Nat.le_of_ble_eq_true rfl, Nat.le_of_ble_eq_true rfl⟩ h0 rfl (st := [.ref q0]) rfl rfl (Nat.le_of_ble_eq_true rfl) dL_law_4 rfl (fun aX F G eX h => ?_)
    subst eX
    refine x_astore_n (pc' := 8) (i := 1) K dL_law_7 rfl (by decide) [1, 0] (L' := [(0, .ref b), (1, .ref (aX 0))]) rfl rfl ?_
    refine x_new (pc' := 11) (C := RX7) (T := TX7) (N := 24) (ci := 7) (fs := [.null, .null, .null, .int 0, .null, .int 0, .int 0, .int 0, .int 0, .null, .null, .null, .null, .int 0, .null, .null, .null, .int 0, .int 0, .int 0, .null, .null, .null, .null]) K inlX7 tyX7 tyX7_ok uL_cl10 uL_it7 uL_ii7 rfl (by decide +kernel) (Nat.le_of_ble_eq_true rfl) (Nat.le_of_ble_eq_true rfl) dL_law_8 rfl (fun q1 => ?_)
    refine x_dup (pc' := 12) K dL_law_11 rfl rfl ?_
    refine x_callC (pc' := 15) (X := [] ++ w6 cI cO aX F G) K (mX7_init l D cI cO q1) rfl gL_law_X7_init uL_m12 uL_yi7 uL_im7 rfl dsX7_init ⟨rfl, rfl, ⟨Nat.le_of_ble_eq_true rfl, Nat.le_of_ble_eq_true rfl⟩⟩ ⟨Nat.le_of_ble_eq_true rfl, Nat.le_of_ble_eq_true rfl⟩ h rfl (st := [.ref q1]) rfl rfl (Nat.le_of_ble_eq_true rfl) dL_law_12 rfl (fun aM F' G' eM h => ?_)
    subst eM
    refine x_weq (w' := w6 cI cO aX F G ++ w7 cI aM F' G') rfl ?_
    refine x_astore_n (pc' := 16) (i := 2) K dL_law_15 rfl (by decide) [1, 2, 0] (L' := [(0, .ref b), (1, .ref (aX 0)), (2, .ref (aM 0))]) rfl rfl ?_
    refine x_iconst (pc' := 17) (v := nI 0) K dL_law_16 (by decide) rfl ?_
    refine x_istore_n (pc' := 18) (i := 3) K dL_law_17 rfl (by decide) [1, 2, 3, 0] (L' := [(0, .ref b), (1, .ref (aX 0)), (2, .ref (aM 0)), (3, .int (nI 0))]) rfl rfl ?_
    exact tL_loop K hX hbl (Nat.not_le.mpr hbl) hL hlocks h_oak h_oakIs h_rain h_farmer h_farmerIs h_as h_trade h_leash h_pig h_feed h_text h_untell h_days h_draws h_seed h_then h_ahead h_bestLeash h_bestFeed h_gain h_bestTrade h_share h_whoHid h_voice h_body h_sheet h_put h_move h_unders h_judge h_image h_restore h_tell h_check h_count h_told (Lx + 6) 0 (by omega) (by omega) F G F' G' h
  rw [lg_entry_eq]
  exact hj s.heap [] _ (fun k q h => by simp at h) ⟨fun i j p q h => by simp at h, fun k q h => by simp at h⟩ va_S.rf (lv_entry [.ref b] (Nat.le_of_ble_eq_true rfl))
