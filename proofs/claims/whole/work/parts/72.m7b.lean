section
variable {p : Program} {l : Launch} {e : Env} {s : State} {m : MethodId} {args : Array Value} {below : List Frame} {meth : Method} {c : Code} {D : va_G} {cI cO : ClassId} {A : Nat → Prop} {a : Nat → Nat} {d : Nat}
/-! X7_feeds -/
abbrev rmX7_feeds : Room := { frames := 5, cells := 0, slots := 0, locals := 130 }
theorem dsX7_feeds : xDesc yX7_feeds 2 := by decide +kernel
set_option maxHeartbeats 4000000 in
set_option maxRecDepth 100000 in
theorem mX7_feeds (l : Launch) (D : va_G) (cI cO : ClassId) (a : Nat → Nat)  (x1 : Int32) (x2 : Int32) : MI l yX7_feeds wsX7_feeds rmX7_feeds D (xtys cI cO) [.ref (a 0), .int x1, .int x2] (w7 cI a) (qX7_feeds x1 x2) := by
  refine MI_of (cc := cX7_feeds) (maxL := 5) (own := RX7) (by decide) rfl rfl (Nat.le_of_ble_eq_true rfl) ?_
  intro p e s m args below meth c A F G Q h K
  refine x_locals [0, 1, 2] (L' := [(0, .ref (a 0)), (1, .int _), (2, .int _)]) rfl ?_
  refine x_aload_n (pc' := 1) K dX7_feeds_0 0 rfl rfl ?_
  refine x_iload_n (pc' := 2) K dX7_feeds_1 1 rfl rfl ?_
  refine x_iconst (pc' := 3) (v := 1) K dX7_feeds_2 (by decide) rfl ?_
  refine x_callI (pc' := 6) K (mX7_its l D cI cO a _ _) rfl gX7_feeds_X7_its rfl dsX7_its ⟨rfl, rfl, ⟨Nat.le_of_ble_eq_true rfl, Nat.le_of_ble_eq_true rfl⟩, Nat.le_of_ble_eq_true rfl, Nat.le_of_ble_eq_true rfl⟩ h 7 0 rfl rfl (st := []) rfl rfl (Nat.le_of_ble_eq_true rfl) dX7_feeds_3 rfl (fun r3 F3 G3 h => ?_)
  refine x_iconst (pc' := 7) (v := 2) K dX7_feeds_6 (by decide) rfl ?_
  refine x_idiv (pc' := 8) K dX7_feeds_7 (by decide) rfl ?_
  refine x_istore_n (pc' := 9) (i := 3) K dX7_feeds_8 rfl (by decide) [1, 2, 3, 0] (L' := [(0, .ref (a 0)), (1, .int _), (2, .int _), (3, .int _)]) rfl rfl ?_
  refine x_iconst (pc' := 10) (v := 4) K dX7_feeds_9 (by decide) rfl ?_
  refine x_istore (pc' := 12) (i := 4) K dX7_feeds_10 (by decide) [1, 2, 3, 4, 0] (L' := [(0, .ref (a 0)), (1, .int _), (2, .int _), (3, .int _), (4, .int _)]) rfl rfl ?_
  refine x_aload_n (pc' := 13) K dX7_feeds_12 0 rfl rfl ?_
  refine x_iload_n (pc' := 14) K dX7_feeds_13 1 rfl rfl ?_
  refine x_iconst (pc' := 15) (v := 0) K dX7_feeds_14 (by decide) rfl ?_
  refine x_callI (pc' := 18) K (mX7_its l D cI cO a _ _) rfl gX7_feeds_X7_its rfl dsX7_its ⟨rfl, rfl, ⟨Nat.le_of_ble_eq_true rfl, Nat.le_of_ble_eq_true rfl⟩, Nat.le_of_ble_eq_true rfl, Nat.le_of_ble_eq_true rfl⟩ h 7 0 rfl rfl (st := []) rfl rfl (Nat.le_of_ble_eq_true rfl) dX7_feeds_15 rfl (fun r15 F15 G15 h => ?_)
  refine (Classical.em (r15 = (1 : Int32))).elim (fun e18 => ?_) (fun e18_1 => ?_)
  · replace h := h.1 e18
    refine x_tableIn (tgt := 56) (off := 38) K dX7_feeds_18 (by rw [e18]; decide) (by rw [e18]; decide) (by rw [e18]; rfl) rfl ?_
    refine x_iconst (pc' := 57) (v := 4) K dX7_feeds_56 (by decide) rfl ?_
    refine x_iload_n (pc' := 58) K dX7_feeds_57 3 rfl rfl ?_
    refine x_isub (pc' := 59) K dX7_feeds_58 rfl ?_
    refine x_istore (pc' := 61) (i := 4) K dX7_feeds_59 (by decide) [1, 2, 3, 4, 0] (L' := [(0, .ref (a 0)), (1, .int _), (2, .int _), (3, .int _), (4, .int _)]) rfl rfl ?_
    refine x_goto (tgt := 101) K dX7_feeds_61 rfl ?_
    refine x_iload (pc' := 103) K dX7_feeds_101 4 rfl rfl ?_
    refine x_iconst (pc' := 104) (v := 0) K dX7_feeds_103 (by decide) rfl ?_
    refine x_bipush (pc' := 106) (v := 9) K dX7_feeds_104 (by decide) rfl ?_
    refine x_callS (pc' := 109) K (mX7_held l D cI cO a _ _ _) rfl gX7_feeds_X7_held dsX7_held ⟨rfl, rfl, ⟨Nat.le_of_ble_eq_true rfl, Nat.le_of_ble_eq_true rfl⟩, Nat.le_of_ble_eq_true rfl, Nat.le_of_ble_eq_true rfl⟩ h (st := []) rfl rfl (Nat.le_of_ble_eq_true rfl) dX7_feeds_106 rfl (fun r106 h => ?_)
    exact x_iret (wf := w7 cI a) K h dX7_feeds_109
  · replace h := h.2 e18_1
    refine (Classical.em (r15 = (2 : Int32))).elim (fun e18 => ?_) (fun e18_2 => ?_)
    · replace h := h.1 e18
      refine x_tableIn (tgt := 64) (off := 46) K dX7_feeds_18 (by rw [e18]; decide) (by rw [e18]; decide) (by rw [e18]; rfl) rfl ?_
      refine x_iconst (pc' := 65) (v := 4) K dX7_feeds_64 (by decide) rfl ?_
      refine x_iload_n (pc' := 66) K dX7_feeds_65 3 rfl rfl ?_
      refine x_iadd (pc' := 67) K dX7_feeds_66 rfl ?_
      refine x_istore (pc' := 69) (i := 4) K dX7_feeds_67 (by decide) [1, 2, 3, 4, 0] (L' := [(0, .ref (a 0)), (1, .int _), (2, .int _), (3, .int _), (4, .int _)]) rfl rfl ?_
      refine x_goto (tgt := 101) K dX7_feeds_69 rfl ?_
      refine x_iload (pc' := 103) K dX7_feeds_101 4 rfl rfl ?_
      refine x_iconst (pc' := 104) (v := 0) K dX7_feeds_103 (by decide) rfl ?_
      refine x_bipush (pc' := 106) (v := 9) K dX7_feeds_104 (by decide) rfl ?_
      refine x_callS (pc' := 109) K (mX7_held l D cI cO a _ _ _) rfl gX7_feeds_X7_held dsX7_held ⟨rfl, rfl, ⟨Nat.le_of_ble_eq_true rfl, Nat.le_of_ble_eq_true rfl⟩, Nat.le_of_ble_eq_true rfl, Nat.le_of_ble_eq_true rfl⟩ h (st := []) rfl rfl (Nat.le_of_ble_eq_true rfl) dX7_feeds_106 rfl (fun r106 h => ?_)
      exact x_iret (wf := w7 cI a) K h dX7_feeds_109
    · replace h := h.2 e18_2
      refine (Classical.em (r15 = (4 : Int32))).elim (fun e18 => ?_) (fun e18_3 => ?_)
      · replace h := h.1 e18
        refine x_tableIn (tgt := 72) (off := 54) K dX7_feeds_18 (by rw [e18]; decide) (by rw [e18]; decide) (by rw [e18]; rfl) rfl ?_
        refine x_iconst (pc' := 73) (v := 2) K dX7_feeds_72 (by decide) rfl ?_
        refine x_iload_n (pc' := 74) K dX7_feeds_73 3 rfl rfl ?_
        refine x_isub (pc' := 75) K dX7_feeds_74 rfl ?_
        refine x_istore (pc' := 77) (i := 4) K dX7_feeds_75 (by decide) [1, 2, 3, 4, 0] (L' := [(0, .ref (a 0)), (1, .int _), (2, .int _), (3, .int _), (4, .int _)]) rfl rfl ?_
        refine x_goto (tgt := 101) K dX7_feeds_77 rfl ?_
        refine x_iload (pc' := 103) K dX7_feeds_101 4 rfl rfl ?_
        refine x_iconst (pc' := 104) (v := 0) K dX7_feeds_103 (by decide) rfl ?_
        refine x_bipush (pc' := 106) (v := 9) K dX7_feeds_104 (by decide) rfl ?_
        refine x_callS (pc' := 109) K (mX7_held l D cI cO a _ _ _) rfl gX7_feeds_X7_held dsX7_held ⟨rfl, rfl, ⟨Nat.le_of_ble_eq_true rfl, Nat.le_of_ble_eq_true rfl⟩, Nat.le_of_ble_eq_true rfl, Nat.le_of_ble_eq_true rfl⟩ h (st := []) rfl rfl (Nat.le_of_ble_eq_true rfl) dX7_feeds_106 rfl (fun r106 h => ?_)
        exact x_iret (wf := w7 cI a) K h dX7_feeds_109
      · replace h := h.2 e18_3
        refine (Classical.em (r15 = (5 : Int32))).elim (fun e18 => ?_) (fun e18_4 => ?_)
        · replace h := h.1 e18
          refine x_tableIn (tgt := 80) (off := 62) K dX7_feeds_18 (by rw [e18]; decide) (by rw [e18]; decide) (by rw [e18]; rfl) rfl ?_
          refine x_iconst (pc' := 81) (v := 2) K dX7_feeds_80 (by decide) rfl ?_
          refine x_iconst (pc' := 82) (v := 4) K dX7_feeds_81 (by decide) rfl ?_
          refine x_iload_n (pc' := 83) K dX7_feeds_82 3 rfl rfl ?_
          refine x_iadd (pc' := 84) K dX7_feeds_83 rfl ?_
          refine x_imul (pc' := 85) K dX7_feeds_84 rfl ?_
          refine x_istore (pc' := 87) (i := 4) K dX7_feeds_85 (by decide) [1, 2, 3, 4, 0] (L' := [(0, .ref (a 0)), (1, .int _), (2, .int _), (3, .int _), (4, .int _)]) rfl rfl ?_
          refine x_goto (tgt := 101) K dX7_feeds_87 rfl ?_
          refine x_iload (pc' := 103) K dX7_feeds_101 4 rfl rfl ?_
          refine x_iconst (pc' := 104) (v := 0) K dX7_feeds_103 (by decide) rfl ?_
          refine x_bipush (pc' := 106) (v := 9) K dX7_feeds_104 (by decide) rfl ?_
          refine x_callS (pc' := 109) K (mX7_held l D cI cO a _ _ _) rfl gX7_feeds_X7_held dsX7_held ⟨rfl, rfl, ⟨Nat.le_of_ble_eq_true rfl, Nat.le_of_ble_eq_true rfl⟩, Nat.le_of_ble_eq_true rfl, Nat.le_of_ble_eq_true rfl⟩ h (st := []) rfl rfl (Nat.le_of_ble_eq_true rfl) dX7_feeds_106 rfl (fun r106 h => ?_)
          exact x_iret (wf := w7 cI a) K h dX7_feeds_109
        · replace h := h.2 e18_4
          refine (Classical.em (r15 = (6 : Int32))).elim (fun e18 => ?_) (fun e18_5 => ?_)
          · replace h := h.1 e18
            refine x_tableIn (tgt := 90) (off := 72) K dX7_feeds_18 (by rw [e18]; decide) (by rw [e18]; decide) (by rw [e18]; rfl) rfl ?_
            refine x_aload_n (pc' := 91) K dX7_feeds_90 0 rfl rfl ?_
            refine x_iload_n (pc' := 92) K dX7_feeds_91 1 rfl rfl ?_
            refine x_iload_n (pc' := 93) K dX7_feeds_92 2 rfl rfl ?_
            refine x_callI (pc' := 96) K (mX7_feedsTold l D cI cO a _ _) rfl gX7_feeds_X7_feedsTold rfl dsX7_feedsTold ⟨rfl, rfl, ⟨Nat.le_of_ble_eq_true rfl, Nat.le_of_ble_eq_true rfl⟩, Nat.le_of_ble_eq_true rfl, Nat.le_of_ble_eq_true rfl⟩ h 7 0 rfl rfl (st := []) rfl rfl (Nat.le_of_ble_eq_true rfl) dX7_feeds_93 rfl (fun r93 F93 G93 h => ?_)
            refine x_istore (pc' := 98) (i := 4) K dX7_feeds_96 (by decide) [1, 2, 3, 4, 0] (L' := [(0, .ref (a 0)), (1, .int _), (2, .int _), (3, .int _), (4, .int _)]) rfl rfl ?_
            refine x_goto (tgt := 101) K dX7_feeds_98 rfl ?_
            refine x_iload (pc' := 103) K dX7_feeds_101 4 rfl rfl ?_
            refine x_iconst (pc' := 104) (v := 0) K dX7_feeds_103 (by decide) rfl ?_
            refine x_bipush (pc' := 106) (v := 9) K dX7_feeds_104 (by decide) rfl ?_
            refine x_callS (pc' := 109) K (mX7_held l D cI cO a _ _ _) rfl gX7_feeds_X7_held dsX7_held ⟨rfl, rfl, ⟨Nat.le_of_ble_eq_true rfl, Nat.le_of_ble_eq_true rfl⟩, Nat.le_of_ble_eq_true rfl, Nat.le_of_ble_eq_true rfl⟩ h (st := []) rfl rfl (Nat.le_of_ble_eq_true rfl) dX7_feeds_106 rfl (fun r106 h => ?_)
            exact x_iret (wf := w7 cI a) K h dX7_feeds_109
          · replace h := h.2 e18_5
            have f18_1 := xtin (i := 1) e18_1 (by decide)
            have f18_2 := xtin (i := 2) e18_2 (by decide)
            have f18_3 := xtin (i := 4) e18_3 (by decide)
            have f18_4 := xtin (i := 5) e18_4 (by decide)
            have f18_5 := xtin (i := 6) e18_5 (by decide)
            refine (Classical.em (r15.toInt < 1 ∨ 6 < r15.toInt)).elim (fun g18 => ?_) (fun g18 => ?_)
            · refine x_tableOut (tgt := 101) K dX7_feeds_18 g18 rfl ?_
              refine x_iload (pc' := 103) K dX7_feeds_101 4 rfl rfl ?_
              refine x_iconst (pc' := 104) (v := 0) K dX7_feeds_103 (by decide) rfl ?_
              refine x_bipush (pc' := 106) (v := 9) K dX7_feeds_104 (by decide) rfl ?_
              refine x_callS (pc' := 109) K (mX7_held l D cI cO a _ _ _) rfl gX7_feeds_X7_held dsX7_held ⟨rfl, rfl, ⟨Nat.le_of_ble_eq_true rfl, Nat.le_of_ble_eq_true rfl⟩, Nat.le_of_ble_eq_true rfl, Nat.le_of_ble_eq_true rfl⟩ h (st := []) rfl rfl (Nat.le_of_ble_eq_true rfl) dX7_feeds_106 rfl (fun r106 h => ?_)
              exact x_iret (wf := w7 cI a) K h dX7_feeds_109
            · have g := not_or.mp g18
              refine x_tableIn (tgt := 101) (off := 83) K dX7_feeds_18 g.1 g.2 (xtbl [1, 2, 4, 5, 6] (1) (6) (by decide +kernel) g.1 g.2 (by intro v hv; simp only [List.mem_cons, List.not_mem_nil, or_false] at hv; omega)) rfl ?_
              refine x_iload (pc' := 103) K dX7_feeds_101 4 rfl rfl ?_
              refine x_iconst (pc' := 104) (v := 0) K dX7_feeds_103 (by decide) rfl ?_
              refine x_bipush (pc' := 106) (v := 9) K dX7_feeds_104 (by decide) rfl ?_
              refine x_callS (pc' := 109) K (mX7_held l D cI cO a _ _ _) rfl gX7_feeds_X7_held dsX7_held ⟨rfl, rfl, ⟨Nat.le_of_ble_eq_true rfl, Nat.le_of_ble_eq_true rfl⟩, Nat.le_of_ble_eq_true rfl, Nat.le_of_ble_eq_true rfl⟩ h (st := []) rfl rfl (Nat.le_of_ble_eq_true rfl) dX7_feeds_106 rfl (fun r106 h => ?_)
              exact x_iret (wf := w7 cI a) K h dX7_feeds_109
/-! X7_hides -/
abbrev rmX7_hides : Room := { frames := 3, cells := 0, slots := 0, locals := 82 }
theorem dsX7_hides : xDesc yX7_hides 2 := by decide +kernel
set_option maxHeartbeats 4000000 in
set_option maxRecDepth 100000 in
theorem mX7_hides (l : Launch) (D : va_G) (cI cO : ClassId) (a : Nat → Nat)  (x1 : Int32) (x2 : Int32) : MI l yX7_hides wsX7_hides rmX7_hides D (xtys cI cO) [.ref (a 0), .int x1, .int x2] (w7 cI a) (qX7_hides x1 x2) := by
  refine MI_of (cc := cX7_hides) (maxL := 3) (own := RX7) (by decide) rfl rfl (Nat.le_of_ble_eq_true rfl) ?_
  intro p e s m args below meth c A F G Q h K
  refine x_locals [0, 1, 2] (L' := [(0, .ref (a 0)), (1, .int _), (2, .int _)]) rfl ?_
  refine x_aload_n (pc' := 1) K dX7_hides_0 0 rfl rfl ?_
  refine x_iload_n (pc' := 2) K dX7_hides_1 1 rfl rfl ?_
  refine x_iconst (pc' := 3) (v := 0) K dX7_hides_2 (by decide) rfl ?_
  refine x_callI (pc' := 6) K (mX7_its l D cI cO a _ _) rfl gX7_hides_X7_its rfl dsX7_its ⟨rfl, rfl, ⟨Nat.le_of_ble_eq_true rfl, Nat.le_of_ble_eq_true rfl⟩, Nat.le_of_ble_eq_true rfl, Nat.le_of_ble_eq_true rfl⟩ h 7 0 rfl rfl (st := []) rfl rfl (Nat.le_of_ble_eq_true rfl) dX7_hides_3 rfl (fun r3 F3 G3 h => ?_)
  refine x_iconst (pc' := 7) (v := 3) K dX7_hides_6 (by decide) rfl ?_
  refine x_icmp_ne (tgt := 24) (pc' := 10) K dX7_hides_7 rfl rfl (fun c7 => ?_) (fun c7 => ?_)
  · replace h := h.1 c7
    refine x_iconst (pc' := 25) (v := 0) K dX7_hides_24 (by decide) rfl ?_
    exact x_iret (wf := w7 cI a) K h dX7_hides_25
  · replace h := h.2 c7
    refine x_iload_n (pc' := 11) K dX7_hides_10 2 rfl rfl ?_
    refine x_aload_n (pc' := 12) K dX7_hides_11 0 rfl rfl ?_
    refine x_iload_n (pc' := 13) K dX7_hides_12 1 rfl rfl ?_
    refine x_iconst (pc' := 14) (v := 1) K dX7_hides_13 (by decide) rfl ?_
    refine x_callI (pc' := 17) K (mX7_its l D cI cO a _ _) rfl gX7_hides_X7_its rfl dsX7_its ⟨rfl, rfl, ⟨Nat.le_of_ble_eq_true rfl, Nat.le_of_ble_eq_true rfl⟩, Nat.le_of_ble_eq_true rfl, Nat.le_of_ble_eq_true rfl⟩ h 7 0 rfl rfl (st := [.int _]) rfl rfl (Nat.le_of_ble_eq_true rfl) dX7_hides_14 rfl (fun r14 F14 G14 h => ?_)
    refine x_imul (pc' := 18) K dX7_hides_17 rfl ?_
    refine x_bipush (pc' := 20) (v := 9) K dX7_hides_18 (by decide) rfl ?_
    refine x_idiv (pc' := 21) K dX7_hides_20 (by decide) rfl ?_
    refine x_goto (tgt := 25) K dX7_hides_21 rfl ?_
    exact x_iret (wf := w7 cI a) K h dX7_hides_25
/-! X7_smell -/
abbrev rmX7_smell : Room := { frames := 4, cells := 0, slots := 0, locals := 108 }
theorem dsX7_smell : xDesc yX7_smell 1 := by decide +kernel
theorem uX7_smell_f25 : Cond.fieldLink RX7 25 "PigNinthsModel" "named" "[I" ∈ wsX7_smell := nw_in nwl_X7_smell nwe_520 (by decide +kernel)
theorem hinX7_smell_X7 : ∀ w ∈ wsX70, w ∈ wsX7_smell := nw_all nwl_X7_smell nwl_X70 (by decide +kernel)
theorem uX7_smell_f7 : Cond.fieldLink RX7 7 "PigNinthsModel" "s" "[I" ∈ wsX7_smell := nw_in nwl_X7_smell nwe_514 (by decide +kernel)
set_option maxHeartbeats 4000000 in
set_option maxRecDepth 100000 in
theorem mX7_smell (l : Launch) (D : va_G) (cI cO : ClassId) (a : Nat → Nat)  (x1 : Int32) : MI l yX7_smell wsX7_smell rmX7_smell D (xtys cI cO) [.ref (a 0), .int x1] (w7 cI a) (qX7_smell x1) := by
  refine MI_of (cc := cX7_smell) (maxL := 2) (own := RX7) (by decide) rfl rfl (Nat.le_of_ble_eq_true rfl) ?_
  intro p e s m args below meth c A F G Q h K
  refine x_locals [0, 1] (L' := [(0, .ref (a 0)), (1, .int _)]) rfl ?_
  refine x_aload_n (pc' := 1) K dX7_smell_0 0 rfl rfl ?_
  refine x_iconst (pc' := 2) (v := 1) K dX7_smell_1 (by decide) rfl ?_
  refine x_callI (pc' := 5) K (mX7_hasText l D cI cO a _) rfl gX7_smell_X7_hasText rfl dsX7_hasText ⟨rfl, rfl, ⟨Nat.le_of_ble_eq_true rfl, Nat.le_of_ble_eq_true rfl⟩, Nat.le_of_ble_eq_true rfl, Nat.le_of_ble_eq_true rfl⟩ h 7 0 rfl rfl (st := []) rfl rfl (Nat.le_of_ble_eq_true rfl) dX7_smell_2 rfl (fun r2 F2 G2 h => ?_)
  refine x_if_ne (tgt := 18) (pc' := 8) K dX7_smell_5 rfl rfl (fun c5 => ?_) (fun c5 => ?_)
  · replace h := h.1 c5
    refine x_aload_n (pc' := 19) K dX7_smell_18 0 rfl rfl ?_
    refine xw7_0g_named (pc' := 22) K hinX7_smell_X7 uX7_smell_f25 dX7_smell_19 rfl ?_
    refine x_bipush (pc' := 24) (v := 117) K dX7_smell_22 (by decide) rfl ?_
    refine x_aload_n (pc' := 25) K dX7_smell_24 0 rfl rfl ?_
    refine xw7_0g_s (pc' := 28) K hinX7_smell_X7 uX7_smell_f7 dX7_smell_25 rfl ?_
    refine x_bipush (pc' := 30) (v := 24) K dX7_smell_28 (by decide) rfl ?_
    refine x_iload_n (pc' := 31) K dX7_smell_30 1 rfl rfl ?_
    refine x_iadd (pc' := 32) K dX7_smell_31 rfl ?_
    obtain ⟨i32, h⟩ := h
    refine xw7_1l (pc' := 33) K i32 rfl dX7_smell_32 rfl ?_
    refine xw7_6s (pc' := 34) K (j := 117) (xin_of (by decide +kernel)) (by decide +kernel) dX7_smell_33 rfl (fun G33 eG33 => ?_)
    replace h := h G33 eG33
    refine x_aload_n (pc' := 35) K dX7_smell_34 0 rfl rfl ?_
    refine xw7_0g_named (pc' := 38) K hinX7_smell_X7 uX7_smell_f25 dX7_smell_35 rfl ?_
    refine x_bipush (pc' := 40) (v := 97) K dX7_smell_38 (by decide) rfl ?_
    refine x_iload_n (pc' := 41) K dX7_smell_40 1 rfl rfl ?_
    refine xw7_6s (pc' := 42) K (j := 97) (xin_of (by decide +kernel)) (by decide +kernel) dX7_smell_41 rfl (fun G41 eG41 => ?_)
    replace h := h G41 eG41
    refine x_aload_n (pc' := 43) K dX7_smell_42 0 rfl rfl ?_
    refine xw7_0g_named (pc' := 46) K hinX7_smell_X7 uX7_smell_f25 dX7_smell_43 rfl ?_
    refine x_bipush (pc' := 48) (v := 104) K dX7_smell_46 (by decide) rfl ?_
    refine x_aload_n (pc' := 49) K dX7_smell_48 0 rfl rfl ?_
    refine xw7_0g_s (pc' := 52) K hinX7_smell_X7 uX7_smell_f7 dX7_smell_49 rfl ?_
    refine x_iconst (pc' := 53) (v := 3) K dX7_smell_52 (by decide) rfl ?_
    refine xw7_1l (pc' := 54) K (j := 3) (xin_of (by decide +kernel)) (by decide +kernel) dX7_smell_53 rfl ?_
    refine xw7_6s (pc' := 55) K (j := 104) (xin_of (by decide +kernel)) (by decide +kernel) dX7_smell_54 rfl (fun G54 eG54 => ?_)
    replace h := h G54 eG54
    refine x_aload_n (pc' := 56) K dX7_smell_55 0 rfl rfl ?_
    refine x_iconst (pc' := 57) (v := 1) K dX7_smell_56 (by decide) rfl ?_
    refine x_callI (pc' := 60) K (mX7_worked l D cI cO a _) rfl gX7_smell_X7_worked rfl dsX7_worked ⟨rfl, rfl, ⟨Nat.le_of_ble_eq_true rfl, Nat.le_of_ble_eq_true rfl⟩, Nat.le_of_ble_eq_true rfl, Nat.le_of_ble_eq_true rfl⟩ h 7 0 rfl rfl (st := []) rfl rfl (Nat.le_of_ble_eq_true rfl) dX7_smell_57 rfl (fun r57 F57 G57 h => ?_)
    exact x_iret (wf := w7 cI a) K h dX7_smell_60
  · replace h := h.2 c5
    refine x_aload_n (pc' := 9) K dX7_smell_8 0 rfl rfl ?_
    refine xw7_0g_s (pc' := 12) K hinX7_smell_X7 uX7_smell_f7 dX7_smell_9 rfl ?_
    refine x_bipush (pc' := 14) (v := 24) K dX7_smell_12 (by decide) rfl ?_
    refine x_iload_n (pc' := 15) K dX7_smell_14 1 rfl rfl ?_
    refine x_iadd (pc' := 16) K dX7_smell_15 rfl ?_
    obtain ⟨i16, h⟩ := h
    refine xw7_1l (pc' := 17) K i16 rfl dX7_smell_16 rfl ?_
    exact x_iret (wf := w7 cI a) K h dX7_smell_17
/-! X7_next -/
abbrev rmX7_next : Room := { frames := 2, cells := 0, slots := 0, locals := 60 }
theorem dsX7_next : xDesc yX7_next 2 := by decide +kernel
set_option maxHeartbeats 4000000 in
set_option maxRecDepth 100000 in
theorem mX7_next (l : Launch) (D : va_G) (cI cO : ClassId) (a : Nat → Nat)  (x0 : Int32) (x1 : Int32) : MS l yX7_next wsX7_next rmX7_next D (xtys cI cO) [.int x0, .int x1] (qX7_next x0 x1) := by
  refine MS_of (cc := cX7_next) (maxL := 2) (own := RX7) (by decide) rfl rfl (Nat.le_of_ble_eq_true rfl) ?_
  intro p e s m args below meth c A Q h K
  refine x_locals [0, 1] (L' := [(0, .int _), (1, .int _)]) rfl ?_
  refine x_iload_n (pc' := 1) K dX7_next_0 1 rfl rfl ?_
  refine (Classical.em (x1 = (0 : Int32))).elim (fun e1 => ?_) (fun e1_1 => ?_)
  · replace h := h.1 e1
    refine x_tableIn (tgt := 32) (off := 31) K dX7_next_1 (by rw [e1]; decide) (by rw [e1]; decide) (by rw [e1]; rfl) rfl ?_
    refine x_iload_n (pc' := 33) K dX7_next_32 0 rfl rfl ?_
    refine x_iconst (pc' := 34) (v := 4) K dX7_next_33 (by decide) rfl ?_
    refine x_icmp_ge (tgt := 41) (pc' := 37) K dX7_next_34 rfl rfl (fun c34 => ?_) (fun c34 => ?_)
    · replace h := h.1 c34
      refine x_iload_n (pc' := 42) K dX7_next_41 0 rfl rfl ?_
      refine x_iconst (pc' := 43) (v := 4) K dX7_next_42 (by decide) rfl ?_
      refine x_isub (pc' := 44) K dX7_next_43 rfl ?_
      exact x_siret K h dX7_next_44
    · replace h := h.2 c34
      refine x_iconst (pc' := 38) (v := -1) K dX7_next_37 (by decide) rfl ?_
      refine x_goto (tgt := 44) K dX7_next_38 rfl ?_
      exact x_siret K h dX7_next_44
  · replace h := h.2 e1_1
    refine (Classical.em (x1 = (1 : Int32))).elim (fun e1 => ?_) (fun e1_2 => ?_)
    · replace h := h.1 e1
      refine x_tableIn (tgt := 45) (off := 44) K dX7_next_1 (by rw [e1]; decide) (by rw [e1]; decide) (by rw [e1]; rfl) rfl ?_
      refine x_iload_n (pc' := 46) K dX7_next_45 0 rfl rfl ?_
      refine x_iconst (pc' := 47) (v := 4) K dX7_next_46 (by decide) rfl ?_
      refine x_irem (pc' := 48) K dX7_next_47 (by decide) rfl ?_
      refine x_iconst (pc' := 49) (v := 3) K dX7_next_48 (by decide) rfl ?_
      refine x_icmp_ne (tgt := 56) (pc' := 52) K dX7_next_49 rfl rfl (fun c49 => ?_) (fun c49 => ?_)
      · replace h := h.1 c49
        refine x_iload_n (pc' := 57) K dX7_next_56 0 rfl rfl ?_
        refine x_iconst (pc' := 58) (v := 1) K dX7_next_57 (by decide) rfl ?_
        refine x_iadd (pc' := 59) K dX7_next_58 rfl ?_
        exact x_siret K h dX7_next_59
      · replace h := h.2 c49
        refine x_iconst (pc' := 53) (v := -1) K dX7_next_52 (by decide) rfl ?_
        refine x_goto (tgt := 59) K dX7_next_53 rfl ?_
        exact x_siret K h dX7_next_59
    · replace h := h.2 e1_2
      refine (Classical.em (x1 = (2 : Int32))).elim (fun e1 => ?_) (fun e1_3 => ?_)
      · replace h := h.1 e1
        refine x_tableIn (tgt := 60) (off := 59) K dX7_next_1 (by rw [e1]; decide) (by rw [e1]; decide) (by rw [e1]; rfl) rfl ?_
        refine x_iload_n (pc' := 61) K dX7_next_60 0 rfl rfl ?_
        refine x_iconst (pc' := 62) (v := 4) K dX7_next_61 (by decide) rfl ?_
        refine x_iadd (pc' := 63) K dX7_next_62 rfl ?_
        refine x_bipush (pc' := 65) (v := 16) K dX7_next_63 (by decide) rfl ?_
        refine x_icmp_ge (tgt := 74) (pc' := 68) K dX7_next_65 rfl rfl (fun c65 => ?_) (fun c65 => ?_)
        · replace h := h.1 c65
          refine x_iconst (pc' := 75) (v := -1) K dX7_next_74 (by decide) rfl ?_
          exact x_siret K h dX7_next_75
        · replace h := h.2 c65
          refine x_iload_n (pc' := 69) K dX7_next_68 0 rfl rfl ?_
          refine x_iconst (pc' := 70) (v := 4) K dX7_next_69 (by decide) rfl ?_
          refine x_iadd (pc' := 71) K dX7_next_70 rfl ?_
          refine x_goto (tgt := 75) K dX7_next_71 rfl ?_
          exact x_siret K h dX7_next_75
      · replace h := h.2 e1_3
        refine (Classical.em (x1 = (3 : Int32))).elim (fun e1 => ?_) (fun e1_4 => ?_)
        · replace h := h.1 e1
          refine x_tableIn (tgt := 76) (off := 75) K dX7_next_1 (by rw [e1]; decide) (by rw [e1]; decide) (by rw [e1]; rfl) rfl ?_
          refine x_iload_n (pc' := 77) K dX7_next_76 0 rfl rfl ?_
          refine x_iconst (pc' := 78) (v := 4) K dX7_next_77 (by decide) rfl ?_
          refine x_irem (pc' := 79) K dX7_next_78 (by decide) rfl ?_
          refine x_if_ne (tgt := 86) (pc' := 82) K dX7_next_79 rfl rfl (fun c79 => ?_) (fun c79 => ?_)
          · replace h := h.1 c79
            refine x_iload_n (pc' := 87) K dX7_next_86 0 rfl rfl ?_
            refine x_iconst (pc' := 88) (v := 1) K dX7_next_87 (by decide) rfl ?_
            refine x_isub (pc' := 89) K dX7_next_88 rfl ?_
            exact x_siret K h dX7_next_89
          · replace h := h.2 c79
            refine x_iconst (pc' := 83) (v := -1) K dX7_next_82 (by decide) rfl ?_
            refine x_goto (tgt := 89) K dX7_next_83 rfl ?_
            exact x_siret K h dX7_next_89
        · replace h := h.2 e1_4
          have f1_1 := xtin (i := 0) e1_1 (by decide)
          have f1_2 := xtin (i := 1) e1_2 (by decide)
          have f1_3 := xtin (i := 2) e1_3 (by decide)
          have f1_4 := xtin (i := 3) e1_4 (by decide)
          refine (Classical.em (x1.toInt < 0 ∨ 3 < x1.toInt)).elim (fun g1 => ?_) (fun g1 => ?_)
          · refine x_tableOut (tgt := 90) K dX7_next_1 g1 rfl ?_
            refine x_iload_n (pc' := 91) K dX7_next_90 0 rfl rfl ?_
            exact x_siret K h dX7_next_91
          · exact absurd g1 (by omega)
/-! X7_bySmell -/
abbrev rmX7_bySmell : Room := { frames := 5, cells := 0, slots := 0, locals := 129 }
theorem dsX7_bySmell : xDesc yX7_bySmell 0 := by decide +kernel
theorem uX7_bySmell_f7 : Cond.fieldLink RX7 7 "PigNinthsModel" "s" "[I" ∈ wsX7_bySmell := nw_in nwl_X7_bySmell nwe_514 (by decide +kernel)
theorem hinX7_bySmell_X7 : ∀ w ∈ wsX70, w ∈ wsX7_bySmell := nw_all nwl_X7_bySmell nwl_X70 (by decide +kernel)
set_option maxHeartbeats 4000000 in
set_option maxRecDepth 100000 in
theorem tX7_bySmell_15 (K : XK p m c cX7_bySmell 6 s args wsX7_bySmell RX7 D (xtys cI cO) A meth (some .int)) {Q : Int32 → xF → xA → Prop} : ∀ (n : Nat), ∀ (x1 : Int32) (x2 : Int32) (x3 : Int32) (F : xF) (G : xA), qX7_bySmell_15 Q n x1 x2 x3 F G → XJ p l e rmX7_bySmell s m args below meth c 0 0 (MQ below (xQi D (w7 cI a) A Q) args s 0 0 A) D (xtys cI cO) A 6 (w7 cI a F G) 15 [(0, .ref (a 0)), (1, .int x1), (2, .int x2), (3, .int x3)] [] := by
  intro n
  induction n with
  | zero =>
    intro x1 x2 x3 F G h
    exact False.elim h
  | succ n ih =>
    intro x1 x2 x3 F G h
    refine x_iload_n (pc' := 16) K dX7_bySmell_15 3 rfl rfl ?_
    refine x_iconst (pc' := 17) (v := 4) K dX7_bySmell_16 (by decide) rfl ?_
    refine x_icmp_ge (tgt := 76) (pc' := 20) K dX7_bySmell_17 rfl rfl (fun c17 => ?_) (fun c17 => ?_)
    · replace h := h.1 c17
      refine x_iload_n (pc' := 77) K dX7_bySmell_76 1 rfl rfl ?_
      exact x_iret (wf := w7 cI a) K h dX7_bySmell_77
    · replace h := h.2 c17
      refine x_aload_n (pc' := 21) K dX7_bySmell_20 0 rfl rfl ?_
      refine xw7_0g_s (pc' := 24) K hinX7_bySmell_X7 uX7_bySmell_f7 dX7_bySmell_21 rfl ?_
      refine x_iconst (pc' := 25) (v := 2) K dX7_bySmell_24 (by decide) rfl ?_
      refine xw7_1l (pc' := 26) K (j := 2) (xin_of (by decide +kernel)) (by decide +kernel) dX7_bySmell_25 rfl ?_
      refine x_iload_n (pc' := 27) K dX7_bySmell_26 3 rfl rfl ?_
      refine x_callS (pc' := 30) K (mX7_next l D cI cO a _ _) rfl gX7_bySmell_X7_next dsX7_next ⟨rfl, rfl, ⟨Nat.le_of_ble_eq_true rfl, Nat.le_of_ble_eq_true rfl⟩, Nat.le_of_ble_eq_true rfl, Nat.le_of_ble_eq_true rfl⟩ h (st := []) rfl rfl (Nat.le_of_ble_eq_true rfl) dX7_bySmell_27 rfl (fun r27 h => ?_)
      refine x_istore (pc' := 32) (i := 4) K dX7_bySmell_30 (by decide) [1, 2, 3, 4, 0] (L' := [(0, .ref (a 0)), (1, .int _), (2, .int _), (3, .int _), (4, .int _)]) rfl rfl ?_
      refine x_iload (pc' := 34) K dX7_bySmell_32 4 rfl rfl ?_
      refine x_iconst (pc' := 35) (v := -1) K dX7_bySmell_34 (by decide) rfl ?_
      refine x_icmp_eq (tgt := 70) (pc' := 38) K dX7_bySmell_35 rfl rfl (fun c35 => ?_) (fun c35 => ?_)
      · replace h := h.1 c35
        refine x_iinc (pc' := 73) (v := _ + (1 : Int32)) K dX7_bySmell_70 3 rfl rfl (by decide) [1, 2, 3, 0, 4] (L' := [(0, .ref (a 0)), (1, .int _), (2, .int _), (3, .int _), (4, .int _)]) rfl rfl ?_
        refine x_goto (tgt := 15) K dX7_bySmell_73 rfl ?_
        refine x_locals [0, 1, 2, 3] (L' := [(0, .ref (a 0)), (1, .int _), (2, .int _), (3, .int _)]) rfl ?_
        exact ih _ _ _ _ _ h
      · replace h := h.2 c35
        refine x_aload_n (pc' := 39) K dX7_bySmell_38 0 rfl rfl ?_
        refine x_iload (pc' := 41) K dX7_bySmell_39 4 rfl rfl ?_
        refine x_callI (pc' := 44) K (mX7_smell l D cI cO a _) rfl gX7_bySmell_X7_smell rfl dsX7_smell ⟨rfl, rfl, ⟨Nat.le_of_ble_eq_true rfl, Nat.le_of_ble_eq_true rfl⟩, Nat.le_of_ble_eq_true rfl, Nat.le_of_ble_eq_true rfl⟩ h 7 0 rfl rfl (st := []) rfl rfl (Nat.le_of_ble_eq_true rfl) dX7_bySmell_41 rfl (fun r41 F41 G41 h => ?_)
        refine x_istore (pc' := 46) (i := 5) K dX7_bySmell_44 (by decide) [1, 2, 3, 4, 5, 0] (L' := [(0, .ref (a 0)), (1, .int _), (2, .int _), (3, .int _), (4, .int _), (5, .int _)]) rfl rfl ?_
        refine x_iload (pc' := 48) K dX7_bySmell_46 5 rfl rfl ?_
        refine x_iload_n (pc' := 49) K dX7_bySmell_48 2 rfl rfl ?_
        refine x_icmp_gt (tgt := 64) (pc' := 52) K dX7_bySmell_49 rfl rfl (fun c49 => ?_) (fun c49 => ?_)
        · replace h := h.1 c49
          refine x_iload (pc' := 66) K dX7_bySmell_64 4 rfl rfl ?_
          refine x_istore_n (pc' := 67) (i := 1) K dX7_bySmell_66 rfl (by decide) [1, 0, 2, 3, 4, 5] (L' := [(0, .ref (a 0)), (1, .int _), (2, .int _), (3, .int _), (4, .int _), (5, .int _)]) rfl rfl ?_
          refine x_iload (pc' := 69) K dX7_bySmell_67 5 rfl rfl ?_
          refine x_istore_n (pc' := 70) (i := 2) K dX7_bySmell_69 rfl (by decide) [1, 2, 0, 3, 4, 5] (L' := [(0, .ref (a 0)), (1, .int _), (2, .int _), (3, .int _), (4, .int _), (5, .int _)]) rfl rfl ?_
          refine x_iinc (pc' := 73) (v := _ + (1 : Int32)) K dX7_bySmell_70 3 rfl rfl (by decide) [1, 2, 3, 0, 4, 5] (L' := [(0, .ref (a 0)), (1, .int _), (2, .int _), (3, .int _), (4, .int _), (5, .int _)]) rfl rfl ?_
          refine x_goto (tgt := 15) K dX7_bySmell_73 rfl ?_
          refine x_locals [0, 1, 2, 3] (L' := [(0, .ref (a 0)), (1, .int _), (2, .int _), (3, .int _)]) rfl ?_
          exact ih _ _ _ _ _ h
        · replace h := h.2 c49
          refine x_iload (pc' := 54) K dX7_bySmell_52 5 rfl rfl ?_
          refine x_iload_n (pc' := 55) K dX7_bySmell_54 2 rfl rfl ?_
          refine x_icmp_ne (tgt := 70) (pc' := 58) K dX7_bySmell_55 rfl rfl (fun c55 => ?_) (fun c55 => ?_)
          · replace h := h.1 c55
            refine x_iinc (pc' := 73) (v := _ + (1 : Int32)) K dX7_bySmell_70 3 rfl rfl (by decide) [1, 2, 3, 0, 4, 5] (L' := [(0, .ref (a 0)), (1, .int _), (2, .int _), (3, .int _), (4, .int _), (5, .int _)]) rfl rfl ?_
            refine x_goto (tgt := 15) K dX7_bySmell_73 rfl ?_
            refine x_locals [0, 1, 2, 3] (L' := [(0, .ref (a 0)), (1, .int _), (2, .int _), (3, .int _)]) rfl ?_
            exact ih _ _ _ _ _ h
          · replace h := h.2 c55
            refine x_iload (pc' := 60) K dX7_bySmell_58 4 rfl rfl ?_
            refine x_iload_n (pc' := 61) K dX7_bySmell_60 1 rfl rfl ?_
            refine x_icmp_ge (tgt := 70) (pc' := 64) K dX7_bySmell_61 rfl rfl (fun c61 => ?_) (fun c61 => ?_)
            · replace h := h.1 c61
              refine x_iinc (pc' := 73) (v := _ + (1 : Int32)) K dX7_bySmell_70 3 rfl rfl (by decide) [1, 2, 3, 0, 4, 5] (L' := [(0, .ref (a 0)), (1, .int _), (2, .int _), (3, .int _), (4, .int _), (5, .int _)]) rfl rfl ?_
              refine x_goto (tgt := 15) K dX7_bySmell_73 rfl ?_
              refine x_locals [0, 1, 2, 3] (L' := [(0, .ref (a 0)), (1, .int _), (2, .int _), (3, .int _)]) rfl ?_
              exact ih _ _ _ _ _ h
            · replace h := h.2 c61
              refine x_iload (pc' := 66) K dX7_bySmell_64 4 rfl rfl ?_
              refine x_istore_n (pc' := 67) (i := 1) K dX7_bySmell_66 rfl (by decide) [1, 0, 2, 3, 4, 5] (L' := [(0, .ref (a 0)), (1, .int _), (2, .int _), (3, .int _), (4, .int _), (5, .int _)]) rfl rfl ?_
              refine x_iload (pc' := 69) K dX7_bySmell_67 5 rfl rfl ?_
              refine x_istore_n (pc' := 70) (i := 2) K dX7_bySmell_69 rfl (by decide) [1, 2, 0, 3, 4, 5] (L' := [(0, .ref (a 0)), (1, .int _), (2, .int _), (3, .int _), (4, .int _), (5, .int _)]) rfl rfl ?_
              refine x_iinc (pc' := 73) (v := _ + (1 : Int32)) K dX7_bySmell_70 3 rfl rfl (by decide) [1, 2, 3, 0, 4, 5] (L' := [(0, .ref (a 0)), (1, .int _), (2, .int _), (3, .int _), (4, .int _), (5, .int _)]) rfl rfl ?_
              refine x_goto (tgt := 15) K dX7_bySmell_73 rfl ?_
              refine x_locals [0, 1, 2, 3] (L' := [(0, .ref (a 0)), (1, .int _), (2, .int _), (3, .int _)]) rfl ?_
              exact ih _ _ _ _ _ h
set_option maxHeartbeats 4000000 in
set_option maxRecDepth 100000 in
theorem mX7_bySmell (l : Launch) (D : va_G) (cI cO : ClassId) (a : Nat → Nat)   : MI l yX7_bySmell wsX7_bySmell rmX7_bySmell D (xtys cI cO) [.ref (a 0)] (w7 cI a) qX7_bySmell := by
  refine MI_of (cc := cX7_bySmell) (maxL := 6) (own := RX7) (by decide) rfl rfl (Nat.le_of_ble_eq_true rfl) ?_
  intro p e s m args below meth c A F G Q h K
  refine x_locals [0] (L' := [(0, .ref (a 0))]) rfl ?_
  refine x_aload_n (pc' := 1) K dX7_bySmell_0 0 rfl rfl ?_
  refine xw7_0g_s (pc' := 4) K hinX7_bySmell_X7 uX7_bySmell_f7 dX7_bySmell_1 rfl ?_
  refine x_iconst (pc' := 5) (v := 2) K dX7_bySmell_4 (by decide) rfl ?_
  refine xw7_1l (pc' := 6) K (j := 2) (xin_of (by decide +kernel)) (by decide +kernel) dX7_bySmell_5 rfl ?_
  refine x_istore_n (pc' := 7) (i := 1) K dX7_bySmell_6 rfl (by decide) [1, 0] (L' := [(0, .ref (a 0)), (1, .int _)]) rfl rfl ?_
  refine x_aload_n (pc' := 8) K dX7_bySmell_7 0 rfl rfl ?_
  refine x_iload_n (pc' := 9) K dX7_bySmell_8 1 rfl rfl ?_
  refine x_callI (pc' := 12) K (mX7_smell l D cI cO a _) rfl gX7_bySmell_X7_smell rfl dsX7_smell ⟨rfl, rfl, ⟨Nat.le_of_ble_eq_true rfl, Nat.le_of_ble_eq_true rfl⟩, Nat.le_of_ble_eq_true rfl, Nat.le_of_ble_eq_true rfl⟩ h 7 0 rfl rfl (st := []) rfl rfl (Nat.le_of_ble_eq_true rfl) dX7_bySmell_9 rfl (fun r9 F9 G9 h => ?_)
  refine x_istore_n (pc' := 13) (i := 2) K dX7_bySmell_12 rfl (by decide) [1, 2, 0] (L' := [(0, .ref (a 0)), (1, .int _), (2, .int _)]) rfl rfl ?_
  refine x_iconst (pc' := 14) (v := 0) K dX7_bySmell_13 (by decide) rfl ?_
  refine x_istore_n (pc' := 15) (i := 3) K dX7_bySmell_14 rfl (by decide) [1, 2, 3, 0] (L' := [(0, .ref (a 0)), (1, .int _), (2, .int _), (3, .int _)]) rfl rfl ?_
  obtain ⟨n15, h⟩ := h
  exact tX7_bySmell_15 K n15 _ _ _ _ _ h
/-! X7_whoHas -/
abbrev rmX7_whoHas : Room := { frames := 3, cells := 0, slots := 0, locals := 82 }
theorem dsX7_whoHas : xDesc yX7_whoHas 0 := by decide +kernel
theorem uX7_whoHas_f7 : Cond.fieldLink RX7 7 "PigNinthsModel" "s" "[I" ∈ wsX7_whoHas := nw_in nwl_X7_whoHas nwe_514 (by decide +kernel)
theorem hinX7_whoHas_X7 : ∀ w ∈ wsX70, w ∈ wsX7_whoHas := nw_all nwl_X7_whoHas nwl_X70 (by decide +kernel)
set_option maxHeartbeats 4000000 in
set_option maxRecDepth 100000 in
theorem tX7_whoHas_2 (K : XK p m c cX7_whoHas 2 s args wsX7_whoHas RX7 D (xtys cI cO) A meth (some .int)) {Q : Int32 → xF → xA → Prop} : ∀ (n : Nat), ∀ (x1 : Int32) (F : xF) (G : xA), qX7_whoHas_2 Q n x1 F G → XJ p l e rmX7_whoHas s m args below meth c 0 0 (MQ below (xQi D (w7 cI a) A Q) args s 0 0 A) D (xtys cI cO) A 2 (w7 cI a F G) 2 [(0, .ref (a 0)), (1, .int x1)] [] := by
  intro n
  induction n with
  | zero =>
    intro x1 F G h
    exact False.elim h
  | succ n ih =>
    intro x1 F G h
    refine x_aload_n (pc' := 3) K dX7_whoHas_2 0 rfl rfl ?_
    refine x_iload_n (pc' := 4) K dX7_whoHas_3 1 rfl rfl ?_
    refine x_iconst (pc' := 5) (v := 4) K dX7_whoHas_4 (by decide) rfl ?_
    refine x_callI (pc' := 8) K (mX7_its l D cI cO a _ _) rfl gX7_whoHas_X7_its rfl dsX7_its ⟨rfl, rfl, ⟨Nat.le_of_ble_eq_true rfl, Nat.le_of_ble_eq_true rfl⟩, Nat.le_of_ble_eq_true rfl, Nat.le_of_ble_eq_true rfl⟩ h 7 0 rfl rfl (st := []) rfl rfl (Nat.le_of_ble_eq_true rfl) dX7_whoHas_5 rfl (fun r5 F5 G5 h => ?_)
    refine x_aload_n (pc' := 9) K dX7_whoHas_8 0 rfl rfl ?_
    refine xw7_0g_s (pc' := 12) K hinX7_whoHas_X7 uX7_whoHas_f7 dX7_whoHas_9 rfl ?_
    refine x_iconst (pc' := 13) (v := 0) K dX7_whoHas_12 (by decide) rfl ?_
    refine xw7_1l (pc' := 14) K (j := 0) (xin_of (by decide +kernel)) (by decide +kernel) dX7_whoHas_13 rfl ?_
    refine x_bipush (pc' := 16) (v := 9) K dX7_whoHas_14 (by decide) rfl ?_
    refine x_irem (pc' := 17) K dX7_whoHas_16 (by decide) rfl ?_
    refine x_icmp_eq (tgt := 26) (pc' := 20) K dX7_whoHas_17 rfl rfl (fun c17 => ?_) (fun c17 => ?_)
    · replace h := h.1 c17
      refine x_iload_n (pc' := 27) K dX7_whoHas_26 1 rfl rfl ?_
      exact x_iret (wf := w7 cI a) K h dX7_whoHas_27
    · replace h := h.2 c17
      refine x_iinc (pc' := 23) (v := _ + (1 : Int32)) K dX7_whoHas_20 1 rfl rfl (by decide) [1, 0] (L' := [(0, .ref (a 0)), (1, .int _)]) rfl rfl ?_
      refine x_goto (tgt := 2) K dX7_whoHas_23 rfl ?_
      exact ih _ _ _ h
set_option maxHeartbeats 4000000 in
set_option maxRecDepth 100000 in
theorem mX7_whoHas (l : Launch) (D : va_G) (cI cO : ClassId) (a : Nat → Nat)   : MI l yX7_whoHas wsX7_whoHas rmX7_whoHas D (xtys cI cO) [.ref (a 0)] (w7 cI a) qX7_whoHas := by
  refine MI_of (cc := cX7_whoHas) (maxL := 2) (own := RX7) (by decide) rfl rfl (Nat.le_of_ble_eq_true rfl) ?_
  intro p e s m args below meth c A F G Q h K
  refine x_locals [0] (L' := [(0, .ref (a 0))]) rfl ?_
  refine x_iconst (pc' := 1) (v := 0) K dX7_whoHas_0 (by decide) rfl ?_
  refine x_istore_n (pc' := 2) (i := 1) K dX7_whoHas_1 rfl (by decide) [1, 0] (L' := [(0, .ref (a 0)), (1, .int _)]) rfl rfl ?_
  obtain ⟨n2, h⟩ := h
  exact tX7_whoHas_2 K n2 _ _ _ h
/-! X7_digs -/
abbrev rmX7_digs : Room := { frames := 6, cells := 0, slots := 0, locals := 154 }
theorem dsX7_digs : xDesc yX7_digs 1 := by decide +kernel
theorem uX7_digs_f7 : Cond.fieldLink RX7 7 "PigNinthsModel" "s" "[I" ∈ wsX7_digs := nw_in nwl_X7_digs nwe_514 (by decide +kernel)
theorem hinX7_digs_X7 : ∀ w ∈ wsX70, w ∈ wsX7_digs := nw_all nwl_X7_digs nwl_X70 (by decide +kernel)
theorem uX7_digs_f31 : Cond.fieldLink RX7 31 "PigNinthsModel" "dug" "[I" ∈ wsX7_digs := nw_in nwl_X7_digs nwe_522 (by decide +kernel)
set_option maxHeartbeats 4000000 in
set_option maxRecDepth 100000 in
theorem tX7_digs_129 (K : XK p m c cX7_digs 7 s args wsX7_digs RX7 D (xtys cI cO) A meth (some .int)) {Q : Int32 → xF → xA → Prop} {k57 : Int32 → Int32 → Int32 → xF → xA → Prop} (hk57 : ∀ (x1 : Int32) (x2 : Int32) (x3 : Int32) (F : xF) (G : xA), k57 x1 x2 x3 F G → XJ p l e rmX7_digs s m args below meth c 0 0 (MQ below (xQi D (w7 cI a) A Q) args s 0 0 A) D (xtys cI cO) A 7 (w7 cI a F G) 57 [(0, .ref (a 0)), (1, .int x1), (2, .int x2), (3, .int x3)] []) : ∀ (x1 : Int32) (x2 : Int32) (x3 : Int32) (y0 : Int32) (y1 : Int32) (F : xF) (G : xA), qX7_digs_129 Q k57 x1 x2 x3 y0 y1 F G → XJ p l e rmX7_digs s m args below meth c 0 0 (MQ below (xQi D (w7 cI a) A Q) args s 0 0 A) D (xtys cI cO) A 7 (w7 cI a F G) 129 [(0, .ref (a 0)), (1, .int x1), (2, .int x2), (3, .int x3)] [.int y0, .int y1, .ref (a 1)] := by
  intro x1 x2 x3 y0 y1 F G h
  obtain ⟨i129, h⟩ := h
  refine xw7_1s (pc' := 130) K i129 rfl dX7_digs_129 rfl (fun G129 eG129 => ?_)
  replace h := h G129 eG129
  refine x_aload_n (pc' := 131) K dX7_digs_130 0 rfl rfl ?_
  refine xw7_0g_s (pc' := 134) K hinX7_digs_X7 uX7_digs_f7 dX7_digs_131 rfl ?_
  refine x_bipush (pc' := 136) (v := 24) K dX7_digs_134 (by decide) rfl ?_
  refine x_aload_n (pc' := 137) K dX7_digs_136 0 rfl rfl ?_
  refine xw7_0g_s (pc' := 140) K hinX7_digs_X7 uX7_digs_f7 dX7_digs_137 rfl ?_
  refine x_iconst (pc' := 141) (v := 2) K dX7_digs_140 (by decide) rfl ?_
  refine xw7_1l (pc' := 142) K (j := 2) (xin_of (by decide +kernel)) (by decide +kernel) dX7_digs_141 rfl ?_
  refine x_iadd (pc' := 143) K dX7_digs_142 rfl ?_
  obtain ⟨i143, h⟩ := h
  refine xw7_1l (pc' := 144) K i143 rfl dX7_digs_143 rfl ?_
  refine x_iconst (pc' := 145) (v := 0) K dX7_digs_144 (by decide) rfl ?_
  refine x_iconst (pc' := 146) (v := 2) K dX7_digs_145 (by decide) rfl ?_
  refine x_aload_n (pc' := 147) K dX7_digs_146 0 rfl rfl ?_
  refine xw7_0g_s (pc' := 150) K hinX7_digs_X7 uX7_digs_f7 dX7_digs_147 rfl ?_
  refine x_iconst (pc' := 151) (v := 3) K dX7_digs_150 (by decide) rfl ?_
  refine xw7_1l (pc' := 152) K (j := 3) (xin_of (by decide +kernel)) (by decide +kernel) dX7_digs_151 rfl ?_
  refine x_iadd (pc' := 153) K dX7_digs_152 rfl ?_
  refine x_callS (pc' := 156) K (mX7_held l D cI cO a _ _ _) rfl gX7_digs_X7_held dsX7_held ⟨rfl, rfl, ⟨Nat.le_of_ble_eq_true rfl, Nat.le_of_ble_eq_true rfl⟩, Nat.le_of_ble_eq_true rfl, Nat.le_of_ble_eq_true rfl⟩ h (st := []) rfl rfl (Nat.le_of_ble_eq_true rfl) dX7_digs_153 rfl (fun r153 h => ?_)
  refine x_istore (pc' := 158) (i := 6) K dX7_digs_156 (by decide) [1, 2, 3, 4, 0] (L' := [(0, .ref (a 0)), (1, .int _), (2, .int _), (3, .int _), (6, .int _)]) rfl rfl ?_
  refine x_aload_n (pc' := 159) K dX7_digs_158 0 rfl rfl ?_
  refine xw7_0g_s (pc' := 162) K hinX7_digs_X7 uX7_digs_f7 dX7_digs_159 rfl ?_
  refine x_bipush (pc' := 164) (v := 24) K dX7_digs_162 (by decide) rfl ?_
  refine x_aload_n (pc' := 165) K dX7_digs_164 0 rfl rfl ?_
  refine xw7_0g_s (pc' := 168) K hinX7_digs_X7 uX7_digs_f7 dX7_digs_165 rfl ?_
  refine x_iconst (pc' := 169) (v := 2) K dX7_digs_168 (by decide) rfl ?_
  refine xw7_1l (pc' := 170) K (j := 2) (xin_of (by decide +kernel)) (by decide +kernel) dX7_digs_169 rfl ?_
  refine x_iadd (pc' := 171) K dX7_digs_170 rfl ?_
  refine x_dup2 (pc' := 172) K dX7_digs_171 rfl rfl rfl ?_
  obtain ⟨i172, h⟩ := h
  refine xw7_1l (pc' := 173) K i172 rfl dX7_digs_172 rfl ?_
  refine x_iload (pc' := 175) K dX7_digs_173 4 rfl rfl ?_
  refine x_isub (pc' := 176) K dX7_digs_175 rfl ?_
  obtain ⟨i176, h⟩ := h
  refine xw7_1s (pc' := 177) K i176 rfl dX7_digs_176 rfl (fun G176 eG176 => ?_)
  replace h := h G176 eG176
  refine x_aload_n (pc' := 178) K dX7_digs_177 0 rfl rfl ?_
  refine xw7_0g_dug (pc' := 181) K hinX7_digs_X7 uX7_digs_f31 dX7_digs_178 rfl ?_
  refine x_aload_n (pc' := 182) K dX7_digs_181 0 rfl rfl ?_
  refine xw7_0g_s (pc' := 185) K hinX7_digs_X7 uX7_digs_f7 dX7_digs_182 rfl ?_
  refine x_iconst (pc' := 186) (v := 2) K dX7_digs_185 (by decide) rfl ?_
  refine xw7_1l (pc' := 187) K (j := 2) (xin_of (by decide +kernel)) (by decide +kernel) dX7_digs_186 rfl ?_
  refine x_dup2 (pc' := 188) K dX7_digs_187 rfl rfl rfl ?_
  obtain ⟨i188, h⟩ := h
  refine xw7_8l (pc' := 189) K i188 rfl dX7_digs_188 rfl ?_
  refine x_iload (pc' := 191) K dX7_digs_189 4 rfl rfl ?_
  refine x_iadd (pc' := 192) K dX7_digs_191 rfl ?_
  obtain ⟨i192, h⟩ := h
  refine xw7_8s (pc' := 193) K i192 rfl dX7_digs_192 rfl (fun G192 eG192 => ?_)
  replace h := h G192 eG192
  refine x_iload_n (pc' := 194) K dX7_digs_193 2 rfl rfl ?_
  refine x_iload (pc' := 196) K dX7_digs_194 4 rfl rfl ?_
  refine x_iadd (pc' := 197) K dX7_digs_196 rfl ?_
  refine x_istore_n (pc' := 198) (i := 2) K dX7_digs_197 rfl (by decide) [1, 2, 0, 3, 4] (L' := [(0, .ref (a 0)), (1, .int _), (2, .int _), (3, .int _), (6, .int _)]) rfl rfl ?_
  refine x_iinc (pc' := 201) (v := _ + (1 : Int32)) K dX7_digs_198 3 rfl rfl (by decide) [1, 2, 3, 0, 4] (L' := [(0, .ref (a 0)), (1, .int _), (2, .int _), (3, .int _), (6, .int _)]) rfl rfl ?_
  refine x_goto (tgt := 57) K dX7_digs_201 rfl ?_
  refine x_locals [0, 1, 2, 3] (L' := [(0, .ref (a 0)), (1, .int _), (2, .int _), (3, .int _)]) rfl ?_
  exact hk57 _ _ _ _ _ h
set_option maxHeartbeats 4000000 in
set_option maxRecDepth 100000 in
theorem tX7_digs_84 (K : XK p m c cX7_digs 7 s args wsX7_digs RX7 D (xtys cI cO) A meth (some .int)) {Q : Int32 → xF → xA → Prop} {k57 : Int32 → Int32 → Int32 → xF → xA → Prop} (hk57 : ∀ (x1 : Int32) (x2 : Int32) (x3 : Int32) (F : xF) (G : xA), k57 x1 x2 x3 F G → XJ p l e rmX7_digs s m args below meth c 0 0 (MQ below (xQi D (w7 cI a) A Q) args s 0 0 A) D (xtys cI cO) A 7 (w7 cI a F G) 57 [(0, .ref (a 0)), (1, .int x1), (2, .int x2), (3, .int x3)] []) : ∀ (x1 : Int32) (x2 : Int32) (x3 : Int32) (y0 : Int32) (F : xF) (G : xA), qX7_digs_84 Q k57 x1 x2 x3 y0 F G → XJ p l e rmX7_digs s m args below meth c 0 0 (MQ below (xQi D (w7 cI a) A Q) args s 0 0 A) D (xtys cI cO) A 7 (w7 cI a F G) 84 [(0, .ref (a 0)), (1, .int x1), (2, .int x2), (3, .int x3)] [.int y0] := by
  intro x1 x2 x3 y0 F G h
  refine x_istore (pc' := 86) (i := 4) K dX7_digs_84 (by decide) [1, 2, 3, 4, 0] (L' := [(0, .ref (a 0)), (1, .int _), (2, .int _), (3, .int _), (4, .int _)]) rfl rfl ?_
  refine x_iload (pc' := 88) K dX7_digs_86 4 rfl rfl ?_
  refine x_iconst (pc' := 89) (v := 4) K dX7_digs_88 (by decide) rfl ?_
  refine x_icmp_ne (tgt := 96) (pc' := 92) K dX7_digs_89 rfl rfl (fun c89 => ?_) (fun c89 => ?_)
  · replace h := h.1 c89
    refine x_aload_n (pc' := 97) K dX7_digs_96 0 rfl rfl ?_
    refine xw7_0g_s (pc' := 100) K hinX7_digs_X7 uX7_digs_f7 dX7_digs_97 rfl ?_
    refine x_iconst (pc' := 101) (v := 2) K dX7_digs_100 (by decide) rfl ?_
    refine xw7_1l (pc' := 102) K (j := 2) (xin_of (by decide +kernel)) (by decide +kernel) dX7_digs_101 rfl ?_
    refine x_iload (pc' := 104) K dX7_digs_102 4 rfl rfl ?_
    refine x_callS (pc' := 107) K (mX7_next l D cI cO a _ _) rfl gX7_digs_X7_next dsX7_next ⟨rfl, rfl, ⟨Nat.le_of_ble_eq_true rfl, Nat.le_of_ble_eq_true rfl⟩, Nat.le_of_ble_eq_true rfl, Nat.le_of_ble_eq_true rfl⟩ h (st := []) rfl rfl (Nat.le_of_ble_eq_true rfl) dX7_digs_104 rfl (fun r104 h => ?_)
    refine x_istore (pc' := 109) (i := 5) K dX7_digs_107 (by decide) [1, 2, 3, 4, 5, 0] (L' := [(0, .ref (a 0)), (1, .int _), (2, .int _), (3, .int _), (4, .int _), (5, .int _)]) rfl rfl ?_
    refine x_aload_n (pc' := 110) K dX7_digs_109 0 rfl rfl ?_
    refine xw7_0g_s (pc' := 113) K hinX7_digs_X7 uX7_digs_f7 dX7_digs_110 rfl ?_
    refine x_iconst (pc' := 114) (v := 2) K dX7_digs_113 (by decide) rfl ?_
    refine x_iload (pc' := 116) K dX7_digs_114 5 rfl rfl ?_
    refine x_iconst (pc' := 117) (v := -1) K dX7_digs_116 (by decide) rfl ?_
    refine x_icmp_ne (tgt := 127) (pc' := 120) K dX7_digs_117 rfl rfl (fun c117 => ?_) (fun c117 => ?_)
    · replace h := h.1 c117
      refine x_iload (pc' := 129) K dX7_digs_127 5 rfl rfl ?_
      refine x_locals [0, 1, 2, 3] (L' := [(0, .ref (a 0)), (1, .int _), (2, .int _), (3, .int _)]) rfl ?_
      exact tX7_digs_129 K hk57 _ _ _ _ _ _ _ h
    · replace h := h.2 c117
      refine x_aload_n (pc' := 121) K dX7_digs_120 0 rfl rfl ?_
      refine x_callI (pc' := 124) K (mX7_bySmell l D cI cO a) rfl gX7_digs_X7_bySmell rfl dsX7_bySmell ⟨rfl, rfl, ⟨Nat.le_of_ble_eq_true rfl, Nat.le_of_ble_eq_true rfl⟩, Nat.le_of_ble_eq_true rfl, Nat.le_of_ble_eq_true rfl⟩ h 7 0 rfl rfl (st := [.int _, .ref (a 1)]) rfl rfl (Nat.le_of_ble_eq_true rfl) dX7_digs_121 rfl (fun r121 F121 G121 h => ?_)
      refine x_goto (tgt := 129) K dX7_digs_124 rfl ?_
      refine x_locals [0, 1, 2, 3] (L' := [(0, .ref (a 0)), (1, .int _), (2, .int _), (3, .int _)]) rfl ?_
      exact tX7_digs_129 K hk57 _ _ _ _ _ _ _ h
  · replace h := h.2 c89
    refine x_iconst (pc' := 93) (v := -1) K dX7_digs_92 (by decide) rfl ?_
    refine x_goto (tgt := 107) K dX7_digs_93 rfl ?_
    refine x_istore (pc' := 109) (i := 5) K dX7_digs_107 (by decide) [1, 2, 3, 4, 5, 0] (L' := [(0, .ref (a 0)), (1, .int _), (2, .int _), (3, .int _), (4, .int _), (5, .int _)]) rfl rfl ?_
    refine x_aload_n (pc' := 110) K dX7_digs_109 0 rfl rfl ?_
    refine xw7_0g_s (pc' := 113) K hinX7_digs_X7 uX7_digs_f7 dX7_digs_110 rfl ?_
    refine x_iconst (pc' := 114) (v := 2) K dX7_digs_113 (by decide) rfl ?_
    refine x_iload (pc' := 116) K dX7_digs_114 5 rfl rfl ?_
    refine x_iconst (pc' := 117) (v := -1) K dX7_digs_116 (by decide) rfl ?_
    refine x_icmp_ne (tgt := 127) (pc' := 120) K dX7_digs_117 rfl rfl (fun c117 => ?_) (fun c117 => ?_)
    · replace h := h.1 c117
      refine x_iload (pc' := 129) K dX7_digs_127 5 rfl rfl ?_
      refine x_locals [0, 1, 2, 3] (L' := [(0, .ref (a 0)), (1, .int _), (2, .int _), (3, .int _)]) rfl ?_
      exact tX7_digs_129 K hk57 _ _ _ _ _ _ _ h
    · replace h := h.2 c117
      refine x_aload_n (pc' := 121) K dX7_digs_120 0 rfl rfl ?_
      refine x_callI (pc' := 124) K (mX7_bySmell l D cI cO a) rfl gX7_digs_X7_bySmell rfl dsX7_bySmell ⟨rfl, rfl, ⟨Nat.le_of_ble_eq_true rfl, Nat.le_of_ble_eq_true rfl⟩, Nat.le_of_ble_eq_true rfl, Nat.le_of_ble_eq_true rfl⟩ h 7 0 rfl rfl (st := [.int _, .ref (a 1)]) rfl rfl (Nat.le_of_ble_eq_true rfl) dX7_digs_121 rfl (fun r121 F121 G121 h => ?_)
      refine x_goto (tgt := 129) K dX7_digs_124 rfl ?_
      refine x_locals [0, 1, 2, 3] (L' := [(0, .ref (a 0)), (1, .int _), (2, .int _), (3, .int _)]) rfl ?_
      exact tX7_digs_129 K hk57 _ _ _ _ _ _ _ h
set_option maxHeartbeats 4000000 in
set_option maxRecDepth 100000 in
theorem tX7_digs_57 (K : XK p m c cX7_digs 7 s args wsX7_digs RX7 D (xtys cI cO) A meth (some .int)) {Q : Int32 → xF → xA → Prop} : ∀ (n : Nat), ∀ (x1 : Int32) (x2 : Int32) (x3 : Int32) (F : xF) (G : xA), qX7_digs_57 Q n x1 x2 x3 F G → XJ p l e rmX7_digs s m args below meth c 0 0 (MQ below (xQi D (w7 cI a) A Q) args s 0 0 A) D (xtys cI cO) A 7 (w7 cI a F G) 57 [(0, .ref (a 0)), (1, .int x1), (2, .int x2), (3, .int x3)] [] := by
  intro n
  induction n with
  | zero =>
    intro x1 x2 x3 F G h
    exact False.elim h
  | succ n ih =>
    intro x1 x2 x3 F G h
    refine x_iload_n (pc' := 58) K dX7_digs_57 3 rfl rfl ?_
    refine x_aload_n (pc' := 59) K dX7_digs_58 0 rfl rfl ?_
    refine xw7_0g_s (pc' := 62) K hinX7_digs_X7 uX7_digs_f7 dX7_digs_59 rfl ?_
    refine x_iconst (pc' := 63) (v := 3) K dX7_digs_62 (by decide) rfl ?_
    refine xw7_1l (pc' := 64) K (j := 3) (xin_of (by decide +kernel)) (by decide +kernel) dX7_digs_63 rfl ?_
    refine x_icmp_ge (tgt := 204) (pc' := 67) K dX7_digs_64 rfl rfl (fun c64 => ?_) (fun c64 => ?_)
    · replace h := h.1 c64
      refine x_iload_n (pc' := 205) K dX7_digs_204 2 rfl rfl ?_
      exact x_iret (wf := w7 cI a) K h dX7_digs_205
    · replace h := h.2 c64
      refine x_iload_n (pc' := 68) K dX7_digs_67 3 rfl rfl ?_
      refine x_iconst (pc' := 69) (v := 4) K dX7_digs_68 (by decide) rfl ?_
      refine x_icmp_ge (tgt := 83) (pc' := 72) K dX7_digs_69 rfl rfl (fun c69 => ?_) (fun c69 => ?_)
      · replace h := h.1 c69
        refine x_iconst (pc' := 84) (v := 4) K dX7_digs_83 (by decide) rfl ?_
        exact tX7_digs_84 K (fun x1 x2 x3 F G h => ih x1 x2 x3 F G h) _ _ _ _ _ _ h
      · replace h := h.2 c69
        refine x_aload_n (pc' := 73) K dX7_digs_72 0 rfl rfl ?_
        refine x_iload_n (pc' := 74) K dX7_digs_73 1 rfl rfl ?_
        refine x_iconst (pc' := 75) (v := 5) K dX7_digs_74 (by decide) rfl ?_
        refine x_iload_n (pc' := 76) K dX7_digs_75 3 rfl rfl ?_
        refine x_iadd (pc' := 77) K dX7_digs_76 rfl ?_
        refine x_callI (pc' := 80) K (mX7_its l D cI cO a _ _) rfl gX7_digs_X7_its rfl dsX7_its ⟨rfl, rfl, ⟨Nat.le_of_ble_eq_true rfl, Nat.le_of_ble_eq_true rfl⟩, Nat.le_of_ble_eq_true rfl, Nat.le_of_ble_eq_true rfl⟩ h 7 0 rfl rfl (st := []) rfl rfl (Nat.le_of_ble_eq_true rfl) dX7_digs_77 rfl (fun r77 F77 G77 h => ?_)
        refine x_goto (tgt := 84) K dX7_digs_80 rfl ?_
        exact tX7_digs_84 K (fun x1 x2 x3 F G h => ih x1 x2 x3 F G h) _ _ _ _ _ _ h
set_option maxHeartbeats 4000000 in
set_option maxRecDepth 100000 in
theorem tX7_digs_4 (K : XK p m c cX7_digs 7 s args wsX7_digs RX7 D (xtys cI cO) A meth (some .int)) {Q : Int32 → xF → xA → Prop} : ∀ (n : Nat), ∀ (x1 : Int32) (x2 : Int32) (x3 : Int32) (F : xF) (G : xA), qX7_digs_4 Q n x1 x2 x3 F G → XJ p l e rmX7_digs s m args below meth c 0 0 (MQ below (xQi D (w7 cI a) A Q) args s 0 0 A) D (xtys cI cO) A 7 (w7 cI a F G) 4 [(0, .ref (a 0)), (1, .int x1), (2, .int x2), (3, .int x3)] [] := by
  intro n
  induction n with
  | zero =>
    intro x1 x2 x3 F G h
    exact False.elim h
  | succ n ih =>
    intro x1 x2 x3 F G h
    refine x_iload_n (pc' := 5) K dX7_digs_4 3 rfl rfl ?_
    refine x_bipush (pc' := 7) (v := 16) K dX7_digs_5 (by decide) rfl ?_
    refine x_icmp_ge (tgt := 55) (pc' := 10) K dX7_digs_7 rfl rfl (fun c7 => ?_) (fun c7 => ?_)
    · replace h := h.1 c7
      refine x_iconst (pc' := 56) (v := 0) K dX7_digs_55 (by decide) rfl ?_
      refine x_istore_n (pc' := 57) (i := 3) K dX7_digs_56 rfl (by decide) [1, 2, 3, 0] (L' := [(0, .ref (a 0)), (1, .int _), (2, .int _), (3, .int _)]) rfl rfl ?_
      obtain ⟨n57, h⟩ := h
      exact tX7_digs_57 K n57 _ _ _ _ _ h
    · replace h := h.2 c7
      refine x_aload_n (pc' := 11) K dX7_digs_10 0 rfl rfl ?_
      refine xw7_0g_s (pc' := 14) K hinX7_digs_X7 uX7_digs_f7 dX7_digs_11 rfl ?_
      refine x_bipush (pc' := 16) (v := 24) K dX7_digs_14 (by decide) rfl ?_
      refine x_iload_n (pc' := 17) K dX7_digs_16 3 rfl rfl ?_
      refine x_iadd (pc' := 18) K dX7_digs_17 rfl ?_
      refine x_aload_n (pc' := 19) K dX7_digs_18 0 rfl rfl ?_
      refine xw7_0g_s (pc' := 22) K hinX7_digs_X7 uX7_digs_f7 dX7_digs_19 rfl ?_
      refine x_bipush (pc' := 24) (v := 24) K dX7_digs_22 (by decide) rfl ?_
      refine x_iload_n (pc' := 25) K dX7_digs_24 3 rfl rfl ?_
      refine x_iadd (pc' := 26) K dX7_digs_25 rfl ?_
      obtain ⟨i26, h⟩ := h
      refine xw7_1l (pc' := 27) K i26 rfl dX7_digs_26 rfl ?_
      refine x_aload_n (pc' := 28) K dX7_digs_27 0 rfl rfl ?_
      refine xw7_0g_s (pc' := 31) K hinX7_digs_X7 uX7_digs_f7 dX7_digs_28 rfl ?_
      refine x_iconst (pc' := 32) (v := 1) K dX7_digs_31 (by decide) rfl ?_
      refine xw7_1l (pc' := 33) K (j := 1) (xin_of (by decide +kernel)) (by decide +kernel) dX7_digs_32 rfl ?_
      refine x_iadd (pc' := 34) K dX7_digs_33 rfl ?_
      refine x_iconst (pc' := 35) (v := 0) K dX7_digs_34 (by decide) rfl ?_
      refine x_sipush (pc' := 38) (v := 999) K dX7_digs_35 (by decide) rfl ?_
      refine x_callS (pc' := 41) K (mX7_held l D cI cO a _ _ _) rfl gX7_digs_X7_held dsX7_held ⟨rfl, rfl, ⟨Nat.le_of_ble_eq_true rfl, Nat.le_of_ble_eq_true rfl⟩, Nat.le_of_ble_eq_true rfl, Nat.le_of_ble_eq_true rfl⟩ h (st := [.int _, .ref (a 1)]) rfl rfl (Nat.le_of_ble_eq_true rfl) dX7_digs_38 rfl (fun r38 h => ?_)
      obtain ⟨i41, h⟩ := h
      refine xw7_1s (pc' := 42) K i41 rfl dX7_digs_41 rfl (fun G41 eG41 => ?_)
      replace h := h G41 eG41
      refine x_aload_n (pc' := 43) K dX7_digs_42 0 rfl rfl ?_
      refine xw7_0g_dug (pc' := 46) K hinX7_digs_X7 uX7_digs_f31 dX7_digs_43 rfl ?_
      refine x_iload_n (pc' := 47) K dX7_digs_46 3 rfl rfl ?_
      refine x_iconst (pc' := 48) (v := 0) K dX7_digs_47 (by decide) rfl ?_
      obtain ⟨i48, h⟩ := h
      refine xw7_8s (pc' := 49) K i48 rfl dX7_digs_48 rfl (fun G48 eG48 => ?_)
      replace h := h G48 eG48
      refine x_iinc (pc' := 52) (v := _ + (1 : Int32)) K dX7_digs_49 3 rfl rfl (by decide) [1, 2, 3, 0] (L' := [(0, .ref (a 0)), (1, .int _), (2, .int _), (3, .int _)]) rfl rfl ?_
      refine x_goto (tgt := 4) K dX7_digs_52 rfl ?_
      exact ih _ _ _ _ _ h
set_option maxHeartbeats 4000000 in
set_option maxRecDepth 100000 in
theorem mX7_digs (l : Launch) (D : va_G) (cI cO : ClassId) (a : Nat → Nat)  (x1 : Int32) : MI l yX7_digs wsX7_digs rmX7_digs D (xtys cI cO) [.ref (a 0), .int x1] (w7 cI a) (qX7_digs x1) := by
  refine MI_of (cc := cX7_digs) (maxL := 7) (own := RX7) (by decide) rfl rfl (Nat.le_of_ble_eq_true rfl) ?_
  intro p e s m args below meth c A F G Q h K
  refine x_locals [0, 1] (L' := [(0, .ref (a 0)), (1, .int _)]) rfl ?_
  refine x_iconst (pc' := 1) (v := 0) K dX7_digs_0 (by decide) rfl ?_
  refine x_istore_n (pc' := 2) (i := 2) K dX7_digs_1 rfl (by decide) [1, 2, 0] (L' := [(0, .ref (a 0)), (1, .int _), (2, .int _)]) rfl rfl ?_
  refine x_iconst (pc' := 3) (v := 0) K dX7_digs_2 (by decide) rfl ?_
  refine x_istore_n (pc' := 4) (i := 3) K dX7_digs_3 rfl (by decide) [1, 2, 3, 0] (L' := [(0, .ref (a 0)), (1, .int _), (2, .int _), (3, .int _)]) rfl rfl ?_
  obtain ⟨n4, h⟩ := h
  exact tX7_digs_4 K n4 _ _ _ _ _ h
/-! X7_gets -/
abbrev rmX7_gets : Room := { frames := 3, cells := 0, slots := 0, locals := 83 }
theorem dsX7_gets : xDesc yX7_gets 2 := by decide +kernel
theorem uX7_gets_k153 : Jvm.Cond.constant RX7 153 (99999999) ∈ wsX7_gets := nw_in nwl_X7_gets nwe_640 (by decide +kernel)
set_option maxHeartbeats 4000000 in
set_option maxRecDepth 100000 in
theorem mX7_gets (l : Launch) (D : va_G) (cI cO : ClassId) (a : Nat → Nat)  (x1 : Int32) (x2 : Int32) : MV l yX7_gets wsX7_gets rmX7_gets D (xtys cI cO) [.ref (a 0), .int x1, .int x2] (w7 cI a) (qX7_gets x1 x2) := by
  refine MV_of (cc := cX7_gets) (maxL := 3) (own := RX7) (by decide) rfl rfl (Nat.le_of_ble_eq_true rfl) ?_
  intro p e s m args below meth c A F G Q h K
  refine x_locals [0, 1, 2] (L' := [(0, .ref (a 0)), (1, .int _), (2, .int _)]) rfl ?_
  refine x_aload_n (pc' := 1) K dX7_gets_0 0 rfl rfl ?_
  refine x_iload_n (pc' := 2) K dX7_gets_1 1 rfl rfl ?_
  refine x_iconst (pc' := 3) (v := 2) K dX7_gets_2 (by decide) rfl ?_
  refine x_aload_n (pc' := 4) K dX7_gets_3 0 rfl rfl ?_
  refine x_iload_n (pc' := 5) K dX7_gets_4 1 rfl rfl ?_
  refine x_iconst (pc' := 6) (v := 2) K dX7_gets_5 (by decide) rfl ?_
  refine x_callI (pc' := 9) K (mX7_its l D cI cO a _ _) rfl gX7_gets_X7_its rfl dsX7_its ⟨rfl, rfl, ⟨Nat.le_of_ble_eq_true rfl, Nat.le_of_ble_eq_true rfl⟩, Nat.le_of_ble_eq_true rfl, Nat.le_of_ble_eq_true rfl⟩ h 7 0 rfl rfl (st := [.int _, .int _, .ref (a 0)]) rfl rfl (Nat.le_of_ble_eq_true rfl) dX7_gets_6 rfl (fun r6 F6 G6 h => ?_)
  refine x_iload_n (pc' := 10) K dX7_gets_9 2 rfl rfl ?_
  refine x_iadd (pc' := 11) K dX7_gets_10 rfl ?_
  refine x_iconst (pc' := 12) (v := 0) K dX7_gets_11 (by decide) rfl ?_
  refine x_ldc (pc' := 14) K dX7_gets_12 uX7_gets_k153 rfl ?_
  refine x_callS (pc' := 17) K (mX7_held l D cI cO a _ _ _) rfl gX7_gets_X7_held dsX7_held ⟨rfl, rfl, ⟨Nat.le_of_ble_eq_true rfl, Nat.le_of_ble_eq_true rfl⟩, Nat.le_of_ble_eq_true rfl, Nat.le_of_ble_eq_true rfl⟩ h (st := [.int _, .int _, .ref (a 0)]) rfl rfl (Nat.le_of_ble_eq_true rfl) dX7_gets_14 rfl (fun r14 h => ?_)
  refine x_callV (pc' := 20) K (mX7_lays1 l D cI cO a _ _ _) rfl gX7_gets_X7_lays1 rfl dsX7_lays1 ⟨rfl, rfl, ⟨Nat.le_of_ble_eq_true rfl, Nat.le_of_ble_eq_true rfl⟩, Nat.le_of_ble_eq_true rfl, Nat.le_of_ble_eq_true rfl⟩ h 7 0 rfl rfl (st := []) rfl rfl (Nat.le_of_ble_eq_true rfl) dX7_gets_17 rfl (fun F17 G17 h => ?_)
  exact x_vret (wf := w7 cI a) K h dX7_gets_20
/-! X7_day -/
abbrev rmX7_day : Room := { frames := 7, cells := 0, slots := 0, locals := 180 }
theorem dsX7_day : xDesc yX7_day 0 := by decide +kernel
theorem uX7_day_k153 : Jvm.Cond.constant RX7 153 (99999999) ∈ wsX7_day := nw_in nwl_X7_day nwe_640 (by decide +kernel)
theorem uX7_day_f7 : Cond.fieldLink RX7 7 "PigNinthsModel" "s" "[I" ∈ wsX7_day := nw_in nwl_X7_day nwe_514 (by decide +kernel)
theorem hinX7_day_X7 : ∀ w ∈ wsX70, w ∈ wsX7_day := nw_all nwl_X7_day nwl_X70 (by decide +kernel)
theorem uX7_day_f34 : Cond.fieldLink RX7 34 "PigNinthsModel" "fedToday" "I" ∈ wsX7_day := nw_in nwl_X7_day nwe_523 (by decide +kernel)
set_option maxHeartbeats 4000000 in
set_option maxRecDepth 100000 in
theorem tX7_day_46 (K : XK p m c cX7_day 6 s args wsX7_day RX7 D (xtys cI cO) A meth (some .int)) {Q : Int32 → xF → xA → Prop} : ∀ (n : Nat), ∀ (x1 : Int32) (x2 : Int32) (x3 : Int32) (x4 : Int32) (x5 : Int32) (F : xF) (G : xA), qX7_day_46 Q n x1 x2 x3 x4 x5 F G → XJ p l e rmX7_day s m args below meth c 0 0 (MQ below (xQi D (w7 cI a) A Q) args s 0 0 A) D (xtys cI cO) A 6 (w7 cI a F G) 46 [(0, .ref (a 0)), (1, .int x1), (2, .int x2), (3, .int x3), (4, .int x4), (5, .int x5)] [] := by
  intro n
  induction n with
  | zero =>
    intro x1 x2 x3 x4 x5 F G h
    exact False.elim h
  | succ n ih =>
    intro x1 x2 x3 x4 x5 F G h
    refine x_iload (pc' := 48) K dX7_day_46 5 rfl rfl ?_
    refine x_bipush (pc' := 50) (v := 9) K dX7_day_48 (by decide) rfl ?_
    refine x_icmp_ge (tgt := 88) (pc' := 53) K dX7_day_50 rfl rfl (fun c50 => ?_) (fun c50 => ?_)
    · replace h := h.1 c50
      refine x_aload_n (pc' := 89) K dX7_day_88 0 rfl rfl ?_
      refine xw7_0g_s (pc' := 92) K hinX7_day_X7 uX7_day_f7 dX7_day_89 rfl ?_
      refine x_iconst (pc' := 93) (v := 3) K dX7_day_92 (by decide) rfl ?_
      refine x_bipush (pc' := 95) (v := 9) K dX7_day_93 (by decide) rfl ?_
      refine x_aload_n (pc' := 96) K dX7_day_95 0 rfl rfl ?_
      refine xw7_0g_fedToday (pc' := 99) K hinX7_day_X7 uX7_day_f34 dX7_day_96 rfl ?_
      refine x_iconst (pc' := 100) (v := -1) K dX7_day_99 (by decide) rfl ?_
      refine x_icmp_ne (tgt := 112) (pc' := 103) K dX7_day_100 rfl rfl (fun c100 => ?_) (fun c100 => ?_)
      · replace h := h.1 c100
        refine x_aload_n (pc' := 113) K dX7_day_112 0 rfl rfl ?_
        refine xw7_0g_fedToday (pc' := 116) K hinX7_day_X7 uX7_day_f34 dX7_day_113 rfl ?_
        refine x_isub (pc' := 117) K dX7_day_116 rfl ?_
        refine xw7_1s (pc' := 118) K (j := 3) (xin_of (by decide +kernel)) (by decide +kernel) dX7_day_117 rfl (fun G117 eG117 => ?_)
        replace h := h G117 eG117
        refine x_aload_n (pc' := 119) K dX7_day_118 0 rfl rfl ?_
        refine xw7_0g_s (pc' := 122) K hinX7_day_X7 uX7_day_f7 dX7_day_119 rfl ?_
        refine x_iconst (pc' := 123) (v := 0) K dX7_day_122 (by decide) rfl ?_
        refine x_dup2 (pc' := 124) K dX7_day_123 rfl rfl rfl ?_
        refine xw7_1l (pc' := 125) K (j := 0) (xin_of (by decide +kernel)) (by decide +kernel) dX7_day_124 rfl ?_
        refine x_iconst (pc' := 126) (v := 1) K dX7_day_125 (by decide) rfl ?_
        refine x_iadd (pc' := 127) K dX7_day_126 rfl ?_
        refine xw7_1s (pc' := 128) K (j := 0) (xin_of (by decide +kernel)) (by decide +kernel) dX7_day_127 rfl (fun G127 eG127 => ?_)
        replace h := h G127 eG127
        refine x_iload_n (pc' := 129) K dX7_day_128 2 rfl rfl ?_
        exact x_iret (wf := w7 cI a) K h dX7_day_129
      · replace h := h.2 c100
        refine x_aload_n (pc' := 104) K dX7_day_103 0 rfl rfl ?_
        refine x_iload_n (pc' := 105) K dX7_day_104 1 rfl rfl ?_
        refine x_iload_n (pc' := 106) K dX7_day_105 2 rfl rfl ?_
        refine x_callI (pc' := 109) K (mX7_feeds l D cI cO a _ _) rfl gX7_day_X7_feeds rfl dsX7_feeds ⟨rfl, rfl, ⟨Nat.le_of_ble_eq_true rfl, Nat.le_of_ble_eq_true rfl⟩, Nat.le_of_ble_eq_true rfl, Nat.le_of_ble_eq_true rfl⟩ h 7 0 rfl rfl (st := [.int _, .int _, .ref (a 1)]) rfl rfl (Nat.le_of_ble_eq_true rfl) dX7_day_106 rfl (fun r106 F106 G106 h => ?_)
        refine x_goto (tgt := 116) K dX7_day_109 rfl ?_
        refine x_isub (pc' := 117) K dX7_day_116 rfl ?_
        refine xw7_1s (pc' := 118) K (j := 3) (xin_of (by decide +kernel)) (by decide +kernel) dX7_day_117 rfl (fun G117 eG117 => ?_)
        replace h := h G117 eG117
        refine x_aload_n (pc' := 119) K dX7_day_118 0 rfl rfl ?_
        refine xw7_0g_s (pc' := 122) K hinX7_day_X7 uX7_day_f7 dX7_day_119 rfl ?_
        refine x_iconst (pc' := 123) (v := 0) K dX7_day_122 (by decide) rfl ?_
        refine x_dup2 (pc' := 124) K dX7_day_123 rfl rfl rfl ?_
        refine xw7_1l (pc' := 125) K (j := 0) (xin_of (by decide +kernel)) (by decide +kernel) dX7_day_124 rfl ?_
        refine x_iconst (pc' := 126) (v := 1) K dX7_day_125 (by decide) rfl ?_
        refine x_iadd (pc' := 127) K dX7_day_126 rfl ?_
        refine xw7_1s (pc' := 128) K (j := 0) (xin_of (by decide +kernel)) (by decide +kernel) dX7_day_127 rfl (fun G127 eG127 => ?_)
        replace h := h G127 eG127
        refine x_iload_n (pc' := 129) K dX7_day_128 2 rfl rfl ?_
        exact x_iret (wf := w7 cI a) K h dX7_day_129
    · replace h := h.2 c50
      refine x_aload_n (pc' := 54) K dX7_day_53 0 rfl rfl ?_
      refine x_iload (pc' := 56) K dX7_day_54 5 rfl rfl ?_
      refine x_iload (pc' := 58) K dX7_day_56 4 rfl rfl ?_
      refine x_bipush (pc' := 60) (v := 9) K dX7_day_58 (by decide) rfl ?_
      refine x_idiv (pc' := 61) K dX7_day_60 (by decide) rfl ?_
      refine x_iload (pc' := 63) K dX7_day_61 5 rfl rfl ?_
      refine x_iload_n (pc' := 64) K dX7_day_63 1 rfl rfl ?_
      refine x_icmp_ne (tgt := 77) (pc' := 67) K dX7_day_64 rfl rfl (fun c64 => ?_) (fun c64 => ?_)
      · replace h := h.1 c64
        refine x_iconst (pc' := 78) (v := 0) K dX7_day_77 (by decide) rfl ?_
        refine x_iadd (pc' := 79) K dX7_day_78 rfl ?_
        refine x_callV (pc' := 82) K (mX7_gets l D cI cO a _ _) rfl gX7_day_X7_gets rfl dsX7_gets ⟨rfl, rfl, ⟨Nat.le_of_ble_eq_true rfl, Nat.le_of_ble_eq_true rfl⟩, Nat.le_of_ble_eq_true rfl, Nat.le_of_ble_eq_true rfl⟩ h 7 0 rfl rfl (st := []) rfl rfl (Nat.le_of_ble_eq_true rfl) dX7_day_79 rfl (fun F79 G79 h => ?_)
        refine x_iinc (pc' := 85) (v := _ + (1 : Int32)) K dX7_day_82 5 rfl rfl (by decide) [1, 2, 3, 4, 5, 0] (L' := [(0, .ref (a 0)), (1, .int _), (2, .int _), (3, .int _), (4, .int _), (5, .int _)]) rfl rfl ?_
        refine x_goto (tgt := 46) K dX7_day_85 rfl ?_
        exact ih _ _ _ _ _ _ _ h
      · replace h := h.2 c64
        refine x_iload (pc' := 69) K dX7_day_67 4 rfl rfl ?_
        refine x_bipush (pc' := 71) (v := 9) K dX7_day_69 (by decide) rfl ?_
        refine x_irem (pc' := 72) K dX7_day_71 (by decide) rfl ?_
        refine x_iload_n (pc' := 73) K dX7_day_72 3 rfl rfl ?_
        refine x_iadd (pc' := 74) K dX7_day_73 rfl ?_
        refine x_goto (tgt := 78) K dX7_day_74 rfl ?_
        refine x_iadd (pc' := 79) K dX7_day_78 rfl ?_
        refine x_callV (pc' := 82) K (mX7_gets l D cI cO a _ _) rfl gX7_day_X7_gets rfl dsX7_gets ⟨rfl, rfl, ⟨Nat.le_of_ble_eq_true rfl, Nat.le_of_ble_eq_true rfl⟩, Nat.le_of_ble_eq_true rfl, Nat.le_of_ble_eq_true rfl⟩ h 7 0 rfl rfl (st := []) rfl rfl (Nat.le_of_ble_eq_true rfl) dX7_day_79 rfl (fun F79 G79 h => ?_)
        refine x_iinc (pc' := 85) (v := _ + (1 : Int32)) K dX7_day_82 5 rfl rfl (by decide) [1, 2, 3, 4, 5, 0] (L' := [(0, .ref (a 0)), (1, .int _), (2, .int _), (3, .int _), (4, .int _), (5, .int _)]) rfl rfl ?_
        refine x_goto (tgt := 46) K dX7_day_85 rfl ?_
        exact ih _ _ _ _ _ _ _ h
set_option maxHeartbeats 4000000 in
set_option maxRecDepth 100000 in
theorem mX7_day (l : Launch) (D : va_G) (cI cO : ClassId) (a : Nat → Nat)   : MI l yX7_day wsX7_day rmX7_day D (xtys cI cO) [.ref (a 0)] (w7 cI a) qX7_day := by
  refine MI_of (cc := cX7_day) (maxL := 6) (own := RX7) (by decide) rfl rfl (Nat.le_of_ble_eq_true rfl) ?_
  intro p e s m args below meth c A F G Q h K
  refine x_locals [0] (L' := [(0, .ref (a 0))]) rfl ?_
  refine x_aload_n (pc' := 1) K dX7_day_0 0 rfl rfl ?_
  refine x_callI (pc' := 4) K (mX7_whoHas l D cI cO a) rfl gX7_day_X7_whoHas rfl dsX7_whoHas ⟨rfl, rfl, ⟨Nat.le_of_ble_eq_true rfl, Nat.le_of_ble_eq_true rfl⟩, Nat.le_of_ble_eq_true rfl, Nat.le_of_ble_eq_true rfl⟩ h 7 0 rfl rfl (st := []) rfl rfl (Nat.le_of_ble_eq_true rfl) dX7_day_1 rfl (fun r1 F1 G1 h => ?_)
  refine x_istore_n (pc' := 5) (i := 1) K dX7_day_4 rfl (by decide) [1, 0] (L' := [(0, .ref (a 0)), (1, .int _)]) rfl rfl ?_
  refine x_aload_n (pc' := 6) K dX7_day_5 0 rfl rfl ?_
  refine x_iload_n (pc' := 7) K dX7_day_6 1 rfl rfl ?_
  refine x_callI (pc' := 10) K (mX7_digs l D cI cO a _) rfl gX7_day_X7_digs rfl dsX7_digs ⟨rfl, rfl, ⟨Nat.le_of_ble_eq_true rfl, Nat.le_of_ble_eq_true rfl⟩, Nat.le_of_ble_eq_true rfl, Nat.le_of_ble_eq_true rfl⟩ h 7 0 rfl rfl (st := []) rfl rfl (Nat.le_of_ble_eq_true rfl) dX7_day_7 rfl (fun r7 F7 G7 h => ?_)
  refine x_istore_n (pc' := 11) (i := 2) K dX7_day_10 rfl (by decide) [1, 2, 0] (L' := [(0, .ref (a 0)), (1, .int _), (2, .int _)]) rfl rfl ?_
  refine x_aload_n (pc' := 12) K dX7_day_11 0 rfl rfl ?_
  refine x_iload_n (pc' := 13) K dX7_day_12 1 rfl rfl ?_
  refine x_iload_n (pc' := 14) K dX7_day_13 2 rfl rfl ?_
  refine x_callI (pc' := 17) K (mX7_hides l D cI cO a _ _) rfl gX7_day_X7_hides rfl dsX7_hides ⟨rfl, rfl, ⟨Nat.le_of_ble_eq_true rfl, Nat.le_of_ble_eq_true rfl⟩, Nat.le_of_ble_eq_true rfl, Nat.le_of_ble_eq_true rfl⟩ h 7 0 rfl rfl (st := []) rfl rfl (Nat.le_of_ble_eq_true rfl) dX7_day_14 rfl (fun r14 F14 G14 h => ?_)
  refine x_istore_n (pc' := 18) (i := 3) K dX7_day_17 rfl (by decide) [1, 2, 3, 0] (L' := [(0, .ref (a 0)), (1, .int _), (2, .int _), (3, .int _)]) rfl rfl ?_
  refine x_iload_n (pc' := 19) K dX7_day_18 2 rfl rfl ?_
  refine x_iload_n (pc' := 20) K dX7_day_19 3 rfl rfl ?_
  refine x_isub (pc' := 21) K dX7_day_20 rfl ?_
  refine x_istore (pc' := 23) (i := 4) K dX7_day_21 (by decide) [1, 2, 3, 4, 0] (L' := [(0, .ref (a 0)), (1, .int _), (2, .int _), (3, .int _), (4, .int _)]) rfl rfl ?_
  refine x_aload_n (pc' := 24) K dX7_day_23 0 rfl rfl ?_
  refine x_iload_n (pc' := 25) K dX7_day_24 1 rfl rfl ?_
  refine x_iconst (pc' := 26) (v := 3) K dX7_day_25 (by decide) rfl ?_
  refine x_aload_n (pc' := 27) K dX7_day_26 0 rfl rfl ?_
  refine x_iload_n (pc' := 28) K dX7_day_27 1 rfl rfl ?_
  refine x_iconst (pc' := 29) (v := 3) K dX7_day_28 (by decide) rfl ?_
  refine x_callI (pc' := 32) K (mX7_its l D cI cO a _ _) rfl gX7_day_X7_its rfl dsX7_its ⟨rfl, rfl, ⟨Nat.le_of_ble_eq_true rfl, Nat.le_of_ble_eq_true rfl⟩, Nat.le_of_ble_eq_true rfl, Nat.le_of_ble_eq_true rfl⟩ h 7 0 rfl rfl (st := [.int _, .int _, .ref (a 0)]) rfl rfl (Nat.le_of_ble_eq_true rfl) dX7_day_29 rfl (fun r29 F29 G29 h => ?_)
  refine x_iload_n (pc' := 33) K dX7_day_32 3 rfl rfl ?_
  refine x_iadd (pc' := 34) K dX7_day_33 rfl ?_
  refine x_iconst (pc' := 35) (v := 0) K dX7_day_34 (by decide) rfl ?_
  refine x_ldc (pc' := 37) K dX7_day_35 uX7_day_k153 rfl ?_
  refine x_callS (pc' := 40) K (mX7_held l D cI cO a _ _ _) rfl gX7_day_X7_held dsX7_held ⟨rfl, rfl, ⟨Nat.le_of_ble_eq_true rfl, Nat.le_of_ble_eq_true rfl⟩, Nat.le_of_ble_eq_true rfl, Nat.le_of_ble_eq_true rfl⟩ h (st := [.int _, .int _, .ref (a 0)]) rfl rfl (Nat.le_of_ble_eq_true rfl) dX7_day_37 rfl (fun r37 h => ?_)
  refine x_callV (pc' := 43) K (mX7_lays1 l D cI cO a _ _ _) rfl gX7_day_X7_lays1 rfl dsX7_lays1 ⟨rfl, rfl, ⟨Nat.le_of_ble_eq_true rfl, Nat.le_of_ble_eq_true rfl⟩, Nat.le_of_ble_eq_true rfl, Nat.le_of_ble_eq_true rfl⟩ h 7 0 rfl rfl (st := []) rfl rfl (Nat.le_of_ble_eq_true rfl) dX7_day_40 rfl (fun F40 G40 h => ?_)
  refine x_iconst (pc' := 44) (v := 0) K dX7_day_43 (by decide) rfl ?_
  refine x_istore (pc' := 46) (i := 5) K dX7_day_44 (by decide) [1, 2, 3, 4, 5, 0] (L' := [(0, .ref (a 0)), (1, .int _), (2, .int _), (3, .int _), (4, .int _), (5, .int _)]) rfl rfl ?_
  obtain ⟨n46, h⟩ := h
  exact tX7_day_46 K n46 _ _ _ _ _ _ _ h
/-! X7_go -/
abbrev rmX7_go : Room := { frames := 8, cells := 0, slots := 0, locals := 205 }
theorem dsX7_go : xDesc yX7_go 1 := by decide +kernel
set_option maxHeartbeats 4000000 in
set_option maxRecDepth 100000 in
theorem tX7_go_4 (K : XK p m c cX7_go 4 s args wsX7_go RX7 D (xtys cI cO) A meth (some .int)) {Q : Int32 → xF → xA → Prop} : ∀ (n : Nat), ∀ (x1 : Int32) (x2 : Int32) (x3 : Int32) (F : xF) (G : xA), qX7_go_4 Q n x1 x2 x3 F G → XJ p l e rmX7_go s m args below meth c 0 0 (MQ below (xQi D (w7 cI a) A Q) args s 0 0 A) D (xtys cI cO) A 4 (w7 cI a F G) 4 [(0, .ref (a 0)), (1, .int x1), (2, .int x2), (3, .int x3)] [] := by
  intro n
  induction n with
  | zero =>
    intro x1 x2 x3 F G h
    exact False.elim h
  | succ n ih =>
    intro x1 x2 x3 F G h
    refine x_iload_n (pc' := 5) K dX7_go_4 3 rfl rfl ?_
    refine x_iload_n (pc' := 6) K dX7_go_5 1 rfl rfl ?_
    refine x_icmp_ge (tgt := 22) (pc' := 9) K dX7_go_6 rfl rfl (fun c6 => ?_) (fun c6 => ?_)
    · replace h := h.1 c6
      refine x_iload_n (pc' := 23) K dX7_go_22 2 rfl rfl ?_
      exact x_iret (wf := w7 cI a) K h dX7_go_23
    · replace h := h.2 c6
      refine x_iload_n (pc' := 10) K dX7_go_9 2 rfl rfl ?_
      refine x_aload_n (pc' := 11) K dX7_go_10 0 rfl rfl ?_
      refine x_callI (pc' := 14) K (mX7_day l D cI cO a) rfl gX7_go_X7_day rfl dsX7_day ⟨rfl, rfl, ⟨Nat.le_of_ble_eq_true rfl, Nat.le_of_ble_eq_true rfl⟩, Nat.le_of_ble_eq_true rfl, Nat.le_of_ble_eq_true rfl⟩ h 7 0 rfl rfl (st := [.int _]) rfl rfl (Nat.le_of_ble_eq_true rfl) dX7_go_11 rfl (fun r11 F11 G11 h => ?_)
      refine x_iadd (pc' := 15) K dX7_go_14 rfl ?_
      refine x_istore_n (pc' := 16) (i := 2) K dX7_go_15 rfl (by decide) [1, 2, 0, 3] (L' := [(0, .ref (a 0)), (1, .int _), (2, .int _), (3, .int _)]) rfl rfl ?_
      refine x_iinc (pc' := 19) (v := _ + (1 : Int32)) K dX7_go_16 3 rfl rfl (by decide) [1, 2, 3, 0] (L' := [(0, .ref (a 0)), (1, .int _), (2, .int _), (3, .int _)]) rfl rfl ?_
      refine x_goto (tgt := 4) K dX7_go_19 rfl ?_
      exact ih _ _ _ _ _ h
set_option maxHeartbeats 4000000 in
set_option maxRecDepth 100000 in
theorem mX7_go (l : Launch) (D : va_G) (cI cO : ClassId) (a : Nat → Nat)  (x1 : Int32) : MI l yX7_go wsX7_go rmX7_go D (xtys cI cO) [.ref (a 0), .int x1] (w7 cI a) (qX7_go x1) := by
  refine MI_of (cc := cX7_go) (maxL := 4) (own := RX7) (by decide) rfl rfl (Nat.le_of_ble_eq_true rfl) ?_
  intro p e s m args below meth c A F G Q h K
  refine x_locals [0, 1] (L' := [(0, .ref (a 0)), (1, .int _)]) rfl ?_
  refine x_iconst (pc' := 1) (v := 0) K dX7_go_0 (by decide) rfl ?_
  refine x_istore_n (pc' := 2) (i := 2) K dX7_go_1 rfl (by decide) [1, 2, 0] (L' := [(0, .ref (a 0)), (1, .int _), (2, .int _)]) rfl rfl ?_
  refine x_iconst (pc' := 3) (v := 0) K dX7_go_2 (by decide) rfl ?_
  refine x_istore_n (pc' := 4) (i := 3) K dX7_go_3 rfl (by decide) [1, 2, 3, 0] (L' := [(0, .ref (a 0)), (1, .int _), (2, .int _), (3, .int _)]) rfl rfl ?_
  obtain ⟨n4, h⟩ := h
  exact tX7_go_4 K n4 _ _ _ _ _ h
/-! X7_oak -/
abbrev rmX7_oak : Room := { frames := 4, cells := 0, slots := 0, locals := 102 }
theorem dsX7_oak : xDesc yX7_oak 3 := by decide +kernel
set_option maxHeartbeats 4000000 in
set_option maxRecDepth 100000 in
theorem tX7_oak_30 (K : XK p m c cX7_oak 4 s args wsX7_oak RX7 D (xtys cI cO) A meth (some .int)) {Q : Int32 → xF → xA → Prop} : ∀ (x1 : Int32) (x2 : Int32) (x3 : Int32) (y0 : Int32) (y1 : Int32) (y2 : Int32) (F : xF) (G : xA), qX7_oak_30 Q x1 x2 x3 y0 y1 y2 F G → XJ p l e rmX7_oak s m args below meth c 0 0 (MQ below (xQi D (w7 cI a) A Q) args s 0 0 A) D (xtys cI cO) A 4 (w7 cI a F G) 30 [(0, .ref (a 0)), (1, .int x1), (2, .int x2), (3, .int x3)] [.int y0, .int y1, .int y2] := by
  intro x1 x2 x3 y0 y1 y2 F G h
  refine x_callS (pc' := 33) K (mX7_in l D cI cO a _ _ _) rfl gX7_oak_X7_in dsX7_in ⟨rfl, rfl, ⟨Nat.le_of_ble_eq_true rfl, Nat.le_of_ble_eq_true rfl⟩, Nat.le_of_ble_eq_true rfl, Nat.le_of_ble_eq_true rfl⟩ h (st := []) rfl rfl (Nat.le_of_ble_eq_true rfl) dX7_oak_30 rfl (fun r30 h => ?_)
  refine x_if_ne (tgt := 42) (pc' := 36) K dX7_oak_33 rfl rfl (fun c33 => ?_) (fun c33 => ?_)
  · replace h := h.1 c33
    refine x_aload_n (pc' := 43) K dX7_oak_42 0 rfl rfl ?_
    refine x_bipush (pc' := 45) (v := 8) K dX7_oak_43 (by decide) rfl ?_
    refine x_bipush (pc' := 47) (v := 16) K dX7_oak_45 (by decide) rfl ?_
    refine x_iload_n (pc' := 48) K dX7_oak_47 2 rfl rfl ?_
    refine x_imul (pc' := 49) K dX7_oak_48 rfl ?_
    refine x_iadd (pc' := 50) K dX7_oak_49 rfl ?_
    refine x_iload_n (pc' := 51) K dX7_oak_50 1 rfl rfl ?_
    refine x_iadd (pc' := 52) K dX7_oak_51 rfl ?_
    refine x_iload_n (pc' := 53) K dX7_oak_52 3 rfl rfl ?_
    refine x_callI (pc' := 56) K (mX7_change1 l D cI cO a _ _) rfl gX7_oak_X7_change1 rfl dsX7_change1 ⟨rfl, rfl, ⟨Nat.le_of_ble_eq_true rfl, Nat.le_of_ble_eq_true rfl⟩, Nat.le_of_ble_eq_true rfl, Nat.le_of_ble_eq_true rfl⟩ h 7 0 rfl rfl (st := []) rfl rfl (Nat.le_of_ble_eq_true rfl) dX7_oak_53 rfl (fun r53 F53 G53 h => ?_)
    exact x_iret (wf := w7 cI a) K h dX7_oak_56
  · replace h := h.2 c33
    refine x_aload_n (pc' := 37) K dX7_oak_36 0 rfl rfl ?_
    refine x_iconst (pc' := 38) (v := 1) K dX7_oak_37 (by decide) rfl ?_
    refine x_callI (pc' := 41) K (mX7_error l D cI cO a _) rfl gX7_oak_X7_error rfl dsX7_error ⟨rfl, rfl, ⟨Nat.le_of_ble_eq_true rfl, Nat.le_of_ble_eq_true rfl⟩, Nat.le_of_ble_eq_true rfl, Nat.le_of_ble_eq_true rfl⟩ h 7 0 rfl rfl (st := []) rfl rfl (Nat.le_of_ble_eq_true rfl) dX7_oak_38 rfl (fun r38 F38 G38 h => ?_)
    exact x_iret (wf := w7 cI a) K h dX7_oak_41
set_option maxHeartbeats 4000000 in
set_option maxRecDepth 100000 in
theorem mX7_oak (l : Launch) (D : va_G) (cI cO : ClassId) (a : Nat → Nat)  (x1 : Int32) (x2 : Int32) (x3 : Int32) : MI l yX7_oak wsX7_oak rmX7_oak D (xtys cI cO) [.ref (a 0), .int x1, .int x2, .int x3] (w7 cI a) (qX7_oak x1 x2 x3) := by
  refine MI_of (cc := cX7_oak) (maxL := 4) (own := RX7) (by decide) rfl rfl (Nat.le_of_ble_eq_true rfl) ?_
  intro p e s m args below meth c A F G Q h K
  refine x_locals [0, 1, 2, 3] (L' := [(0, .ref (a 0)), (1, .int _), (2, .int _), (3, .int _)]) rfl ?_
  refine x_iload_n (pc' := 1) K dX7_oak_0 1 rfl rfl ?_
  refine x_callS (pc' := 4) K (mX7_isOak l D cI cO a _) rfl gX7_oak_X7_isOak dsX7_isOak ⟨rfl, rfl, ⟨Nat.le_of_ble_eq_true rfl, Nat.le_of_ble_eq_true rfl⟩, Nat.le_of_ble_eq_true rfl, Nat.le_of_ble_eq_true rfl⟩ h (st := []) rfl rfl (Nat.le_of_ble_eq_true rfl) dX7_oak_1 rfl (fun r1 h => ?_)
  refine x_if_eq (tgt := 36) (pc' := 7) K dX7_oak_4 rfl rfl (fun c4 => ?_) (fun c4 => ?_)
  · replace h := h.1 c4
    refine x_aload_n (pc' := 37) K dX7_oak_36 0 rfl rfl ?_
    refine x_iconst (pc' := 38) (v := 1) K dX7_oak_37 (by decide) rfl ?_
    refine x_callI (pc' := 41) K (mX7_error l D cI cO a _) rfl gX7_oak_X7_error rfl dsX7_error ⟨rfl, rfl, ⟨Nat.le_of_ble_eq_true rfl, Nat.le_of_ble_eq_true rfl⟩, Nat.le_of_ble_eq_true rfl, Nat.le_of_ble_eq_true rfl⟩ h 7 0 rfl rfl (st := []) rfl rfl (Nat.le_of_ble_eq_true rfl) dX7_oak_38 rfl (fun r38 F38 G38 h => ?_)
    exact x_iret (wf := w7 cI a) K h dX7_oak_41
  · replace h := h.2 c4
    refine x_iload_n (pc' := 8) K dX7_oak_7 2 rfl rfl ?_
    refine x_iconst (pc' := 9) (v := 0) K dX7_oak_8 (by decide) rfl ?_
    refine x_iconst (pc' := 10) (v := 1) K dX7_oak_9 (by decide) rfl ?_
    refine x_callS (pc' := 13) K (mX7_in l D cI cO a _ _ _) rfl gX7_oak_X7_in dsX7_in ⟨rfl, rfl, ⟨Nat.le_of_ble_eq_true rfl, Nat.le_of_ble_eq_true rfl⟩, Nat.le_of_ble_eq_true rfl, Nat.le_of_ble_eq_true rfl⟩ h (st := []) rfl rfl (Nat.le_of_ble_eq_true rfl) dX7_oak_10 rfl (fun r10 h => ?_)
    refine x_if_eq (tgt := 36) (pc' := 16) K dX7_oak_13 rfl rfl (fun c13 => ?_) (fun c13 => ?_)
    · replace h := h.1 c13
      refine x_aload_n (pc' := 37) K dX7_oak_36 0 rfl rfl ?_
      refine x_iconst (pc' := 38) (v := 1) K dX7_oak_37 (by decide) rfl ?_
      refine x_callI (pc' := 41) K (mX7_error l D cI cO a _) rfl gX7_oak_X7_error rfl dsX7_error ⟨rfl, rfl, ⟨Nat.le_of_ble_eq_true rfl, Nat.le_of_ble_eq_true rfl⟩, Nat.le_of_ble_eq_true rfl, Nat.le_of_ble_eq_true rfl⟩ h 7 0 rfl rfl (st := []) rfl rfl (Nat.le_of_ble_eq_true rfl) dX7_oak_38 rfl (fun r38 F38 G38 h => ?_)
      exact x_iret (wf := w7 cI a) K h dX7_oak_41
    · replace h := h.2 c13
      refine x_iload_n (pc' := 17) K dX7_oak_16 3 rfl rfl ?_
      refine x_iconst (pc' := 18) (v := 0) K dX7_oak_17 (by decide) rfl ?_
      refine x_iload_n (pc' := 19) K dX7_oak_18 2 rfl rfl ?_
      refine x_if_ne (tgt := 27) (pc' := 22) K dX7_oak_19 rfl rfl (fun c19 => ?_) (fun c19 => ?_)
      · replace h := h.1 c19
        refine x_sipush (pc' := 30) (v := 999) K dX7_oak_27 (by decide) rfl ?_
        exact tX7_oak_30 K _ _ _ _ _ _ _ _ h
      · replace h := h.2 c19
        refine x_bipush (pc' := 24) (v := 8) K dX7_oak_22 (by decide) rfl ?_
        refine x_goto (tgt := 30) K dX7_oak_24 rfl ?_
        exact tX7_oak_30 K _ _ _ _ _ _ _ _ h
/-! X7_oakIs -/
abbrev rmX7_oakIs : Room := { frames := 5, cells := 0, slots := 0, locals := 129 }
theorem dsX7_oakIs : xDesc yX7_oakIs 2 := by decide +kernel
theorem uX7_oakIs_f7 : Cond.fieldLink RX7 7 "PigNinthsModel" "s" "[I" ∈ wsX7_oakIs := nw_in nwl_X7_oakIs nwe_514 (by decide +kernel)
theorem hinX7_oakIs_X7 : ∀ w ∈ wsX70, w ∈ wsX7_oakIs := nw_all nwl_X7_oakIs nwl_X70 (by decide +kernel)
set_option maxHeartbeats 4000000 in
set_option maxRecDepth 100000 in
theorem mX7_oakIs (l : Launch) (D : va_G) (cI cO : ClassId) (a : Nat → Nat)  (x1 : Int32) (x2 : Int32) : MI l yX7_oakIs wsX7_oakIs rmX7_oakIs D (xtys cI cO) [.ref (a 0), .int x1, .int x2] (w7 cI a) (qX7_oakIs x1 x2) := by
  refine MI_of (cc := cX7_oakIs) (maxL := 3) (own := RX7) (by decide) rfl rfl (Nat.le_of_ble_eq_true rfl) ?_
  intro p e s m args below meth c A F G Q h K
  refine x_locals [0, 1, 2] (L' := [(0, .ref (a 0)), (1, .int _), (2, .int _)]) rfl ?_
  refine x_iload_n (pc' := 1) K dX7_oakIs_0 1 rfl rfl ?_
  refine x_callS (pc' := 4) K (mX7_isOak l D cI cO a _) rfl gX7_oakIs_X7_isOak dsX7_isOak ⟨rfl, rfl, ⟨Nat.le_of_ble_eq_true rfl, Nat.le_of_ble_eq_true rfl⟩, Nat.le_of_ble_eq_true rfl, Nat.le_of_ble_eq_true rfl⟩ h (st := []) rfl rfl (Nat.le_of_ble_eq_true rfl) dX7_oakIs_1 rfl (fun r1 h => ?_)
  refine x_if_eq (tgt := 16) (pc' := 7) K dX7_oakIs_4 rfl rfl (fun c4 => ?_) (fun c4 => ?_)
  · replace h := h.1 c4
    refine x_aload_n (pc' := 17) K dX7_oakIs_16 0 rfl rfl ?_
    refine x_iconst (pc' := 18) (v := 1) K dX7_oakIs_17 (by decide) rfl ?_
    refine x_callI (pc' := 21) K (mX7_error l D cI cO a _) rfl gX7_oakIs_X7_error rfl dsX7_error ⟨rfl, rfl, ⟨Nat.le_of_ble_eq_true rfl, Nat.le_of_ble_eq_true rfl⟩, Nat.le_of_ble_eq_true rfl, Nat.le_of_ble_eq_true rfl⟩ h 7 0 rfl rfl (st := []) rfl rfl (Nat.le_of_ble_eq_true rfl) dX7_oakIs_18 rfl (fun r18 F18 G18 h => ?_)
    exact x_iret (wf := w7 cI a) K h dX7_oakIs_21
  · replace h := h.2 c4
    refine x_iload_n (pc' := 8) K dX7_oakIs_7 2 rfl rfl ?_
    refine x_iconst (pc' := 9) (v := 0) K dX7_oakIs_8 (by decide) rfl ?_
    refine x_iconst (pc' := 10) (v := 2) K dX7_oakIs_9 (by decide) rfl ?_
    refine x_callS (pc' := 13) K (mX7_in l D cI cO a _ _ _) rfl gX7_oakIs_X7_in dsX7_in ⟨rfl, rfl, ⟨Nat.le_of_ble_eq_true rfl, Nat.le_of_ble_eq_true rfl⟩, Nat.le_of_ble_eq_true rfl, Nat.le_of_ble_eq_true rfl⟩ h (st := []) rfl rfl (Nat.le_of_ble_eq_true rfl) dX7_oakIs_10 rfl (fun r10 h => ?_)
    refine x_if_ne (tgt := 22) (pc' := 16) K dX7_oakIs_13 rfl rfl (fun c13 => ?_) (fun c13 => ?_)
    · replace h := h.1 c13
      refine x_iload_n (pc' := 23) K dX7_oakIs_22 2 rfl rfl ?_
      refine x_iconst (pc' := 24) (v := 2) K dX7_oakIs_23 (by decide) rfl ?_
      refine x_icmp_ne (tgt := 35) (pc' := 27) K dX7_oakIs_24 rfl rfl (fun c24 => ?_) (fun c24 => ?_)
      · replace h := h.1 c24
        refine x_aload_n (pc' := 36) K dX7_oakIs_35 0 rfl rfl ?_
        refine xw7_0g_s (pc' := 39) K hinX7_oakIs_X7 uX7_oakIs_f7 dX7_oakIs_36 rfl ?_
        refine x_bipush (pc' := 41) (v := 8) K dX7_oakIs_39 (by decide) rfl ?_
        refine x_bipush (pc' := 43) (v := 16) K dX7_oakIs_41 (by decide) rfl ?_
        refine x_iload_n (pc' := 44) K dX7_oakIs_43 2 rfl rfl ?_
        refine x_imul (pc' := 45) K dX7_oakIs_44 rfl ?_
        refine x_iadd (pc' := 46) K dX7_oakIs_45 rfl ?_
        refine x_iload_n (pc' := 47) K dX7_oakIs_46 1 rfl rfl ?_
        refine x_iadd (pc' := 48) K dX7_oakIs_47 rfl ?_
        obtain ⟨i48, h⟩ := h
        refine xw7_1l (pc' := 49) K i48 rfl dX7_oakIs_48 rfl ?_
        exact x_iret (wf := w7 cI a) K h dX7_oakIs_49
      · replace h := h.2 c24
        refine x_aload_n (pc' := 28) K dX7_oakIs_27 0 rfl rfl ?_
        refine x_iload_n (pc' := 29) K dX7_oakIs_28 1 rfl rfl ?_
        refine x_callI (pc' := 32) K (mX7_smell l D cI cO a _) rfl gX7_oakIs_X7_smell rfl dsX7_smell ⟨rfl, rfl, ⟨Nat.le_of_ble_eq_true rfl, Nat.le_of_ble_eq_true rfl⟩, Nat.le_of_ble_eq_true rfl, Nat.le_of_ble_eq_true rfl⟩ h 7 0 rfl rfl (st := []) rfl rfl (Nat.le_of_ble_eq_true rfl) dX7_oakIs_29 rfl (fun r29 F29 G29 h => ?_)
        refine x_goto (tgt := 49) K dX7_oakIs_32 rfl ?_
        exact x_iret (wf := w7 cI a) K h dX7_oakIs_49
    · replace h := h.2 c13
      refine x_aload_n (pc' := 17) K dX7_oakIs_16 0 rfl rfl ?_
      refine x_iconst (pc' := 18) (v := 1) K dX7_oakIs_17 (by decide) rfl ?_
      refine x_callI (pc' := 21) K (mX7_error l D cI cO a _) rfl gX7_oakIs_X7_error rfl dsX7_error ⟨rfl, rfl, ⟨Nat.le_of_ble_eq_true rfl, Nat.le_of_ble_eq_true rfl⟩, Nat.le_of_ble_eq_true rfl, Nat.le_of_ble_eq_true rfl⟩ h 7 0 rfl rfl (st := []) rfl rfl (Nat.le_of_ble_eq_true rfl) dX7_oakIs_18 rfl (fun r18 F18 G18 h => ?_)
      exact x_iret (wf := w7 cI a) K h dX7_oakIs_21
/-! X7_rain -/
abbrev rmX7_rain : Room := { frames := 3, cells := 0, slots := 0, locals := 83 }
theorem dsX7_rain : xDesc yX7_rain 1 := by decide +kernel
set_option maxHeartbeats 4000000 in
set_option maxRecDepth 100000 in
theorem mX7_rain (l : Launch) (D : va_G) (cI cO : ClassId) (a : Nat → Nat)  (x1 : Int32) : MI l yX7_rain wsX7_rain rmX7_rain D (xtys cI cO) [.ref (a 0), .int x1] (w7 cI a) (qX7_rain x1) := by
  refine MI_of (cc := cX7_rain) (maxL := 2) (own := RX7) (by decide) rfl rfl (Nat.le_of_ble_eq_true rfl) ?_
  intro p e s m args below meth c A F G Q h K
  refine x_locals [0, 1] (L' := [(0, .ref (a 0)), (1, .int _)]) rfl ?_
  refine x_iload_n (pc' := 1) K dX7_rain_0 1 rfl rfl ?_
  refine x_iconst (pc' := 2) (v := 0) K dX7_rain_1 (by decide) rfl ?_
  refine x_bipush (pc' := 4) (v := 9) K dX7_rain_2 (by decide) rfl ?_
  refine x_callS (pc' := 7) K (mX7_in l D cI cO a _ _ _) rfl gX7_rain_X7_in dsX7_in ⟨rfl, rfl, ⟨Nat.le_of_ble_eq_true rfl, Nat.le_of_ble_eq_true rfl⟩, Nat.le_of_ble_eq_true rfl, Nat.le_of_ble_eq_true rfl⟩ h (st := []) rfl rfl (Nat.le_of_ble_eq_true rfl) dX7_rain_4 rfl (fun r4 h => ?_)
  refine x_if_eq (tgt := 19) (pc' := 10) K dX7_rain_7 rfl rfl (fun c7 => ?_) (fun c7 => ?_)
  · replace h := h.1 c7
    refine x_aload_n (pc' := 20) K dX7_rain_19 0 rfl rfl ?_
    refine x_iconst (pc' := 21) (v := 1) K dX7_rain_20 (by decide) rfl ?_
    refine x_callI (pc' := 24) K (mX7_error l D cI cO a _) rfl gX7_rain_X7_error rfl dsX7_error ⟨rfl, rfl, ⟨Nat.le_of_ble_eq_true rfl, Nat.le_of_ble_eq_true rfl⟩, Nat.le_of_ble_eq_true rfl, Nat.le_of_ble_eq_true rfl⟩ h 7 0 rfl rfl (st := []) rfl rfl (Nat.le_of_ble_eq_true rfl) dX7_rain_21 rfl (fun r21 F21 G21 h => ?_)
    exact x_iret (wf := w7 cI a) K h dX7_rain_24
  · replace h := h.2 c7
    refine x_aload_n (pc' := 11) K dX7_rain_10 0 rfl rfl ?_
    refine x_iconst (pc' := 12) (v := 1) K dX7_rain_11 (by decide) rfl ?_
    refine x_iload_n (pc' := 13) K dX7_rain_12 1 rfl rfl ?_
    refine x_callI (pc' := 16) K (mX7_change1 l D cI cO a _ _) rfl gX7_rain_X7_change1 rfl dsX7_change1 ⟨rfl, rfl, ⟨Nat.le_of_ble_eq_true rfl, Nat.le_of_ble_eq_true rfl⟩, Nat.le_of_ble_eq_true rfl, Nat.le_of_ble_eq_true rfl⟩ h 7 0 rfl rfl (st := []) rfl rfl (Nat.le_of_ble_eq_true rfl) dX7_rain_13 rfl (fun r13 F13 G13 h => ?_)
    refine x_goto (tgt := 24) K dX7_rain_16 rfl ?_
    exact x_iret (wf := w7 cI a) K h dX7_rain_24
/-! X7_farmer -/
abbrev rmX7_farmer : Room := { frames := 4, cells := 0, slots := 0, locals := 102 }
theorem dsX7_farmer : xDesc yX7_farmer 2 := by decide +kernel
set_option maxHeartbeats 4000000 in
set_option maxRecDepth 100000 in
theorem mX7_farmer (l : Launch) (D : va_G) (cI cO : ClassId) (a : Nat → Nat)  (x1 : Int32) (x2 : Int32) : MI l yX7_farmer wsX7_farmer rmX7_farmer D (xtys cI cO) [.ref (a 0), .int x1, .int x2] (w7 cI a) (qX7_farmer x1 x2) := by
  refine MI_of (cc := cX7_farmer) (maxL := 4) (own := RX7) (by decide) rfl rfl (Nat.le_of_ble_eq_true rfl) ?_
  intro p e s m args below meth c A F G Q h K
  refine x_locals [0, 1, 2] (L' := [(0, .ref (a 0)), (1, .int _), (2, .int _)]) rfl ?_
  refine x_iload_n (pc' := 1) K dX7_farmer_0 1 rfl rfl ?_
  refine x_callS (pc' := 4) K (mX7_isFarmer l D cI cO a _) rfl gX7_farmer_X7_isFarmer dsX7_isFarmer ⟨rfl, rfl, ⟨Nat.le_of_ble_eq_true rfl, Nat.le_of_ble_eq_true rfl⟩, Nat.le_of_ble_eq_true rfl, Nat.le_of_ble_eq_true rfl⟩ h (st := []) rfl rfl (Nat.le_of_ble_eq_true rfl) dX7_farmer_1 rfl (fun r1 h => ?_)
  refine x_if_eq (tgt := 17) (pc' := 7) K dX7_farmer_4 rfl rfl (fun c4 => ?_) (fun c4 => ?_)
  · replace h := h.1 c4
    refine x_aload_n (pc' := 18) K dX7_farmer_17 0 rfl rfl ?_
    refine x_iconst (pc' := 19) (v := 1) K dX7_farmer_18 (by decide) rfl ?_
    refine x_callI (pc' := 22) K (mX7_error l D cI cO a _) rfl gX7_farmer_X7_error rfl dsX7_error ⟨rfl, rfl, ⟨Nat.le_of_ble_eq_true rfl, Nat.le_of_ble_eq_true rfl⟩, Nat.le_of_ble_eq_true rfl, Nat.le_of_ble_eq_true rfl⟩ h 7 0 rfl rfl (st := []) rfl rfl (Nat.le_of_ble_eq_true rfl) dX7_farmer_19 rfl (fun r19 F19 G19 h => ?_)
    exact x_iret (wf := w7 cI a) K h dX7_farmer_22
  · replace h := h.2 c4
    refine x_iload_n (pc' := 8) K dX7_farmer_7 2 rfl rfl ?_
    refine x_iconst (pc' := 9) (v := 0) K dX7_farmer_8 (by decide) rfl ?_
    refine x_bipush (pc' := 11) (v := 69) K dX7_farmer_9 (by decide) rfl ?_
    refine x_callS (pc' := 14) K (mX7_in l D cI cO a _ _ _) rfl gX7_farmer_X7_in dsX7_in ⟨rfl, rfl, ⟨Nat.le_of_ble_eq_true rfl, Nat.le_of_ble_eq_true rfl⟩, Nat.le_of_ble_eq_true rfl, Nat.le_of_ble_eq_true rfl⟩ h (st := []) rfl rfl (Nat.le_of_ble_eq_true rfl) dX7_farmer_11 rfl (fun r11 h => ?_)
    refine x_if_ne (tgt := 23) (pc' := 17) K dX7_farmer_14 rfl rfl (fun c14 => ?_) (fun c14 => ?_)
    · replace h := h.1 c14
      refine x_bipush (pc' := 25) (v := 10) K dX7_farmer_23 (by decide) rfl ?_
      refine x_aload_n (pc' := 26) K dX7_farmer_25 0 rfl rfl ?_
      refine x_iload_n (pc' := 27) K dX7_farmer_26 1 rfl rfl ?_
      refine x_iconst (pc' := 28) (v := 0) K dX7_farmer_27 (by decide) rfl ?_
      refine x_callI (pc' := 31) K (mX7_its l D cI cO a _ _) rfl gX7_farmer_X7_its rfl dsX7_its ⟨rfl, rfl, ⟨Nat.le_of_ble_eq_true rfl, Nat.le_of_ble_eq_true rfl⟩, Nat.le_of_ble_eq_true rfl, Nat.le_of_ble_eq_true rfl⟩ h 7 0 rfl rfl (st := [.int _]) rfl rfl (Nat.le_of_ble_eq_true rfl) dX7_farmer_28 rfl (fun r28 F28 G28 h => ?_)
      refine x_imul (pc' := 32) K dX7_farmer_31 rfl ?_
      refine x_aload_n (pc' := 33) K dX7_farmer_32 0 rfl rfl ?_
      refine x_iload_n (pc' := 34) K dX7_farmer_33 1 rfl rfl ?_
      refine x_iconst (pc' := 35) (v := 1) K dX7_farmer_34 (by decide) rfl ?_
      refine x_callI (pc' := 38) K (mX7_its l D cI cO a _ _) rfl gX7_farmer_X7_its rfl dsX7_its ⟨rfl, rfl, ⟨Nat.le_of_ble_eq_true rfl, Nat.le_of_ble_eq_true rfl⟩, Nat.le_of_ble_eq_true rfl, Nat.le_of_ble_eq_true rfl⟩ h 7 0 rfl rfl (st := [.int _]) rfl rfl (Nat.le_of_ble_eq_true rfl) dX7_farmer_35 rfl (fun r35 F35 G35 h => ?_)
      refine x_iadd (pc' := 39) K dX7_farmer_38 rfl ?_
      refine x_istore_n (pc' := 40) (i := 3) K dX7_farmer_39 rfl (by decide) [1, 2, 3, 0] (L' := [(0, .ref (a 0)), (1, .int _), (2, .int _), (3, .int _)]) rfl rfl ?_
      refine x_aload_n (pc' := 41) K dX7_farmer_40 0 rfl rfl ?_
      refine x_iload_n (pc' := 42) K dX7_farmer_41 1 rfl rfl ?_
      refine x_iconst (pc' := 43) (v := 0) K dX7_farmer_42 (by decide) rfl ?_
      refine x_iload_n (pc' := 44) K dX7_farmer_43 2 rfl rfl ?_
      refine x_bipush (pc' := 46) (v := 10) K dX7_farmer_44 (by decide) rfl ?_
      refine x_idiv (pc' := 47) K dX7_farmer_46 (by decide) rfl ?_
      refine x_callV (pc' := 50) K (mX7_lays1 l D cI cO a _ _ _) rfl gX7_farmer_X7_lays1 rfl dsX7_lays1 ⟨rfl, rfl, ⟨Nat.le_of_ble_eq_true rfl, Nat.le_of_ble_eq_true rfl⟩, Nat.le_of_ble_eq_true rfl, Nat.le_of_ble_eq_true rfl⟩ h 7 0 rfl rfl (st := []) rfl rfl (Nat.le_of_ble_eq_true rfl) dX7_farmer_47 rfl (fun F47 G47 h => ?_)
      refine x_aload_n (pc' := 51) K dX7_farmer_50 0 rfl rfl ?_
      refine x_iload_n (pc' := 52) K dX7_farmer_51 1 rfl rfl ?_
      refine x_iconst (pc' := 53) (v := 1) K dX7_farmer_52 (by decide) rfl ?_
      refine x_iload_n (pc' := 54) K dX7_farmer_53 2 rfl rfl ?_
      refine x_bipush (pc' := 56) (v := 10) K dX7_farmer_54 (by decide) rfl ?_
      refine x_irem (pc' := 57) K dX7_farmer_56 (by decide) rfl ?_
      refine x_callV (pc' := 60) K (mX7_lays1 l D cI cO a _ _ _) rfl gX7_farmer_X7_lays1 rfl dsX7_lays1 ⟨rfl, rfl, ⟨Nat.le_of_ble_eq_true rfl, Nat.le_of_ble_eq_true rfl⟩, Nat.le_of_ble_eq_true rfl, Nat.le_of_ble_eq_true rfl⟩ h 7 0 rfl rfl (st := []) rfl rfl (Nat.le_of_ble_eq_true rfl) dX7_farmer_57 rfl (fun F57 G57 h => ?_)
      refine x_iload_n (pc' := 61) K dX7_farmer_60 3 rfl rfl ?_
      exact x_iret (wf := w7 cI a) K h dX7_farmer_61
    · replace h := h.2 c14
      refine x_aload_n (pc' := 18) K dX7_farmer_17 0 rfl rfl ?_
      refine x_iconst (pc' := 19) (v := 1) K dX7_farmer_18 (by decide) rfl ?_
      refine x_callI (pc' := 22) K (mX7_error l D cI cO a _) rfl gX7_farmer_X7_error rfl dsX7_error ⟨rfl, rfl, ⟨Nat.le_of_ble_eq_true rfl, Nat.le_of_ble_eq_true rfl⟩, Nat.le_of_ble_eq_true rfl, Nat.le_of_ble_eq_true rfl⟩ h 7 0 rfl rfl (st := []) rfl rfl (Nat.le_of_ble_eq_true rfl) dX7_farmer_19 rfl (fun r19 F19 G19 h => ?_)
      exact x_iret (wf := w7 cI a) K h dX7_farmer_22
/-! X7_farmerIs -/
abbrev rmX7_farmerIs : Room := { frames := 4, cells := 0, slots := 0, locals := 102 }
theorem dsX7_farmerIs : xDesc yX7_farmerIs 2 := by decide +kernel
set_option maxHeartbeats 4000000 in
set_option maxRecDepth 100000 in
theorem mX7_farmerIs (l : Launch) (D : va_G) (cI cO : ClassId) (a : Nat → Nat)  (x1 : Int32) (x2 : Int32) : MI l yX7_farmerIs wsX7_farmerIs rmX7_farmerIs D (xtys cI cO) [.ref (a 0), .int x1, .int x2] (w7 cI a) (qX7_farmerIs x1 x2) := by
  refine MI_of (cc := cX7_farmerIs) (maxL := 3) (own := RX7) (by decide) rfl rfl (Nat.le_of_ble_eq_true rfl) ?_
  intro p e s m args below meth c A F G Q h K
  refine x_locals [0, 1, 2] (L' := [(0, .ref (a 0)), (1, .int _), (2, .int _)]) rfl ?_
  refine x_iload_n (pc' := 1) K dX7_farmerIs_0 1 rfl rfl ?_
  refine x_callS (pc' := 4) K (mX7_isFarmer l D cI cO a _) rfl gX7_farmerIs_X7_isFarmer dsX7_isFarmer ⟨rfl, rfl, ⟨Nat.le_of_ble_eq_true rfl, Nat.le_of_ble_eq_true rfl⟩, Nat.le_of_ble_eq_true rfl, Nat.le_of_ble_eq_true rfl⟩ h (st := []) rfl rfl (Nat.le_of_ble_eq_true rfl) dX7_farmerIs_1 rfl (fun r1 h => ?_)
  refine x_if_eq (tgt := 26) (pc' := 7) K dX7_farmerIs_4 rfl rfl (fun c4 => ?_) (fun c4 => ?_)
  · replace h := h.1 c4
    refine x_aload_n (pc' := 27) K dX7_farmerIs_26 0 rfl rfl ?_
    refine x_iconst (pc' := 28) (v := 1) K dX7_farmerIs_27 (by decide) rfl ?_
    refine x_callI (pc' := 31) K (mX7_error l D cI cO a _) rfl gX7_farmerIs_X7_error rfl dsX7_error ⟨rfl, rfl, ⟨Nat.le_of_ble_eq_true rfl, Nat.le_of_ble_eq_true rfl⟩, Nat.le_of_ble_eq_true rfl, Nat.le_of_ble_eq_true rfl⟩ h 7 0 rfl rfl (st := []) rfl rfl (Nat.le_of_ble_eq_true rfl) dX7_farmerIs_28 rfl (fun r28 F28 G28 h => ?_)
    exact x_iret (wf := w7 cI a) K h dX7_farmerIs_31
  · replace h := h.2 c4
    refine x_iload_n (pc' := 8) K dX7_farmerIs_7 2 rfl rfl ?_
    refine x_iconst (pc' := 9) (v := 0) K dX7_farmerIs_8 (by decide) rfl ?_
    refine x_bipush (pc' := 11) (v := 8) K dX7_farmerIs_9 (by decide) rfl ?_
    refine x_callS (pc' := 14) K (mX7_in l D cI cO a _ _ _) rfl gX7_farmerIs_X7_in dsX7_in ⟨rfl, rfl, ⟨Nat.le_of_ble_eq_true rfl, Nat.le_of_ble_eq_true rfl⟩, Nat.le_of_ble_eq_true rfl, Nat.le_of_ble_eq_true rfl⟩ h (st := []) rfl rfl (Nat.le_of_ble_eq_true rfl) dX7_farmerIs_11 rfl (fun r11 h => ?_)
    refine x_if_eq (tgt := 26) (pc' := 17) K dX7_farmerIs_14 rfl rfl (fun c14 => ?_) (fun c14 => ?_)
    · replace h := h.1 c14
      refine x_aload_n (pc' := 27) K dX7_farmerIs_26 0 rfl rfl ?_
      refine x_iconst (pc' := 28) (v := 1) K dX7_farmerIs_27 (by decide) rfl ?_
      refine x_callI (pc' := 31) K (mX7_error l D cI cO a _) rfl gX7_farmerIs_X7_error rfl dsX7_error ⟨rfl, rfl, ⟨Nat.le_of_ble_eq_true rfl, Nat.le_of_ble_eq_true rfl⟩, Nat.le_of_ble_eq_true rfl, Nat.le_of_ble_eq_true rfl⟩ h 7 0 rfl rfl (st := []) rfl rfl (Nat.le_of_ble_eq_true rfl) dX7_farmerIs_28 rfl (fun r28 F28 G28 h => ?_)
      exact x_iret (wf := w7 cI a) K h dX7_farmerIs_31
    · replace h := h.2 c14
      refine x_aload_n (pc' := 18) K dX7_farmerIs_17 0 rfl rfl ?_
      refine x_iload_n (pc' := 19) K dX7_farmerIs_18 1 rfl rfl ?_
      refine x_iload_n (pc' := 20) K dX7_farmerIs_19 2 rfl rfl ?_
      refine x_callI (pc' := 23) K (mX7_its l D cI cO a _ _) rfl gX7_farmerIs_X7_its rfl dsX7_its ⟨rfl, rfl, ⟨Nat.le_of_ble_eq_true rfl, Nat.le_of_ble_eq_true rfl⟩, Nat.le_of_ble_eq_true rfl, Nat.le_of_ble_eq_true rfl⟩ h 7 0 rfl rfl (st := []) rfl rfl (Nat.le_of_ble_eq_true rfl) dX7_farmerIs_20 rfl (fun r20 F20 G20 h => ?_)
      refine x_goto (tgt := 31) K dX7_farmerIs_23 rfl ?_
      exact x_iret (wf := w7 cI a) K h dX7_farmerIs_31
end
