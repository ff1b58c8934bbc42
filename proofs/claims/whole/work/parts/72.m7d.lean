section
variable {p : Program} {l : Launch} {e : Env} {s : State} {m : MethodId} {args : Array Value} {below : List Frame} {meth : Method} {c : Code} {D : va_G} {cI cO : ClassId} {A : Nat → Prop} {a : Nat → Nat} {d : Nat}
/-! X7_behind_9 -/
abbrev rmX7_behind_9 : Room := { frames := 9, cells := 0, slots := 0, locals := 228 }
theorem dsX7_behind : xDesc yX7_behind 1 := by decide +kernel
set_option maxHeartbeats 4000000 in
set_option maxRecDepth 100000 in
theorem tX7_behind_9_13 (K : XK p m c cX7_behind 4 s args wsX7_behind RX7 D (xtys cI cO) A meth none) {Q : xF → xA → Prop} : ∀ (n : Nat), ∀ (x3 : Int32) (F : xF) (G : xA), qX7_behind_9_13 Q n x3 F G → XJ p l e rmX7_behind_9 s m args below meth c 0 0 (MQ below (xQv D (w7 cI a) A Q) args s 0 0 A) D (xtys cI cO) A 4 (w7 cI a F G) 13 [(0, .ref (a 0)), (1, .ref (a 9)), (3, .int x3)] [] := by
  intro n
  induction n with
  | zero =>
    intro x3 F G h
    exact False.elim h
  | succ n ih =>
    intro x3 F G h
    refine x_iload_n (pc' := 14) K dX7_behind_13 2 rfl rfl ?_
    refine x_bipush (pc' := 16) (v := 9) K dX7_behind_14 (by decide) rfl ?_
    refine x_icmp_ge (tgt := 34) (pc' := 19) K dX7_behind_16 rfl rfl (fun c16 => ?_) (fun c16 => ?_)
    · replace h := h.1 c16
      refine x_aload_n (pc' := 35) K dX7_behind_34 0 rfl rfl ?_
      refine x_callV (pc' := 38) K (mX7_layBack l D cI cO a) rfl gX7_behind_X7_layBack rfl dsX7_layBack ⟨rfl, rfl, ⟨Nat.le_of_ble_eq_true rfl, Nat.le_of_ble_eq_true rfl⟩, Nat.le_of_ble_eq_true rfl, Nat.le_of_ble_eq_true rfl⟩ h 7 0 rfl rfl (st := []) rfl rfl (Nat.le_of_ble_eq_true rfl) dX7_behind_35 rfl (fun F35 G35 h => ?_)
      exact x_vret (wf := w7 cI a) K h dX7_behind_38
    · replace h := h.2 c16
      refine x_aload_n (pc' := 20) K dX7_behind_19 1 rfl rfl ?_
      refine x_iload_n (pc' := 21) K dX7_behind_20 2 rfl rfl ?_
      refine x_aload_n (pc' := 22) K dX7_behind_21 0 rfl rfl ?_
      refine x_iload_n (pc' := 23) K dX7_behind_22 2 rfl rfl ?_
      refine x_iconst (pc' := 24) (v := 2) K dX7_behind_23 (by decide) rfl ?_
      refine x_callI (pc' := 27) K (mX7_its l D cI cO a _ _) rfl gX7_behind_X7_its rfl dsX7_its ⟨rfl, rfl, ⟨Nat.le_of_ble_eq_true rfl, Nat.le_of_ble_eq_true rfl⟩, Nat.le_of_ble_eq_true rfl, Nat.le_of_ble_eq_true rfl⟩ h 7 0 rfl rfl (st := [.int _, .ref (a 9)]) rfl rfl (Nat.le_of_ble_eq_true rfl) dX7_behind_24 rfl (fun r24 F24 G24 h => ?_)
      obtain ⟨i27, h⟩ := h
      refine xw7_9s (pc' := 28) K i27 rfl dX7_behind_27 rfl (fun G27 eG27 => ?_)
      replace h := h G27 eG27
      refine x_iinc (pc' := 31) (v := _ + (1 : Int32)) K dX7_behind_28 2 rfl rfl (by decide) [1, 2, 0] (L' := [(0, .ref (a 0)), (1, .ref (a 9)), (3, .int _)]) rfl rfl ?_
      refine x_goto (tgt := 13) K dX7_behind_31 rfl ?_
      exact ih _ _ _ h
set_option maxHeartbeats 4000000 in
set_option maxRecDepth 100000 in
theorem mX7_behind_9 (l : Launch) (D : va_G) (cI cO : ClassId) (a : Nat → Nat)   : MV l yX7_behind wsX7_behind rmX7_behind_9 D (xtys cI cO) [.ref (a 0), .ref (a 9)] (w7 cI a) qX7_behind_9 := by
  refine MV_of (cc := cX7_behind) (maxL := 4) (own := RX7) (by decide) rfl rfl (Nat.le_of_ble_eq_true rfl) ?_
  intro p e s m args below meth c A F G Q h K
  refine x_locals [0, 1] (L' := [(0, .ref (a 0)), (1, .ref (a 9))]) rfl ?_
  refine x_aload_n (pc' := 1) K dX7_behind_0 0 rfl rfl ?_
  refine x_callV (pc' := 4) K (mX7_layDown l D cI cO a) rfl gX7_behind_X7_layDown rfl dsX7_layDown ⟨rfl, rfl, ⟨Nat.le_of_ble_eq_true rfl, Nat.le_of_ble_eq_true rfl⟩, Nat.le_of_ble_eq_true rfl, Nat.le_of_ble_eq_true rfl⟩ h 7 0 rfl rfl (st := []) rfl rfl (Nat.le_of_ble_eq_true rfl) dX7_behind_1 rfl (fun F1 G1 h => ?_)
  refine x_aload_n (pc' := 5) K dX7_behind_4 0 rfl rfl ?_
  refine x_bipush (pc' := 7) (v := 18) K dX7_behind_5 (by decide) rfl ?_
  refine x_callI (pc' := 10) K (mX7_go l D cI cO a _) rfl gX7_behind_X7_go rfl dsX7_go ⟨rfl, rfl, ⟨Nat.le_of_ble_eq_true rfl, Nat.le_of_ble_eq_true rfl⟩, Nat.le_of_ble_eq_true rfl, Nat.le_of_ble_eq_true rfl⟩ h 7 0 rfl rfl (st := []) rfl rfl (Nat.le_of_ble_eq_true rfl) dX7_behind_7 rfl (fun r7 F7 G7 h => ?_)
  refine x_istore_n (pc' := 11) (i := 2) K dX7_behind_10 rfl (by decide) [1, 2, 0] (L' := [(0, .ref (a 0)), (1, .ref (a 9)), (2, .int _)]) rfl rfl ?_
  refine x_iconst (pc' := 12) (v := 0) K dX7_behind_11 (by decide) rfl ?_
  refine x_istore_n (pc' := 13) (i := 3) K dX7_behind_12 rfl (by decide) [1, 2, 3, 0] (L' := [(0, .ref (a 0)), (1, .ref (a 9)), (2, .int _), (3, .int _)]) rfl rfl ?_
  refine x_locals [0, 1, 3] (L' := [(0, .ref (a 0)), (1, .ref (a 9)), (3, .int _)]) rfl ?_
  obtain ⟨n13, h⟩ := h
  exact tX7_behind_9_13 K n13 _ _ _ h
/-! X7_behind_10 -/
abbrev rmX7_behind_10 : Room := { frames := 9, cells := 0, slots := 0, locals := 228 }
set_option maxHeartbeats 4000000 in
set_option maxRecDepth 100000 in
theorem tX7_behind_10_13 (K : XK p m c cX7_behind 4 s args wsX7_behind RX7 D (xtys cI cO) A meth none) {Q : xF → xA → Prop} : ∀ (n : Nat), ∀ (x3 : Int32) (F : xF) (G : xA), qX7_behind_10_13 Q n x3 F G → XJ p l e rmX7_behind_10 s m args below meth c 0 0 (MQ below (xQv D (w7 cI a) A Q) args s 0 0 A) D (xtys cI cO) A 4 (w7 cI a F G) 13 [(0, .ref (a 0)), (1, .ref (a 10)), (3, .int x3)] [] := by
  intro n
  induction n with
  | zero =>
    intro x3 F G h
    exact False.elim h
  | succ n ih =>
    intro x3 F G h
    refine x_iload_n (pc' := 14) K dX7_behind_13 2 rfl rfl ?_
    refine x_bipush (pc' := 16) (v := 9) K dX7_behind_14 (by decide) rfl ?_
    refine x_icmp_ge (tgt := 34) (pc' := 19) K dX7_behind_16 rfl rfl (fun c16 => ?_) (fun c16 => ?_)
    · replace h := h.1 c16
      refine x_aload_n (pc' := 35) K dX7_behind_34 0 rfl rfl ?_
      refine x_callV (pc' := 38) K (mX7_layBack l D cI cO a) rfl gX7_behind_X7_layBack rfl dsX7_layBack ⟨rfl, rfl, ⟨Nat.le_of_ble_eq_true rfl, Nat.le_of_ble_eq_true rfl⟩, Nat.le_of_ble_eq_true rfl, Nat.le_of_ble_eq_true rfl⟩ h 7 0 rfl rfl (st := []) rfl rfl (Nat.le_of_ble_eq_true rfl) dX7_behind_35 rfl (fun F35 G35 h => ?_)
      exact x_vret (wf := w7 cI a) K h dX7_behind_38
    · replace h := h.2 c16
      refine x_aload_n (pc' := 20) K dX7_behind_19 1 rfl rfl ?_
      refine x_iload_n (pc' := 21) K dX7_behind_20 2 rfl rfl ?_
      refine x_aload_n (pc' := 22) K dX7_behind_21 0 rfl rfl ?_
      refine x_iload_n (pc' := 23) K dX7_behind_22 2 rfl rfl ?_
      refine x_iconst (pc' := 24) (v := 2) K dX7_behind_23 (by decide) rfl ?_
      refine x_callI (pc' := 27) K (mX7_its l D cI cO a _ _) rfl gX7_behind_X7_its rfl dsX7_its ⟨rfl, rfl, ⟨Nat.le_of_ble_eq_true rfl, Nat.le_of_ble_eq_true rfl⟩, Nat.le_of_ble_eq_true rfl, Nat.le_of_ble_eq_true rfl⟩ h 7 0 rfl rfl (st := [.int _, .ref (a 10)]) rfl rfl (Nat.le_of_ble_eq_true rfl) dX7_behind_24 rfl (fun r24 F24 G24 h => ?_)
      obtain ⟨i27, h⟩ := h
      refine xw7_10s (pc' := 28) K i27 rfl dX7_behind_27 rfl (fun G27 eG27 => ?_)
      replace h := h G27 eG27
      refine x_iinc (pc' := 31) (v := _ + (1 : Int32)) K dX7_behind_28 2 rfl rfl (by decide) [1, 2, 0] (L' := [(0, .ref (a 0)), (1, .ref (a 10)), (3, .int _)]) rfl rfl ?_
      refine x_goto (tgt := 13) K dX7_behind_31 rfl ?_
      exact ih _ _ _ h
set_option maxHeartbeats 4000000 in
set_option maxRecDepth 100000 in
theorem mX7_behind_10 (l : Launch) (D : va_G) (cI cO : ClassId) (a : Nat → Nat)   : MV l yX7_behind wsX7_behind rmX7_behind_10 D (xtys cI cO) [.ref (a 0), .ref (a 10)] (w7 cI a) qX7_behind_10 := by
  refine MV_of (cc := cX7_behind) (maxL := 4) (own := RX7) (by decide) rfl rfl (Nat.le_of_ble_eq_true rfl) ?_
  intro p e s m args below meth c A F G Q h K
  refine x_locals [0, 1] (L' := [(0, .ref (a 0)), (1, .ref (a 10))]) rfl ?_
  refine x_aload_n (pc' := 1) K dX7_behind_0 0 rfl rfl ?_
  refine x_callV (pc' := 4) K (mX7_layDown l D cI cO a) rfl gX7_behind_X7_layDown rfl dsX7_layDown ⟨rfl, rfl, ⟨Nat.le_of_ble_eq_true rfl, Nat.le_of_ble_eq_true rfl⟩, Nat.le_of_ble_eq_true rfl, Nat.le_of_ble_eq_true rfl⟩ h 7 0 rfl rfl (st := []) rfl rfl (Nat.le_of_ble_eq_true rfl) dX7_behind_1 rfl (fun F1 G1 h => ?_)
  refine x_aload_n (pc' := 5) K dX7_behind_4 0 rfl rfl ?_
  refine x_bipush (pc' := 7) (v := 18) K dX7_behind_5 (by decide) rfl ?_
  refine x_callI (pc' := 10) K (mX7_go l D cI cO a _) rfl gX7_behind_X7_go rfl dsX7_go ⟨rfl, rfl, ⟨Nat.le_of_ble_eq_true rfl, Nat.le_of_ble_eq_true rfl⟩, Nat.le_of_ble_eq_true rfl, Nat.le_of_ble_eq_true rfl⟩ h 7 0 rfl rfl (st := []) rfl rfl (Nat.le_of_ble_eq_true rfl) dX7_behind_7 rfl (fun r7 F7 G7 h => ?_)
  refine x_istore_n (pc' := 11) (i := 2) K dX7_behind_10 rfl (by decide) [1, 2, 0] (L' := [(0, .ref (a 0)), (1, .ref (a 10)), (2, .int _)]) rfl rfl ?_
  refine x_iconst (pc' := 12) (v := 0) K dX7_behind_11 (by decide) rfl ?_
  refine x_istore_n (pc' := 13) (i := 3) K dX7_behind_12 rfl (by decide) [1, 2, 3, 0] (L' := [(0, .ref (a 0)), (1, .ref (a 10)), (2, .int _), (3, .int _)]) rfl rfl ?_
  refine x_locals [0, 1, 3] (L' := [(0, .ref (a 0)), (1, .ref (a 10)), (3, .int _)]) rfl ?_
  obtain ⟨n13, h⟩ := h
  exact tX7_behind_10_13 K n13 _ _ _ h
/-! X7_behindTrade -/
abbrev rmX7_behindTrade : Room := { frames := 10, cells := 0, slots := 0, locals := 251 }
theorem dsX7_behindTrade : xDesc yX7_behindTrade 2 := by decide +kernel
theorem uX7_behindTrade_f41 : Cond.fieldLink RX7 41 "PigNinthsModel" "traded" "[I" ∈ wsX7_behindTrade := nw_in nwl_X7_behindTrade nwe_525 (by decide +kernel)
theorem hinX7_behindTrade_X7 : ∀ w ∈ wsX70, w ∈ wsX7_behindTrade := nw_all nwl_X7_behindTrade nwl_X70 (by decide +kernel)
set_option maxHeartbeats 4000000 in
set_option maxRecDepth 100000 in
theorem mX7_behindTrade (l : Launch) (D : va_G) (cI cO : ClassId) (a : Nat → Nat)  (x1 : Int32) (x2 : Int32) : MV l yX7_behindTrade wsX7_behindTrade rmX7_behindTrade D (xtys cI cO) [.ref (a 0), .int x1, .int x2] (w7 cI a) (qX7_behindTrade x1 x2) := by
  refine MV_of (cc := cX7_behindTrade) (maxL := 3) (own := RX7) (by decide) rfl rfl (Nat.le_of_ble_eq_true rfl) ?_
  intro p e s m args below meth c A F G Q h K
  refine x_locals [0, 1, 2] (L' := [(0, .ref (a 0)), (1, .int _), (2, .int _)]) rfl ?_
  refine x_aload_n (pc' := 1) K dX7_behindTrade_0 0 rfl rfl ?_
  refine x_iload_n (pc' := 2) K dX7_behindTrade_1 1 rfl rfl ?_
  refine x_iload_n (pc' := 3) K dX7_behindTrade_2 2 rfl rfl ?_
  refine x_callV (pc' := 6) K (mX7_trades l D cI cO a _ _) rfl gX7_behindTrade_X7_trades rfl dsX7_trades ⟨rfl, rfl, ⟨Nat.le_of_ble_eq_true rfl, Nat.le_of_ble_eq_true rfl⟩, Nat.le_of_ble_eq_true rfl, Nat.le_of_ble_eq_true rfl⟩ h 7 0 rfl rfl (st := []) rfl rfl (Nat.le_of_ble_eq_true rfl) dX7_behindTrade_3 rfl (fun F3 G3 h => ?_)
  refine x_aload_n (pc' := 7) K dX7_behindTrade_6 0 rfl rfl ?_
  refine x_aload_n (pc' := 8) K dX7_behindTrade_7 0 rfl rfl ?_
  refine xw7_0g_traded (pc' := 11) K hinX7_behindTrade_X7 uX7_behindTrade_f41 dX7_behindTrade_8 rfl ?_
  refine x_callV (pc' := 14) K (mX7_behind_10 l D cI cO a) rfl gX7_behindTrade_X7_behind rfl dsX7_behind ⟨rfl, rfl, ⟨Nat.le_of_ble_eq_true rfl, Nat.le_of_ble_eq_true rfl⟩, Nat.le_of_ble_eq_true rfl, Nat.le_of_ble_eq_true rfl⟩ h 7 0 rfl rfl (st := []) rfl rfl (Nat.le_of_ble_eq_true rfl) dX7_behindTrade_11 rfl (fun F11 G11 h => ?_)
  refine x_aload_n (pc' := 15) K dX7_behindTrade_14 0 rfl rfl ?_
  refine x_iload_n (pc' := 16) K dX7_behindTrade_15 1 rfl rfl ?_
  refine x_iload_n (pc' := 17) K dX7_behindTrade_16 2 rfl rfl ?_
  refine x_callV (pc' := 20) K (mX7_trades l D cI cO a _ _) rfl gX7_behindTrade_X7_trades rfl dsX7_trades ⟨rfl, rfl, ⟨Nat.le_of_ble_eq_true rfl, Nat.le_of_ble_eq_true rfl⟩, Nat.le_of_ble_eq_true rfl, Nat.le_of_ble_eq_true rfl⟩ h 7 0 rfl rfl (st := []) rfl rfl (Nat.le_of_ble_eq_true rfl) dX7_behindTrade_17 rfl (fun F17 G17 h => ?_)
  exact x_vret (wf := w7 cI a) K h dX7_behindTrade_20
/-! X7_gain -/
abbrev rmX7_gain : Room := { frames := 11, cells := 0, slots := 0, locals := 273 }
theorem dsX7_gain : xDesc yX7_gain 2 := by decide +kernel
theorem uX7_gain_f38 : Cond.fieldLink RX7 38 "PigNinthsModel" "plain" "[I" ∈ wsX7_gain := nw_in nwl_X7_gain nwe_524 (by decide +kernel)
theorem hinX7_gain_X7 : ∀ w ∈ wsX70, w ∈ wsX7_gain := nw_all nwl_X7_gain nwl_X70 (by decide +kernel)
theorem uX7_gain_f41 : Cond.fieldLink RX7 41 "PigNinthsModel" "traded" "[I" ∈ wsX7_gain := nw_in nwl_X7_gain nwe_525 (by decide +kernel)
set_option maxHeartbeats 4000000 in
set_option maxRecDepth 100000 in
theorem mX7_gain (l : Launch) (D : va_G) (cI cO : ClassId) (a : Nat → Nat)  (x1 : Int32) (x2 : Int32) : MI l yX7_gain wsX7_gain rmX7_gain D (xtys cI cO) [.ref (a 0), .int x1, .int x2] (w7 cI a) (qX7_gain x1 x2) := by
  refine MI_of (cc := cX7_gain) (maxL := 3) (own := RX7) (by decide) rfl rfl (Nat.le_of_ble_eq_true rfl) ?_
  intro p e s m args below meth c A F G Q h K
  refine x_locals [0, 1, 2] (L' := [(0, .ref (a 0)), (1, .int _), (2, .int _)]) rfl ?_
  refine x_iload_n (pc' := 1) K dX7_gain_0 1 rfl rfl ?_
  refine x_callS (pc' := 4) K (mX7_isFarmer l D cI cO a _) rfl gX7_gain_X7_isFarmer dsX7_isFarmer ⟨rfl, rfl, ⟨Nat.le_of_ble_eq_true rfl, Nat.le_of_ble_eq_true rfl⟩, Nat.le_of_ble_eq_true rfl, Nat.le_of_ble_eq_true rfl⟩ h (st := []) rfl rfl (Nat.le_of_ble_eq_true rfl) dX7_gain_1 rfl (fun r1 h => ?_)
  refine x_if_eq (tgt := 19) (pc' := 7) K dX7_gain_4 rfl rfl (fun c4 => ?_) (fun c4 => ?_)
  · replace h := h.1 c4
    refine x_aload_n (pc' := 20) K dX7_gain_19 0 rfl rfl ?_
    refine x_iconst (pc' := 21) (v := 1) K dX7_gain_20 (by decide) rfl ?_
    refine x_callI (pc' := 24) K (mX7_error l D cI cO a _) rfl gX7_gain_X7_error rfl dsX7_error ⟨rfl, rfl, ⟨Nat.le_of_ble_eq_true rfl, Nat.le_of_ble_eq_true rfl⟩, Nat.le_of_ble_eq_true rfl, Nat.le_of_ble_eq_true rfl⟩ h 7 0 rfl rfl (st := []) rfl rfl (Nat.le_of_ble_eq_true rfl) dX7_gain_21 rfl (fun r21 F21 G21 h => ?_)
    exact x_iret (wf := w7 cI a) K h dX7_gain_24
  · replace h := h.2 c4
    refine x_iload_n (pc' := 8) K dX7_gain_7 2 rfl rfl ?_
    refine x_callS (pc' := 11) K (mX7_isFarmer l D cI cO a _) rfl gX7_gain_X7_isFarmer dsX7_isFarmer ⟨rfl, rfl, ⟨Nat.le_of_ble_eq_true rfl, Nat.le_of_ble_eq_true rfl⟩, Nat.le_of_ble_eq_true rfl, Nat.le_of_ble_eq_true rfl⟩ h (st := []) rfl rfl (Nat.le_of_ble_eq_true rfl) dX7_gain_8 rfl (fun r8 h => ?_)
    refine x_if_eq (tgt := 19) (pc' := 14) K dX7_gain_11 rfl rfl (fun c11 => ?_) (fun c11 => ?_)
    · replace h := h.1 c11
      refine x_aload_n (pc' := 20) K dX7_gain_19 0 rfl rfl ?_
      refine x_iconst (pc' := 21) (v := 1) K dX7_gain_20 (by decide) rfl ?_
      refine x_callI (pc' := 24) K (mX7_error l D cI cO a _) rfl gX7_gain_X7_error rfl dsX7_error ⟨rfl, rfl, ⟨Nat.le_of_ble_eq_true rfl, Nat.le_of_ble_eq_true rfl⟩, Nat.le_of_ble_eq_true rfl, Nat.le_of_ble_eq_true rfl⟩ h 7 0 rfl rfl (st := []) rfl rfl (Nat.le_of_ble_eq_true rfl) dX7_gain_21 rfl (fun r21 F21 G21 h => ?_)
      exact x_iret (wf := w7 cI a) K h dX7_gain_24
    · replace h := h.2 c11
      refine x_iload_n (pc' := 15) K dX7_gain_14 1 rfl rfl ?_
      refine x_iload_n (pc' := 16) K dX7_gain_15 2 rfl rfl ?_
      refine x_icmp_ne (tgt := 25) (pc' := 19) K dX7_gain_16 rfl rfl (fun c16 => ?_) (fun c16 => ?_)
      · replace h := h.1 c16
        refine x_aload_n (pc' := 26) K dX7_gain_25 0 rfl rfl ?_
        refine x_aload_n (pc' := 27) K dX7_gain_26 0 rfl rfl ?_
        refine xw7_0g_plain (pc' := 30) K hinX7_gain_X7 uX7_gain_f38 dX7_gain_27 rfl ?_
        refine x_callV (pc' := 33) K (mX7_behind_9 l D cI cO a) rfl gX7_gain_X7_behind rfl dsX7_behind ⟨rfl, rfl, ⟨Nat.le_of_ble_eq_true rfl, Nat.le_of_ble_eq_true rfl⟩, Nat.le_of_ble_eq_true rfl, Nat.le_of_ble_eq_true rfl⟩ h 7 0 rfl rfl (st := []) rfl rfl (Nat.le_of_ble_eq_true rfl) dX7_gain_30 rfl (fun F30 G30 h => ?_)
        refine x_aload_n (pc' := 34) K dX7_gain_33 0 rfl rfl ?_
        refine x_iload_n (pc' := 35) K dX7_gain_34 1 rfl rfl ?_
        refine x_iload_n (pc' := 36) K dX7_gain_35 2 rfl rfl ?_
        refine x_callV (pc' := 39) K (mX7_behindTrade l D cI cO a _ _) rfl gX7_gain_X7_behindTrade rfl dsX7_behindTrade ⟨rfl, rfl, ⟨Nat.le_of_ble_eq_true rfl, Nat.le_of_ble_eq_true rfl⟩, Nat.le_of_ble_eq_true rfl, Nat.le_of_ble_eq_true rfl⟩ h 7 0 rfl rfl (st := []) rfl rfl (Nat.le_of_ble_eq_true rfl) dX7_gain_36 rfl (fun F36 G36 h => ?_)
        refine x_aload_n (pc' := 40) K dX7_gain_39 0 rfl rfl ?_
        refine xw7_0g_traded (pc' := 43) K hinX7_gain_X7 uX7_gain_f41 dX7_gain_40 rfl ?_
        refine x_iload_n (pc' := 44) K dX7_gain_43 1 rfl rfl ?_
        obtain ⟨i44, h⟩ := h
        refine xw7_10l (pc' := 45) K i44 rfl dX7_gain_44 rfl ?_
        refine x_aload_n (pc' := 46) K dX7_gain_45 0 rfl rfl ?_
        refine xw7_0g_plain (pc' := 49) K hinX7_gain_X7 uX7_gain_f38 dX7_gain_46 rfl ?_
        refine x_iload_n (pc' := 50) K dX7_gain_49 1 rfl rfl ?_
        obtain ⟨i50, h⟩ := h
        refine xw7_9l (pc' := 51) K i50 rfl dX7_gain_50 rfl ?_
        refine x_isub (pc' := 52) K dX7_gain_51 rfl ?_
        exact x_iret (wf := w7 cI a) K h dX7_gain_52
      · replace h := h.2 c16
        refine x_aload_n (pc' := 20) K dX7_gain_19 0 rfl rfl ?_
        refine x_iconst (pc' := 21) (v := 1) K dX7_gain_20 (by decide) rfl ?_
        refine x_callI (pc' := 24) K (mX7_error l D cI cO a _) rfl gX7_gain_X7_error rfl dsX7_error ⟨rfl, rfl, ⟨Nat.le_of_ble_eq_true rfl, Nat.le_of_ble_eq_true rfl⟩, Nat.le_of_ble_eq_true rfl, Nat.le_of_ble_eq_true rfl⟩ h 7 0 rfl rfl (st := []) rfl rfl (Nat.le_of_ble_eq_true rfl) dX7_gain_21 rfl (fun r21 F21 G21 h => ?_)
        exact x_iret (wf := w7 cI a) K h dX7_gain_24
/-! X7_bestTrade -/
abbrev rmX7_bestTrade : Room := { frames := 11, cells := 0, slots := 0, locals := 273 }
theorem dsX7_bestTrade : xDesc yX7_bestTrade 0 := by decide +kernel
theorem uX7_bestTrade_f38 : Cond.fieldLink RX7 38 "PigNinthsModel" "plain" "[I" ∈ wsX7_bestTrade := nw_in nwl_X7_bestTrade nwe_524 (by decide +kernel)
theorem hinX7_bestTrade_X7 : ∀ w ∈ wsX70, w ∈ wsX7_bestTrade := nw_all nwl_X7_bestTrade nwl_X70 (by decide +kernel)
theorem uX7_bestTrade_f41 : Cond.fieldLink RX7 41 "PigNinthsModel" "traded" "[I" ∈ wsX7_bestTrade := nw_in nwl_X7_bestTrade nwe_525 (by decide +kernel)
set_option maxHeartbeats 4000000 in
set_option maxRecDepth 100000 in
theorem tX7_bestTrade_25 (K : XK p m c cX7_bestTrade 7 s args wsX7_bestTrade RX7 D (xtys cI cO) A meth (some .int)) {Q : Int32 → xF → xA → Prop} {k14 : Int32 → Int32 → Int32 → xF → xA → Prop} (hk14 : ∀ (x1 : Int32) (x2 : Int32) (x3 : Int32) (F : xF) (G : xA), k14 x1 x2 x3 F G → XJ p l e rmX7_bestTrade s m args below meth c 0 0 (MQ below (xQi D (w7 cI a) A Q) args s 0 0 A) D (xtys cI cO) A 7 (w7 cI a F G) 14 [(0, .ref (a 0)), (1, .int x1), (2, .int x2), (3, .int x3)] []) : ∀ (n : Nat), ∀ (x1 : Int32) (x2 : Int32) (x3 : Int32) (x4 : Int32) (F : xF) (G : xA), qX7_bestTrade_25 Q k14 n x1 x2 x3 x4 F G → XJ p l e rmX7_bestTrade s m args below meth c 0 0 (MQ below (xQi D (w7 cI a) A Q) args s 0 0 A) D (xtys cI cO) A 7 (w7 cI a F G) 25 [(0, .ref (a 0)), (1, .int x1), (2, .int x2), (3, .int x3), (4, .int x4)] [] := by
  intro n
  induction n with
  | zero =>
    intro x1 x2 x3 x4 F G h
    exact False.elim h
  | succ n ih =>
    intro x1 x2 x3 x4 F G h
    refine x_iload (pc' := 27) K dX7_bestTrade_25 4 rfl rfl ?_
    refine x_bipush (pc' := 29) (v := 9) K dX7_bestTrade_27 (by decide) rfl ?_
    refine x_icmp_ge (tgt := 110) (pc' := 32) K dX7_bestTrade_29 rfl rfl (fun c29 => ?_) (fun c29 => ?_)
    · replace h := h.1 c29
      refine x_iinc (pc' := 113) (v := _ + (1 : Int32)) K dX7_bestTrade_110 3 rfl rfl (by decide) [1, 2, 3, 0, 4] (L' := [(0, .ref (a 0)), (1, .int _), (2, .int _), (3, .int _), (4, .int _)]) rfl rfl ?_
      refine x_goto (tgt := 14) K dX7_bestTrade_113 rfl ?_
      refine x_locals [0, 1, 2, 3] (L' := [(0, .ref (a 0)), (1, .int _), (2, .int _), (3, .int _)]) rfl ?_
      exact hk14 _ _ _ _ _ h
    · replace h := h.2 c29
      refine x_aload_n (pc' := 33) K dX7_bestTrade_32 0 rfl rfl ?_
      refine x_iload_n (pc' := 34) K dX7_bestTrade_33 3 rfl rfl ?_
      refine x_iload (pc' := 36) K dX7_bestTrade_34 4 rfl rfl ?_
      refine x_callV (pc' := 39) K (mX7_behindTrade l D cI cO a _ _) rfl gX7_bestTrade_X7_behindTrade rfl dsX7_behindTrade ⟨rfl, rfl, ⟨Nat.le_of_ble_eq_true rfl, Nat.le_of_ble_eq_true rfl⟩, Nat.le_of_ble_eq_true rfl, Nat.le_of_ble_eq_true rfl⟩ h 7 0 rfl rfl (st := []) rfl rfl (Nat.le_of_ble_eq_true rfl) dX7_bestTrade_36 rfl (fun F36 G36 h => ?_)
      refine x_aload_n (pc' := 40) K dX7_bestTrade_39 0 rfl rfl ?_
      refine xw7_0g_traded (pc' := 43) K hinX7_bestTrade_X7 uX7_bestTrade_f41 dX7_bestTrade_40 rfl ?_
      refine x_iload_n (pc' := 44) K dX7_bestTrade_43 3 rfl rfl ?_
      obtain ⟨i44, h⟩ := h
      refine xw7_10l (pc' := 45) K i44 rfl dX7_bestTrade_44 rfl ?_
      refine x_aload_n (pc' := 46) K dX7_bestTrade_45 0 rfl rfl ?_
      refine xw7_0g_plain (pc' := 49) K hinX7_bestTrade_X7 uX7_bestTrade_f38 dX7_bestTrade_46 rfl ?_
      refine x_iload_n (pc' := 50) K dX7_bestTrade_49 3 rfl rfl ?_
      obtain ⟨i50, h⟩ := h
      refine xw7_9l (pc' := 51) K i50 rfl dX7_bestTrade_50 rfl ?_
      refine x_isub (pc' := 52) K dX7_bestTrade_51 rfl ?_
      refine x_istore (pc' := 54) (i := 5) K dX7_bestTrade_52 (by decide) [1, 2, 3, 4, 5, 0] (L' := [(0, .ref (a 0)), (1, .int _), (2, .int _), (3, .int _), (4, .int _), (5, .int _)]) rfl rfl ?_
      refine x_aload_n (pc' := 55) K dX7_bestTrade_54 0 rfl rfl ?_
      refine xw7_0g_traded (pc' := 58) K hinX7_bestTrade_X7 uX7_bestTrade_f41 dX7_bestTrade_55 rfl ?_
      refine x_iload (pc' := 60) K dX7_bestTrade_58 4 rfl rfl ?_
      obtain ⟨i60, h⟩ := h
      refine xw7_10l (pc' := 61) K i60 rfl dX7_bestTrade_60 rfl ?_
      refine x_aload_n (pc' := 62) K dX7_bestTrade_61 0 rfl rfl ?_
      refine xw7_0g_plain (pc' := 65) K hinX7_bestTrade_X7 uX7_bestTrade_f38 dX7_bestTrade_62 rfl ?_
      refine x_iload (pc' := 67) K dX7_bestTrade_65 4 rfl rfl ?_
      obtain ⟨i67, h⟩ := h
      refine xw7_9l (pc' := 68) K i67 rfl dX7_bestTrade_67 rfl ?_
      refine x_isub (pc' := 69) K dX7_bestTrade_68 rfl ?_
      refine x_istore (pc' := 71) (i := 6) K dX7_bestTrade_69 (by decide) [1, 2, 3, 4, 5, 6, 0] (L' := [(0, .ref (a 0)), (1, .int _), (2, .int _), (3, .int _), (4, .int _), (5, .int _), (6, .int _)]) rfl rfl ?_
      refine x_iload (pc' := 73) K dX7_bestTrade_71 5 rfl rfl ?_
      refine x_if_le (tgt := 104) (pc' := 76) K dX7_bestTrade_73 rfl rfl (fun c73 => ?_) (fun c73 => ?_)
      · replace h := h.1 c73
        refine x_iinc (pc' := 107) (v := _ + (1 : Int32)) K dX7_bestTrade_104 4 rfl rfl (by decide) [1, 2, 3, 4, 0, 5, 6] (L' := [(0, .ref (a 0)), (1, .int _), (2, .int _), (3, .int _), (4, .int _), (5, .int _), (6, .int _)]) rfl rfl ?_
        refine x_goto (tgt := 25) K dX7_bestTrade_107 rfl ?_
        refine x_locals [0, 1, 2, 3, 4] (L' := [(0, .ref (a 0)), (1, .int _), (2, .int _), (3, .int _), (4, .int _)]) rfl ?_
        exact ih _ _ _ _ _ _ h
      · replace h := h.2 c73
        refine x_iload (pc' := 78) K dX7_bestTrade_76 6 rfl rfl ?_
        refine x_if_le (tgt := 104) (pc' := 81) K dX7_bestTrade_78 rfl rfl (fun c78 => ?_) (fun c78 => ?_)
        · replace h := h.1 c78
          refine x_iinc (pc' := 107) (v := _ + (1 : Int32)) K dX7_bestTrade_104 4 rfl rfl (by decide) [1, 2, 3, 4, 0, 5, 6] (L' := [(0, .ref (a 0)), (1, .int _), (2, .int _), (3, .int _), (4, .int _), (5, .int _), (6, .int _)]) rfl rfl ?_
          refine x_goto (tgt := 25) K dX7_bestTrade_107 rfl ?_
          refine x_locals [0, 1, 2, 3, 4] (L' := [(0, .ref (a 0)), (1, .int _), (2, .int _), (3, .int _), (4, .int _)]) rfl ?_
          exact ih _ _ _ _ _ _ h
        · replace h := h.2 c78
          refine x_iload (pc' := 83) K dX7_bestTrade_81 5 rfl rfl ?_
          refine x_iload (pc' := 85) K dX7_bestTrade_83 6 rfl rfl ?_
          refine x_iadd (pc' := 86) K dX7_bestTrade_85 rfl ?_
          refine x_iload_n (pc' := 87) K dX7_bestTrade_86 2 rfl rfl ?_
          refine x_icmp_le (tgt := 104) (pc' := 90) K dX7_bestTrade_87 rfl rfl (fun c87 => ?_) (fun c87 => ?_)
          · replace h := h.1 c87
            refine x_iinc (pc' := 107) (v := _ + (1 : Int32)) K dX7_bestTrade_104 4 rfl rfl (by decide) [1, 2, 3, 4, 0, 5, 6] (L' := [(0, .ref (a 0)), (1, .int _), (2, .int _), (3, .int _), (4, .int _), (5, .int _), (6, .int _)]) rfl rfl ?_
            refine x_goto (tgt := 25) K dX7_bestTrade_107 rfl ?_
            refine x_locals [0, 1, 2, 3, 4] (L' := [(0, .ref (a 0)), (1, .int _), (2, .int _), (3, .int _), (4, .int _)]) rfl ?_
            exact ih _ _ _ _ _ _ h
          · replace h := h.2 c87
            refine x_bipush (pc' := 92) (v := 10) K dX7_bestTrade_90 (by decide) rfl ?_
            refine x_iload_n (pc' := 93) K dX7_bestTrade_92 3 rfl rfl ?_
            refine x_imul (pc' := 94) K dX7_bestTrade_93 rfl ?_
            refine x_iload (pc' := 96) K dX7_bestTrade_94 4 rfl rfl ?_
            refine x_iadd (pc' := 97) K dX7_bestTrade_96 rfl ?_
            refine x_istore_n (pc' := 98) (i := 1) K dX7_bestTrade_97 rfl (by decide) [1, 0, 2, 3, 4, 5, 6] (L' := [(0, .ref (a 0)), (1, .int _), (2, .int _), (3, .int _), (4, .int _), (5, .int _), (6, .int _)]) rfl rfl ?_
            refine x_iload (pc' := 100) K dX7_bestTrade_98 5 rfl rfl ?_
            refine x_iload (pc' := 102) K dX7_bestTrade_100 6 rfl rfl ?_
            refine x_iadd (pc' := 103) K dX7_bestTrade_102 rfl ?_
            refine x_istore_n (pc' := 104) (i := 2) K dX7_bestTrade_103 rfl (by decide) [1, 2, 0, 3, 4, 5, 6] (L' := [(0, .ref (a 0)), (1, .int _), (2, .int _), (3, .int _), (4, .int _), (5, .int _), (6, .int _)]) rfl rfl ?_
            refine x_iinc (pc' := 107) (v := _ + (1 : Int32)) K dX7_bestTrade_104 4 rfl rfl (by decide) [1, 2, 3, 4, 0, 5, 6] (L' := [(0, .ref (a 0)), (1, .int _), (2, .int _), (3, .int _), (4, .int _), (5, .int _), (6, .int _)]) rfl rfl ?_
            refine x_goto (tgt := 25) K dX7_bestTrade_107 rfl ?_
            refine x_locals [0, 1, 2, 3, 4] (L' := [(0, .ref (a 0)), (1, .int _), (2, .int _), (3, .int _), (4, .int _)]) rfl ?_
            exact ih _ _ _ _ _ _ h
set_option maxHeartbeats 4000000 in
set_option maxRecDepth 100000 in
theorem tX7_bestTrade_14 (K : XK p m c cX7_bestTrade 7 s args wsX7_bestTrade RX7 D (xtys cI cO) A meth (some .int)) {Q : Int32 → xF → xA → Prop} : ∀ (n : Nat), ∀ (x1 : Int32) (x2 : Int32) (x3 : Int32) (F : xF) (G : xA), qX7_bestTrade_14 Q n x1 x2 x3 F G → XJ p l e rmX7_bestTrade s m args below meth c 0 0 (MQ below (xQi D (w7 cI a) A Q) args s 0 0 A) D (xtys cI cO) A 7 (w7 cI a F G) 14 [(0, .ref (a 0)), (1, .int x1), (2, .int x2), (3, .int x3)] [] := by
  intro n
  induction n with
  | zero =>
    intro x1 x2 x3 F G h
    exact False.elim h
  | succ n ih =>
    intro x1 x2 x3 F G h
    refine x_iload_n (pc' := 15) K dX7_bestTrade_14 3 rfl rfl ?_
    refine x_bipush (pc' := 17) (v := 9) K dX7_bestTrade_15 (by decide) rfl ?_
    refine x_icmp_ge (tgt := 116) (pc' := 20) K dX7_bestTrade_17 rfl rfl (fun c17 => ?_) (fun c17 => ?_)
    · replace h := h.1 c17
      refine x_iload_n (pc' := 117) K dX7_bestTrade_116 1 rfl rfl ?_
      refine x_iconst (pc' := 118) (v := -1) K dX7_bestTrade_117 (by decide) rfl ?_
      refine x_icmp_ne (tgt := 129) (pc' := 121) K dX7_bestTrade_118 rfl rfl (fun c118 => ?_) (fun c118 => ?_)
      · replace h := h.1 c118
        refine x_iload_n (pc' := 130) K dX7_bestTrade_129 1 rfl rfl ?_
        exact x_iret (wf := w7 cI a) K h dX7_bestTrade_130
      · replace h := h.2 c118
        refine x_aload_n (pc' := 122) K dX7_bestTrade_121 0 rfl rfl ?_
        refine x_iconst (pc' := 123) (v := 2) K dX7_bestTrade_122 (by decide) rfl ?_
        refine x_callI (pc' := 126) K (mX7_error l D cI cO a _) rfl gX7_bestTrade_X7_error rfl dsX7_error ⟨rfl, rfl, ⟨Nat.le_of_ble_eq_true rfl, Nat.le_of_ble_eq_true rfl⟩, Nat.le_of_ble_eq_true rfl, Nat.le_of_ble_eq_true rfl⟩ h 7 0 rfl rfl (st := []) rfl rfl (Nat.le_of_ble_eq_true rfl) dX7_bestTrade_123 rfl (fun r123 F123 G123 h => ?_)
        refine x_goto (tgt := 130) K dX7_bestTrade_126 rfl ?_
        exact x_iret (wf := w7 cI a) K h dX7_bestTrade_130
    · replace h := h.2 c17
      refine x_iload_n (pc' := 21) K dX7_bestTrade_20 3 rfl rfl ?_
      refine x_iconst (pc' := 22) (v := 1) K dX7_bestTrade_21 (by decide) rfl ?_
      refine x_iadd (pc' := 23) K dX7_bestTrade_22 rfl ?_
      refine x_istore (pc' := 25) (i := 4) K dX7_bestTrade_23 (by decide) [1, 2, 3, 4, 0] (L' := [(0, .ref (a 0)), (1, .int _), (2, .int _), (3, .int _), (4, .int _)]) rfl rfl ?_
      obtain ⟨n25, h⟩ := h
      exact tX7_bestTrade_25 K (fun x1 x2 x3 F G h => ih x1 x2 x3 F G h) n25 _ _ _ _ _ _ h
set_option maxHeartbeats 4000000 in
set_option maxRecDepth 100000 in
theorem mX7_bestTrade (l : Launch) (D : va_G) (cI cO : ClassId) (a : Nat → Nat)   : MI l yX7_bestTrade wsX7_bestTrade rmX7_bestTrade D (xtys cI cO) [.ref (a 0)] (w7 cI a) qX7_bestTrade := by
  refine MI_of (cc := cX7_bestTrade) (maxL := 7) (own := RX7) (by decide) rfl rfl (Nat.le_of_ble_eq_true rfl) ?_
  intro p e s m args below meth c A F G Q h K
  refine x_locals [0] (L' := [(0, .ref (a 0))]) rfl ?_
  refine x_iconst (pc' := 1) (v := -1) K dX7_bestTrade_0 (by decide) rfl ?_
  refine x_istore_n (pc' := 2) (i := 1) K dX7_bestTrade_1 rfl (by decide) [1, 0] (L' := [(0, .ref (a 0)), (1, .int _)]) rfl rfl ?_
  refine x_iconst (pc' := 3) (v := 0) K dX7_bestTrade_2 (by decide) rfl ?_
  refine x_istore_n (pc' := 4) (i := 2) K dX7_bestTrade_3 rfl (by decide) [1, 2, 0] (L' := [(0, .ref (a 0)), (1, .int _), (2, .int _)]) rfl rfl ?_
  refine x_aload_n (pc' := 5) K dX7_bestTrade_4 0 rfl rfl ?_
  refine x_aload_n (pc' := 6) K dX7_bestTrade_5 0 rfl rfl ?_
  refine xw7_0g_plain (pc' := 9) K hinX7_bestTrade_X7 uX7_bestTrade_f38 dX7_bestTrade_6 rfl ?_
  refine x_callV (pc' := 12) K (mX7_behind_9 l D cI cO a) rfl gX7_bestTrade_X7_behind rfl dsX7_behind ⟨rfl, rfl, ⟨Nat.le_of_ble_eq_true rfl, Nat.le_of_ble_eq_true rfl⟩, Nat.le_of_ble_eq_true rfl, Nat.le_of_ble_eq_true rfl⟩ h 7 0 rfl rfl (st := []) rfl rfl (Nat.le_of_ble_eq_true rfl) dX7_bestTrade_9 rfl (fun F9 G9 h => ?_)
  refine x_iconst (pc' := 13) (v := 0) K dX7_bestTrade_12 (by decide) rfl ?_
  refine x_istore_n (pc' := 14) (i := 3) K dX7_bestTrade_13 rfl (by decide) [1, 2, 3, 0] (L' := [(0, .ref (a 0)), (1, .int _), (2, .int _), (3, .int _)]) rfl rfl ?_
  obtain ⟨n14, h⟩ := h
  exact tX7_bestTrade_14 K n14 _ _ _ _ _ h
/-! X7_share -/
abbrev rmX7_share : Room := { frames := 8, cells := 0, slots := 0, locals := 205 }
theorem dsX7_share : xDesc yX7_share 3 := by decide +kernel
theorem uX7_share_f7 : Cond.fieldLink RX7 7 "PigNinthsModel" "s" "[I" ∈ wsX7_share := nw_in nwl_X7_share nwe_514 (by decide +kernel)
theorem hinX7_share_X7 : ∀ w ∈ wsX70, w ∈ wsX7_share := nw_all nwl_X7_share nwl_X70 (by decide +kernel)
theorem uX7_share_f31 : Cond.fieldLink RX7 31 "PigNinthsModel" "dug" "[I" ∈ wsX7_share := nw_in nwl_X7_share nwe_522 (by decide +kernel)
set_option maxHeartbeats 4000000 in
set_option maxRecDepth 100000 in
theorem tX7_share_117 (K : XK p m c cX7_share 10 s args wsX7_share RX7 D (xtys cI cO) A meth (some .int)) {Q : Int32 → xF → xA → Prop} {k42 : Int32 → Int32 → Int32 → Int32 → Int32 → xF → xA → Prop} (hk42 : ∀ (x1 : Int32) (x2 : Int32) (x3 : Int32) (x4 : Int32) (x5 : Int32) (F : xF) (G : xA), k42 x1 x2 x3 x4 x5 F G → XJ p l e rmX7_share s m args below meth c 0 0 (MQ below (xQi D (w7 cI a) A Q) args s 0 0 A) D (xtys cI cO) A 10 (w7 cI a F G) 42 [(0, .ref (a 0)), (1, .int x1), (2, .int x2), (3, .int x3), (4, .int x4), (5, .int x5)] []) : ∀ (n : Nat), ∀ (x1 : Int32) (x2 : Int32) (x3 : Int32) (x4 : Int32) (x5 : Int32) (x9 : Int32) (F : xF) (G : xA), qX7_share_117 Q k42 n x1 x2 x3 x4 x5 x9 F G → XJ p l e rmX7_share s m args below meth c 0 0 (MQ below (xQi D (w7 cI a) A Q) args s 0 0 A) D (xtys cI cO) A 10 (w7 cI a F G) 117 [(0, .ref (a 0)), (1, .int x1), (2, .int x2), (3, .int x3), (4, .int x4), (5, .int x5), (9, .int x9)] [] := by
  intro n
  induction n with
  | zero =>
    intro x1 x2 x3 x4 x5 x9 F G h
    exact False.elim h
  | succ n ih =>
    intro x1 x2 x3 x4 x5 x9 F G h
    refine x_iload (pc' := 119) K dX7_share_117 6 rfl rfl ?_
    refine x_bipush (pc' := 121) (v := 16) K dX7_share_119 (by decide) rfl ?_
    refine x_icmp_ge (tgt := 160) (pc' := 124) K dX7_share_121 rfl rfl (fun c121 => ?_) (fun c121 => ?_)
    · replace h := h.1 c121
      refine x_iinc (pc' := 163) (v := _ + (1 : Int32)) K dX7_share_160 5 rfl rfl (by decide) [1, 2, 3, 4, 5, 0, 6] (L' := [(0, .ref (a 0)), (1, .int _), (2, .int _), (3, .int _), (4, .int _), (5, .int _), (9, .int _)]) rfl rfl ?_
      refine x_goto (tgt := 42) K dX7_share_163 rfl ?_
      refine x_locals [0, 1, 2, 3, 4, 5] (L' := [(0, .ref (a 0)), (1, .int _), (2, .int _), (3, .int _), (4, .int _), (5, .int _)]) rfl ?_
      exact hk42 _ _ _ _ _ _ _ h
    · replace h := h.2 c121
      refine x_iload (pc' := 126) K dX7_share_124 4 rfl rfl ?_
      refine x_aload_n (pc' := 127) K dX7_share_126 0 rfl rfl ?_
      refine xw7_0g_s (pc' := 130) K hinX7_share_X7 uX7_share_f7 dX7_share_127 rfl ?_
      refine x_bipush (pc' := 132) (v := 8) K dX7_share_130 (by decide) rfl ?_
      refine x_iload (pc' := 134) K dX7_share_132 6 rfl rfl ?_
      refine x_iadd (pc' := 135) K dX7_share_134 rfl ?_
      obtain ⟨i135, h⟩ := h
      refine xw7_1l (pc' := 136) K i135 rfl dX7_share_135 rfl ?_
      refine x_iload_n (pc' := 137) K dX7_share_136 1 rfl rfl ?_
      refine x_icmp_ne (tgt := 150) (pc' := 140) K dX7_share_137 rfl rfl (fun c137 => ?_) (fun c137 => ?_)
      · replace h := h.1 c137
        refine x_iconst (pc' := 151) (v := 0) K dX7_share_150 (by decide) rfl ?_
        refine x_iadd (pc' := 152) K dX7_share_151 rfl ?_
        refine x_istore (pc' := 154) (i := 4) K dX7_share_152 (by decide) [1, 2, 3, 4, 0, 5, 6] (L' := [(0, .ref (a 0)), (1, .int _), (2, .int _), (3, .int _), (4, .int _), (5, .int _), (9, .int _)]) rfl rfl ?_
        refine x_iinc (pc' := 157) (v := _ + (1 : Int32)) K dX7_share_154 6 rfl rfl (by decide) [1, 2, 3, 4, 5, 6, 0] (L' := [(0, .ref (a 0)), (1, .int _), (2, .int _), (3, .int _), (4, .int _), (5, .int _), (9, .int _)]) rfl rfl ?_
        refine x_goto (tgt := 117) K dX7_share_157 rfl ?_
        exact ih _ _ _ _ _ _ _ _ h
      · replace h := h.2 c137
        refine x_aload_n (pc' := 141) K dX7_share_140 0 rfl rfl ?_
        refine xw7_0g_dug (pc' := 144) K hinX7_share_X7 uX7_share_f31 dX7_share_141 rfl ?_
        refine x_iload (pc' := 146) K dX7_share_144 6 rfl rfl ?_
        obtain ⟨i146, h⟩ := h
        refine xw7_8l (pc' := 147) K i146 rfl dX7_share_146 rfl ?_
        refine x_goto (tgt := 151) K dX7_share_147 rfl ?_
        refine x_iadd (pc' := 152) K dX7_share_151 rfl ?_
        refine x_istore (pc' := 154) (i := 4) K dX7_share_152 (by decide) [1, 2, 3, 4, 0, 5, 6] (L' := [(0, .ref (a 0)), (1, .int _), (2, .int _), (3, .int _), (4, .int _), (5, .int _), (9, .int _)]) rfl rfl ?_
        refine x_iinc (pc' := 157) (v := _ + (1 : Int32)) K dX7_share_154 6 rfl rfl (by decide) [1, 2, 3, 4, 5, 6, 0] (L' := [(0, .ref (a 0)), (1, .int _), (2, .int _), (3, .int _), (4, .int _), (5, .int _), (9, .int _)]) rfl rfl ?_
        refine x_goto (tgt := 117) K dX7_share_157 rfl ?_
        exact ih _ _ _ _ _ _ _ _ h
set_option maxHeartbeats 4000000 in
set_option maxRecDepth 100000 in
theorem tX7_share_42 (K : XK p m c cX7_share 10 s args wsX7_share RX7 D (xtys cI cO) A meth (some .int)) {Q : Int32 → xF → xA → Prop} : ∀ (n : Nat), ∀ (x1 : Int32) (x2 : Int32) (x3 : Int32) (x4 : Int32) (x5 : Int32) (F : xF) (G : xA), qX7_share_42 Q n x1 x2 x3 x4 x5 F G → XJ p l e rmX7_share s m args below meth c 0 0 (MQ below (xQi D (w7 cI a) A Q) args s 0 0 A) D (xtys cI cO) A 10 (w7 cI a F G) 42 [(0, .ref (a 0)), (1, .int x1), (2, .int x2), (3, .int x3), (4, .int x4), (5, .int x5)] [] := by
  intro n
  induction n with
  | zero =>
    intro x1 x2 x3 x4 x5 F G h
    exact False.elim h
  | succ n ih =>
    intro x1 x2 x3 x4 x5 F G h
    refine x_iload (pc' := 44) K dX7_share_42 5 rfl rfl ?_
    refine x_iload_n (pc' := 45) K dX7_share_44 3 rfl rfl ?_
    refine x_icmp_ge (tgt := 166) (pc' := 48) K dX7_share_45 rfl rfl (fun c45 => ?_) (fun c45 => ?_)
    · replace h := h.1 c45
      refine x_aload_n (pc' := 167) K dX7_share_166 0 rfl rfl ?_
      refine x_callV (pc' := 170) K (mX7_layBack l D cI cO a) rfl gX7_share_X7_layBack rfl dsX7_layBack ⟨rfl, rfl, ⟨Nat.le_of_ble_eq_true rfl, Nat.le_of_ble_eq_true rfl⟩, Nat.le_of_ble_eq_true rfl, Nat.le_of_ble_eq_true rfl⟩ h 7 0 rfl rfl (st := []) rfl rfl (Nat.le_of_ble_eq_true rfl) dX7_share_167 rfl (fun F167 G167 h => ?_)
      refine x_iload (pc' := 172) K dX7_share_170 4 rfl rfl ?_
      exact x_iret (wf := w7 cI a) K h dX7_share_172
    · replace h := h.2 c45
      refine x_aload_n (pc' := 49) K dX7_share_48 0 rfl rfl ?_
      refine x_callI (pc' := 52) K (mX7_whoHas l D cI cO a) rfl gX7_share_X7_whoHas rfl dsX7_whoHas ⟨rfl, rfl, ⟨Nat.le_of_ble_eq_true rfl, Nat.le_of_ble_eq_true rfl⟩, Nat.le_of_ble_eq_true rfl, Nat.le_of_ble_eq_true rfl⟩ h 7 0 rfl rfl (st := []) rfl rfl (Nat.le_of_ble_eq_true rfl) dX7_share_49 rfl (fun r49 F49 G49 h => ?_)
      refine x_istore (pc' := 54) (i := 6) K dX7_share_52 (by decide) [1, 2, 3, 4, 5, 6, 0] (L' := [(0, .ref (a 0)), (1, .int _), (2, .int _), (3, .int _), (4, .int _), (5, .int _), (6, .int _)]) rfl rfl ?_
      refine x_aload_n (pc' := 55) K dX7_share_54 0 rfl rfl ?_
      refine x_iload_n (pc' := 56) K dX7_share_55 1 rfl rfl ?_
      refine x_iconst (pc' := 57) (v := 2) K dX7_share_56 (by decide) rfl ?_
      refine x_callI (pc' := 60) K (mX7_its l D cI cO a _ _) rfl gX7_share_X7_its rfl dsX7_its ⟨rfl, rfl, ⟨Nat.le_of_ble_eq_true rfl, Nat.le_of_ble_eq_true rfl⟩, Nat.le_of_ble_eq_true rfl, Nat.le_of_ble_eq_true rfl⟩ h 7 0 rfl rfl (st := []) rfl rfl (Nat.le_of_ble_eq_true rfl) dX7_share_57 rfl (fun r57 F57 G57 h => ?_)
      refine x_istore (pc' := 62) (i := 7) K dX7_share_60 (by decide) [1, 2, 3, 4, 5, 6, 7, 0] (L' := [(0, .ref (a 0)), (1, .int _), (2, .int _), (3, .int _), (4, .int _), (5, .int _), (6, .int _), (7, .int _)]) rfl rfl ?_
      refine x_aload_n (pc' := 63) K dX7_share_62 0 rfl rfl ?_
      refine x_callI (pc' := 66) K (mX7_day l D cI cO a) rfl gX7_share_X7_day rfl dsX7_day ⟨rfl, rfl, ⟨Nat.le_of_ble_eq_true rfl, Nat.le_of_ble_eq_true rfl⟩, Nat.le_of_ble_eq_true rfl, Nat.le_of_ble_eq_true rfl⟩ h 7 0 rfl rfl (st := []) rfl rfl (Nat.le_of_ble_eq_true rfl) dX7_share_63 rfl (fun r63 F63 G63 h => ?_)
      refine x_istore (pc' := 68) (i := 8) K dX7_share_66 (by decide) [1, 2, 3, 4, 5, 6, 7, 8, 0] (L' := [(0, .ref (a 0)), (1, .int _), (2, .int _), (3, .int _), (4, .int _), (5, .int _), (6, .int _), (7, .int _), (8, .int _)]) rfl rfl ?_
      refine x_iload_n (pc' := 69) K dX7_share_68 2 rfl rfl ?_
      refine x_if_ne (tgt := 89) (pc' := 72) K dX7_share_69 rfl rfl (fun c69 => ?_) (fun c69 => ?_)
      · replace h := h.1 c69
        refine x_iload_n (pc' := 90) K dX7_share_89 2 rfl rfl ?_
        refine x_iconst (pc' := 91) (v := 1) K dX7_share_90 (by decide) rfl ?_
        refine x_icmp_ne (tgt := 114) (pc' := 94) K dX7_share_91 rfl rfl (fun c91 => ?_) (fun c91 => ?_)
        · replace h := h.1 c91
          refine x_iconst (pc' := 115) (v := 0) K dX7_share_114 (by decide) rfl ?_
          refine x_istore (pc' := 117) (i := 9) K dX7_share_115 (by decide) [1, 2, 3, 4, 5, 6, 7, 8, 9, 0] (L' := [(0, .ref (a 0)), (1, .int _), (2, .int _), (3, .int _), (4, .int _), (5, .int _), (6, .int _), (7, .int _), (8, .int _), (9, .int _)]) rfl rfl ?_
          refine x_locals [0, 1, 2, 3, 4, 5, 9] (L' := [(0, .ref (a 0)), (1, .int _), (2, .int _), (3, .int _), (4, .int _), (5, .int _), (9, .int _)]) rfl ?_
          obtain ⟨n117, h⟩ := h
          exact tX7_share_117 K (fun x1 x2 x3 x4 x5 F G h => ih x1 x2 x3 x4 x5 F G h) n117 _ _ _ _ _ _ _ _ h
        · replace h := h.2 c91
          refine x_iload (pc' := 96) K dX7_share_94 4 rfl rfl ?_
          refine x_iload (pc' := 98) K dX7_share_96 6 rfl rfl ?_
          refine x_iload_n (pc' := 99) K dX7_share_98 1 rfl rfl ?_
          refine x_icmp_ne (tgt := 107) (pc' := 102) K dX7_share_99 rfl rfl (fun c99 => ?_) (fun c99 => ?_)
          · replace h := h.1 c99
            refine x_iconst (pc' := 108) (v := 0) K dX7_share_107 (by decide) rfl ?_
            refine x_iadd (pc' := 109) K dX7_share_108 rfl ?_
            refine x_istore (pc' := 111) (i := 4) K dX7_share_109 (by decide) [1, 2, 3, 4, 0, 5, 6, 7, 8] (L' := [(0, .ref (a 0)), (1, .int _), (2, .int _), (3, .int _), (4, .int _), (5, .int _), (6, .int _), (7, .int _), (8, .int _)]) rfl rfl ?_
            refine x_goto (tgt := 160) K dX7_share_111 rfl ?_
            refine x_iinc (pc' := 163) (v := _ + (1 : Int32)) K dX7_share_160 5 rfl rfl (by decide) [1, 2, 3, 4, 5, 0, 6, 7, 8] (L' := [(0, .ref (a 0)), (1, .int _), (2, .int _), (3, .int _), (4, .int _), (5, .int _), (6, .int _), (7, .int _), (8, .int _)]) rfl rfl ?_
            refine x_goto (tgt := 42) K dX7_share_163 rfl ?_
            refine x_locals [0, 1, 2, 3, 4, 5] (L' := [(0, .ref (a 0)), (1, .int _), (2, .int _), (3, .int _), (4, .int _), (5, .int _)]) rfl ?_
            exact ih _ _ _ _ _ _ _ h
          · replace h := h.2 c99
            refine x_iload (pc' := 104) K dX7_share_102 8 rfl rfl ?_
            refine x_goto (tgt := 108) K dX7_share_104 rfl ?_
            refine x_iadd (pc' := 109) K dX7_share_108 rfl ?_
            refine x_istore (pc' := 111) (i := 4) K dX7_share_109 (by decide) [1, 2, 3, 4, 0, 5, 6, 7, 8] (L' := [(0, .ref (a 0)), (1, .int _), (2, .int _), (3, .int _), (4, .int _), (5, .int _), (6, .int _), (7, .int _), (8, .int _)]) rfl rfl ?_
            refine x_goto (tgt := 160) K dX7_share_111 rfl ?_
            refine x_iinc (pc' := 163) (v := _ + (1 : Int32)) K dX7_share_160 5 rfl rfl (by decide) [1, 2, 3, 4, 5, 0, 6, 7, 8] (L' := [(0, .ref (a 0)), (1, .int _), (2, .int _), (3, .int _), (4, .int _), (5, .int _), (6, .int _), (7, .int _), (8, .int _)]) rfl rfl ?_
            refine x_goto (tgt := 42) K dX7_share_163 rfl ?_
            refine x_locals [0, 1, 2, 3, 4, 5] (L' := [(0, .ref (a 0)), (1, .int _), (2, .int _), (3, .int _), (4, .int _), (5, .int _)]) rfl ?_
            exact ih _ _ _ _ _ _ _ h
      · replace h := h.2 c69
        refine x_iload (pc' := 74) K dX7_share_72 4 rfl rfl ?_
        refine x_aload_n (pc' := 75) K dX7_share_74 0 rfl rfl ?_
        refine x_iload_n (pc' := 76) K dX7_share_75 1 rfl rfl ?_
        refine x_iconst (pc' := 77) (v := 2) K dX7_share_76 (by decide) rfl ?_
        refine x_callI (pc' := 80) K (mX7_its l D cI cO a _ _) rfl gX7_share_X7_its rfl dsX7_its ⟨rfl, rfl, ⟨Nat.le_of_ble_eq_true rfl, Nat.le_of_ble_eq_true rfl⟩, Nat.le_of_ble_eq_true rfl, Nat.le_of_ble_eq_true rfl⟩ h 7 0 rfl rfl (st := [.int _]) rfl rfl (Nat.le_of_ble_eq_true rfl) dX7_share_77 rfl (fun r77 F77 G77 h => ?_)
        refine x_iload (pc' := 82) K dX7_share_80 7 rfl rfl ?_
        refine x_isub (pc' := 83) K dX7_share_82 rfl ?_
        refine x_iadd (pc' := 84) K dX7_share_83 rfl ?_
        refine x_istore (pc' := 86) (i := 4) K dX7_share_84 (by decide) [1, 2, 3, 4, 0, 5, 6, 7, 8] (L' := [(0, .ref (a 0)), (1, .int _), (2, .int _), (3, .int _), (4, .int _), (5, .int _), (6, .int _), (7, .int _), (8, .int _)]) rfl rfl ?_
        refine x_goto (tgt := 160) K dX7_share_86 rfl ?_
        refine x_iinc (pc' := 163) (v := _ + (1 : Int32)) K dX7_share_160 5 rfl rfl (by decide) [1, 2, 3, 4, 5, 0, 6, 7, 8] (L' := [(0, .ref (a 0)), (1, .int _), (2, .int _), (3, .int _), (4, .int _), (5, .int _), (6, .int _), (7, .int _), (8, .int _)]) rfl rfl ?_
        refine x_goto (tgt := 42) K dX7_share_163 rfl ?_
        refine x_locals [0, 1, 2, 3, 4, 5] (L' := [(0, .ref (a 0)), (1, .int _), (2, .int _), (3, .int _), (4, .int _), (5, .int _)]) rfl ?_
        exact ih _ _ _ _ _ _ _ h
set_option maxHeartbeats 4000000 in
set_option maxRecDepth 100000 in
theorem mX7_share (l : Launch) (D : va_G) (cI cO : ClassId) (a : Nat → Nat)  (x1 : Int32) (x2 : Int32) (x3 : Int32) : MI l yX7_share wsX7_share rmX7_share D (xtys cI cO) [.ref (a 0), .int x1, .int x2, .int x3] (w7 cI a) (qX7_share x1 x2 x3) := by
  refine MI_of (cc := cX7_share) (maxL := 10) (own := RX7) (by decide) rfl rfl (Nat.le_of_ble_eq_true rfl) ?_
  intro p e s m args below meth c A F G Q h K
  refine x_locals [0, 1, 2, 3] (L' := [(0, .ref (a 0)), (1, .int _), (2, .int _), (3, .int _)]) rfl ?_
  refine x_iload_n (pc' := 1) K dX7_share_0 1 rfl rfl ?_
  refine x_callS (pc' := 4) K (mX7_isFarmer l D cI cO a _) rfl gX7_share_X7_isFarmer dsX7_isFarmer ⟨rfl, rfl, ⟨Nat.le_of_ble_eq_true rfl, Nat.le_of_ble_eq_true rfl⟩, Nat.le_of_ble_eq_true rfl, Nat.le_of_ble_eq_true rfl⟩ h (st := []) rfl rfl (Nat.le_of_ble_eq_true rfl) dX7_share_1 rfl (fun r1 h => ?_)
  refine x_if_eq (tgt := 26) (pc' := 7) K dX7_share_4 rfl rfl (fun c4 => ?_) (fun c4 => ?_)
  · replace h := h.1 c4
    refine x_aload_n (pc' := 27) K dX7_share_26 0 rfl rfl ?_
    refine x_iconst (pc' := 28) (v := 1) K dX7_share_27 (by decide) rfl ?_
    refine x_callI (pc' := 31) K (mX7_error l D cI cO a _) rfl gX7_share_X7_error rfl dsX7_error ⟨rfl, rfl, ⟨Nat.le_of_ble_eq_true rfl, Nat.le_of_ble_eq_true rfl⟩, Nat.le_of_ble_eq_true rfl, Nat.le_of_ble_eq_true rfl⟩ h 7 0 rfl rfl (st := []) rfl rfl (Nat.le_of_ble_eq_true rfl) dX7_share_28 rfl (fun r28 F28 G28 h => ?_)
    exact x_iret (wf := w7 cI a) K h dX7_share_31
  · replace h := h.2 c4
    refine x_iload_n (pc' := 8) K dX7_share_7 2 rfl rfl ?_
    refine x_iconst (pc' := 9) (v := 0) K dX7_share_8 (by decide) rfl ?_
    refine x_iconst (pc' := 10) (v := 2) K dX7_share_9 (by decide) rfl ?_
    refine x_callS (pc' := 13) K (mX7_in l D cI cO a _ _ _) rfl gX7_share_X7_in dsX7_in ⟨rfl, rfl, ⟨Nat.le_of_ble_eq_true rfl, Nat.le_of_ble_eq_true rfl⟩, Nat.le_of_ble_eq_true rfl, Nat.le_of_ble_eq_true rfl⟩ h (st := []) rfl rfl (Nat.le_of_ble_eq_true rfl) dX7_share_10 rfl (fun r10 h => ?_)
    refine x_if_eq (tgt := 26) (pc' := 16) K dX7_share_13 rfl rfl (fun c13 => ?_) (fun c13 => ?_)
    · replace h := h.1 c13
      refine x_aload_n (pc' := 27) K dX7_share_26 0 rfl rfl ?_
      refine x_iconst (pc' := 28) (v := 1) K dX7_share_27 (by decide) rfl ?_
      refine x_callI (pc' := 31) K (mX7_error l D cI cO a _) rfl gX7_share_X7_error rfl dsX7_error ⟨rfl, rfl, ⟨Nat.le_of_ble_eq_true rfl, Nat.le_of_ble_eq_true rfl⟩, Nat.le_of_ble_eq_true rfl, Nat.le_of_ble_eq_true rfl⟩ h 7 0 rfl rfl (st := []) rfl rfl (Nat.le_of_ble_eq_true rfl) dX7_share_28 rfl (fun r28 F28 G28 h => ?_)
      exact x_iret (wf := w7 cI a) K h dX7_share_31
    · replace h := h.2 c13
      refine x_iload_n (pc' := 17) K dX7_share_16 3 rfl rfl ?_
      refine x_iconst (pc' := 18) (v := 1) K dX7_share_17 (by decide) rfl ?_
      refine x_bipush (pc' := 20) (v := 45) K dX7_share_18 (by decide) rfl ?_
      refine x_callS (pc' := 23) K (mX7_in l D cI cO a _ _ _) rfl gX7_share_X7_in dsX7_in ⟨rfl, rfl, ⟨Nat.le_of_ble_eq_true rfl, Nat.le_of_ble_eq_true rfl⟩, Nat.le_of_ble_eq_true rfl, Nat.le_of_ble_eq_true rfl⟩ h (st := []) rfl rfl (Nat.le_of_ble_eq_true rfl) dX7_share_20 rfl (fun r20 h => ?_)
      refine x_if_ne (tgt := 32) (pc' := 26) K dX7_share_23 rfl rfl (fun c23 => ?_) (fun c23 => ?_)
      · replace h := h.1 c23
        refine x_aload_n (pc' := 33) K dX7_share_32 0 rfl rfl ?_
        refine x_callV (pc' := 36) K (mX7_layDown l D cI cO a) rfl gX7_share_X7_layDown rfl dsX7_layDown ⟨rfl, rfl, ⟨Nat.le_of_ble_eq_true rfl, Nat.le_of_ble_eq_true rfl⟩, Nat.le_of_ble_eq_true rfl, Nat.le_of_ble_eq_true rfl⟩ h 7 0 rfl rfl (st := []) rfl rfl (Nat.le_of_ble_eq_true rfl) dX7_share_33 rfl (fun F33 G33 h => ?_)
        refine x_iconst (pc' := 37) (v := 0) K dX7_share_36 (by decide) rfl ?_
        refine x_istore (pc' := 39) (i := 4) K dX7_share_37 (by decide) [1, 2, 3, 4, 0] (L' := [(0, .ref (a 0)), (1, .int _), (2, .int _), (3, .int _), (4, .int _)]) rfl rfl ?_
        refine x_iconst (pc' := 40) (v := 0) K dX7_share_39 (by decide) rfl ?_
        refine x_istore (pc' := 42) (i := 5) K dX7_share_40 (by decide) [1, 2, 3, 4, 5, 0] (L' := [(0, .ref (a 0)), (1, .int _), (2, .int _), (3, .int _), (4, .int _), (5, .int _)]) rfl rfl ?_
        obtain ⟨n42, h⟩ := h
        exact tX7_share_42 K n42 _ _ _ _ _ _ _ h
      · replace h := h.2 c23
        refine x_aload_n (pc' := 27) K dX7_share_26 0 rfl rfl ?_
        refine x_iconst (pc' := 28) (v := 1) K dX7_share_27 (by decide) rfl ?_
        refine x_callI (pc' := 31) K (mX7_error l D cI cO a _) rfl gX7_share_X7_error rfl dsX7_error ⟨rfl, rfl, ⟨Nat.le_of_ble_eq_true rfl, Nat.le_of_ble_eq_true rfl⟩, Nat.le_of_ble_eq_true rfl, Nat.le_of_ble_eq_true rfl⟩ h 7 0 rfl rfl (st := []) rfl rfl (Nat.le_of_ble_eq_true rfl) dX7_share_28 rfl (fun r28 F28 G28 h => ?_)
        exact x_iret (wf := w7 cI a) K h dX7_share_31
/-! X7_explains -/
abbrev rmX7_explains : Room := { frames := 9, cells := 0, slots := 0, locals := 228 }
theorem dsX7_explains : xDesc yX7_explains 4 := by decide +kernel
theorem uX7_explains_f53 : Cond.fieldLink RX7 53 "PigNinthsModel" "number" "[I" ∈ wsX7_explains := nw_in nwl_X7_explains nwe_529 (by decide +kernel)
theorem hinX7_explains_X7 : ∀ w ∈ wsX70, w ∈ wsX7_explains := nw_all nwl_X7_explains nwl_X70 (by decide +kernel)
set_option maxHeartbeats 4000000 in
set_option maxRecDepth 100000 in
theorem tX7_explains_32 (K : XK p m c cX7_explains 8 s args wsX7_explains RX7 D (xtys cI cO) A meth (some .boolean)) {Q : Int32 → xF → xA → Prop} : ∀ (n : Nat), ∀ (x1 : Int32) (x6 : Int32) (x7 : Int32) (F : xF) (G : xA), qX7_explains_32 Q n x1 x6 x7 F G → XJ p l e rmX7_explains s m args below meth c 0 0 (MQ below (xQi D (w7 cI a) A Q) args s 0 0 A) D (xtys cI cO) A 8 (w7 cI a F G) 32 [(0, .ref (a 0)), (1, .int x1), (6, .int x6), (7, .int x7)] [] := by
  intro n
  induction n with
  | zero =>
    intro x1 x6 x7 F G h
    exact False.elim h
  | succ n ih =>
    intro x1 x6 x7 F G h
    refine x_iload (pc' := 34) K dX7_explains_32 3 rfl rfl ?_
    refine x_bipush (pc' := 36) (v := 9) K dX7_explains_34 (by decide) rfl ?_
    refine x_icmp_ge (tgt := 79) (pc' := 39) K dX7_explains_36 rfl rfl (fun c36 => ?_) (fun c36 => ?_)
    · replace h := h.1 c36
      refine x_aload_n (pc' := 80) K dX7_explains_79 0 rfl rfl ?_
      refine x_callV (pc' := 83) K (mX7_layBack l D cI cO a) rfl gX7_explains_X7_layBack rfl dsX7_layBack ⟨rfl, rfl, ⟨Nat.le_of_ble_eq_true rfl, Nat.le_of_ble_eq_true rfl⟩, Nat.le_of_ble_eq_true rfl, Nat.le_of_ble_eq_true rfl⟩ h 7 0 rfl rfl (st := []) rfl rfl (Nat.le_of_ble_eq_true rfl) dX7_explains_80 rfl (fun F80 G80 h => ?_)
      refine x_iload (pc' := 85) K dX7_explains_83 2 rfl rfl ?_
      obtain ⟨z85, h⟩ := h
      exact x_zret (wf := w7 cI a) K z85 h dX7_explains_85
    · replace h := h.2 c36
      refine x_iload (pc' := 41) K dX7_explains_39 2 rfl rfl ?_
      refine x_if_eq (tgt := 70) (pc' := 44) K dX7_explains_41 rfl rfl (fun c41 => ?_) (fun c41 => ?_)
      · replace h := h.1 c41
        refine x_iconst (pc' := 71) (v := 0) K dX7_explains_70 (by decide) rfl ?_
        refine x_istore (pc' := 73) (i := 6) K dX7_explains_71 (by decide) [1, 2, 0, 3] (L' := [(0, .ref (a 0)), (1, .int _), (6, .int _), (7, .int _)]) rfl rfl ?_
        refine x_iinc (pc' := 76) (v := _ + (1 : Int32)) K dX7_explains_73 3 rfl rfl (by decide) [1, 2, 3, 0] (L' := [(0, .ref (a 0)), (1, .int _), (6, .int _), (7, .int _)]) rfl rfl ?_
        refine x_goto (tgt := 32) K dX7_explains_76 rfl ?_
        exact ih _ _ _ _ _ h
      · replace h := h.2 c41
        refine x_aload_n (pc' := 45) K dX7_explains_44 0 rfl rfl ?_
        refine x_iload (pc' := 47) K dX7_explains_45 3 rfl rfl ?_
        refine x_iconst (pc' := 48) (v := 2) K dX7_explains_47 (by decide) rfl ?_
        refine x_callI (pc' := 51) K (mX7_its l D cI cO a _ _) rfl gX7_explains_X7_its rfl dsX7_its ⟨rfl, rfl, ⟨Nat.le_of_ble_eq_true rfl, Nat.le_of_ble_eq_true rfl⟩, Nat.le_of_ble_eq_true rfl, Nat.le_of_ble_eq_true rfl⟩ h 7 0 rfl rfl (st := []) rfl rfl (Nat.le_of_ble_eq_true rfl) dX7_explains_48 rfl (fun r48 F48 G48 h => ?_)
        refine x_aload_n (pc' := 52) K dX7_explains_51 0 rfl rfl ?_
        refine xw7_0g_number (pc' := 55) K hinX7_explains_X7 uX7_explains_f53 dX7_explains_52 rfl ?_
        refine x_bipush (pc' := 57) (v := 24) K dX7_explains_55 (by decide) rfl ?_
        refine x_iload_n (pc' := 58) K dX7_explains_57 1 rfl rfl ?_
        refine x_imul (pc' := 59) K dX7_explains_58 rfl ?_
        refine x_iload (pc' := 61) K dX7_explains_59 3 rfl rfl ?_
        refine x_iadd (pc' := 62) K dX7_explains_61 rfl ?_
        obtain ⟨i62, h⟩ := h
        refine xw7_14l (pc' := 63) K i62 rfl dX7_explains_62 rfl ?_
        refine x_icmp_ne (tgt := 70) (pc' := 66) K dX7_explains_63 rfl rfl (fun c63 => ?_) (fun c63 => ?_)
        · replace h := h.1 c63
          refine x_iconst (pc' := 71) (v := 0) K dX7_explains_70 (by decide) rfl ?_
          refine x_istore (pc' := 73) (i := 6) K dX7_explains_71 (by decide) [1, 2, 0, 3] (L' := [(0, .ref (a 0)), (1, .int _), (6, .int _), (7, .int _)]) rfl rfl ?_
          refine x_iinc (pc' := 76) (v := _ + (1 : Int32)) K dX7_explains_73 3 rfl rfl (by decide) [1, 2, 3, 0] (L' := [(0, .ref (a 0)), (1, .int _), (6, .int _), (7, .int _)]) rfl rfl ?_
          refine x_goto (tgt := 32) K dX7_explains_76 rfl ?_
          exact ih _ _ _ _ _ h
        · replace h := h.2 c63
          refine x_iconst (pc' := 67) (v := 1) K dX7_explains_66 (by decide) rfl ?_
          refine x_goto (tgt := 71) K dX7_explains_67 rfl ?_
          refine x_istore (pc' := 73) (i := 6) K dX7_explains_71 (by decide) [1, 2, 0, 3] (L' := [(0, .ref (a 0)), (1, .int _), (6, .int _), (7, .int _)]) rfl rfl ?_
          refine x_iinc (pc' := 76) (v := _ + (1 : Int32)) K dX7_explains_73 3 rfl rfl (by decide) [1, 2, 3, 0] (L' := [(0, .ref (a 0)), (1, .int _), (6, .int _), (7, .int _)]) rfl rfl ?_
          refine x_goto (tgt := 32) K dX7_explains_76 rfl ?_
          exact ih _ _ _ _ _ h
set_option maxHeartbeats 4000000 in
set_option maxRecDepth 100000 in
theorem mX7_explains (l : Launch) (D : va_G) (cI cO : ClassId) (a : Nat → Nat)  (x1 : Int32) (x2 : Int32) (x3 : Int32) (x4 : Int32) : MI l yX7_explains wsX7_explains rmX7_explains D (xtys cI cO) [.ref (a 0), .int x1, .int x2, .int x3, .int x4] (w7 cI a) (qX7_explains x1 x2 x3 x4) := by
  refine MZ_of (cc := cX7_explains) (maxL := 8) (own := RX7) (by decide) rfl rfl (Nat.le_of_ble_eq_true rfl) ?_
  intro p e s m args below meth c A F G Q h K
  refine x_locals [0, 1, 2, 3, 4] (L' := [(0, .ref (a 0)), (1, .int _), (2, .int _), (3, .int _), (4, .int _)]) rfl ?_
  refine x_aload_n (pc' := 1) K dX7_explains_0 0 rfl rfl ?_
  refine x_callV (pc' := 4) K (mX7_layDown l D cI cO a) rfl gX7_explains_X7_layDown rfl dsX7_layDown ⟨rfl, rfl, ⟨Nat.le_of_ble_eq_true rfl, Nat.le_of_ble_eq_true rfl⟩, Nat.le_of_ble_eq_true rfl, Nat.le_of_ble_eq_true rfl⟩ h 7 0 rfl rfl (st := []) rfl rfl (Nat.le_of_ble_eq_true rfl) dX7_explains_1 rfl (fun F1 G1 h => ?_)
  refine x_aload_n (pc' := 5) K dX7_explains_4 0 rfl rfl ?_
  refine x_iload_n (pc' := 6) K dX7_explains_5 2 rfl rfl ?_
  refine x_iconst (pc' := 7) (v := 0) K dX7_explains_6 (by decide) rfl ?_
  refine x_iconst (pc' := 8) (v := 3) K dX7_explains_7 (by decide) rfl ?_
  refine x_callV (pc' := 11) K (mX7_lays1 l D cI cO a _ _ _) rfl gX7_explains_X7_lays1 rfl dsX7_lays1 ⟨rfl, rfl, ⟨Nat.le_of_ble_eq_true rfl, Nat.le_of_ble_eq_true rfl⟩, Nat.le_of_ble_eq_true rfl, Nat.le_of_ble_eq_true rfl⟩ h 7 0 rfl rfl (st := []) rfl rfl (Nat.le_of_ble_eq_true rfl) dX7_explains_8 rfl (fun F8 G8 h => ?_)
  refine x_aload_n (pc' := 12) K dX7_explains_11 0 rfl rfl ?_
  refine x_iload_n (pc' := 13) K dX7_explains_12 2 rfl rfl ?_
  refine x_iconst (pc' := 14) (v := 1) K dX7_explains_13 (by decide) rfl ?_
  refine x_iload_n (pc' := 15) K dX7_explains_14 3 rfl rfl ?_
  refine x_callV (pc' := 18) K (mX7_lays1 l D cI cO a _ _ _) rfl gX7_explains_X7_lays1 rfl dsX7_lays1 ⟨rfl, rfl, ⟨Nat.le_of_ble_eq_true rfl, Nat.le_of_ble_eq_true rfl⟩, Nat.le_of_ble_eq_true rfl, Nat.le_of_ble_eq_true rfl⟩ h 7 0 rfl rfl (st := []) rfl rfl (Nat.le_of_ble_eq_true rfl) dX7_explains_15 rfl (fun F15 G15 h => ?_)
  refine x_aload_n (pc' := 19) K dX7_explains_18 0 rfl rfl ?_
  refine x_iload (pc' := 21) K dX7_explains_19 4 rfl rfl ?_
  refine x_callI (pc' := 24) K (mX7_go l D cI cO a _) rfl gX7_explains_X7_go rfl dsX7_go ⟨rfl, rfl, ⟨Nat.le_of_ble_eq_true rfl, Nat.le_of_ble_eq_true rfl⟩, Nat.le_of_ble_eq_true rfl, Nat.le_of_ble_eq_true rfl⟩ h 7 0 rfl rfl (st := []) rfl rfl (Nat.le_of_ble_eq_true rfl) dX7_explains_21 rfl (fun r21 F21 G21 h => ?_)
  refine x_istore (pc' := 26) (i := 5) K dX7_explains_24 (by decide) [1, 2, 3, 4, 5, 0] (L' := [(0, .ref (a 0)), (1, .int _), (2, .int _), (3, .int _), (4, .int _), (5, .int _)]) rfl rfl ?_
  refine x_iconst (pc' := 27) (v := 1) K dX7_explains_26 (by decide) rfl ?_
  refine x_istore (pc' := 29) (i := 6) K dX7_explains_27 (by decide) [1, 2, 3, 4, 5, 6, 0] (L' := [(0, .ref (a 0)), (1, .int _), (2, .int _), (3, .int _), (4, .int _), (5, .int _), (6, .int _)]) rfl rfl ?_
  refine x_iconst (pc' := 30) (v := 0) K dX7_explains_29 (by decide) rfl ?_
  refine x_istore (pc' := 32) (i := 7) K dX7_explains_30 (by decide) [1, 2, 3, 4, 5, 6, 7, 0] (L' := [(0, .ref (a 0)), (1, .int _), (2, .int _), (3, .int _), (4, .int _), (5, .int _), (6, .int _), (7, .int _)]) rfl rfl ?_
  refine x_locals [0, 1, 6, 7] (L' := [(0, .ref (a 0)), (1, .int _), (6, .int _), (7, .int _)]) rfl ?_
  obtain ⟨n32, h⟩ := h
  exact tX7_explains_32 K n32 _ _ _ _ _ h
/-! X7_begins -/
abbrev rmX7_begins : Room := { frames := 2, cells := 0, slots := 0, locals := 60 }
theorem dsX7_begins : xDesc yX7_begins 1 := by decide +kernel
theorem uX7_begins_f227 : Cond.fieldLink RX7 227 "PigNinthsModel" "traced" "I" ∈ wsX7_begins := nw_in nwl_X7_begins nwe_739 (by decide +kernel)
theorem hinX7_begins_X7 : ∀ w ∈ wsX70, w ∈ wsX7_begins := nw_all nwl_X7_begins nwl_X70 (by decide +kernel)
theorem uX7_begins_f44 : Cond.fieldLink RX7 44 "PigNinthsModel" "trace" "[I" ∈ wsX7_begins := nw_in nwl_X7_begins nwe_526 (by decide +kernel)
set_option maxHeartbeats 4000000 in
set_option maxRecDepth 100000 in
theorem mX7_begins (l : Launch) (D : va_G) (cI cO : ClassId) (a : Nat → Nat)  (x1 : Int32) : MV l yX7_begins wsX7_begins rmX7_begins D (xtys cI cO) [.ref (a 0), .int x1] (w7 cI a) (qX7_begins x1) := by
  refine MV_of (cc := cX7_begins) (maxL := 2) (own := RX7) (by decide) rfl rfl (Nat.le_of_ble_eq_true rfl) ?_
  intro p e s m args below meth c A F G Q h K
  refine x_locals [0, 1] (L' := [(0, .ref (a 0)), (1, .int _)]) rfl ?_
  refine x_aload_n (pc' := 1) K dX7_begins_0 0 rfl rfl ?_
  refine xw7_0g_traced (pc' := 4) K hinX7_begins_X7 uX7_begins_f227 dX7_begins_1 rfl ?_
  refine x_bipush (pc' := 6) (v := 30) K dX7_begins_4 (by decide) rfl ?_
  refine x_icmp_ge (tgt := 29) (pc' := 9) K dX7_begins_6 rfl rfl (fun c6 => ?_) (fun c6 => ?_)
  · replace h := h.1 c6
    exact x_vret (wf := w7 cI a) K h dX7_begins_29
  · replace h := h.2 c6
    refine x_aload_n (pc' := 10) K dX7_begins_9 0 rfl rfl ?_
    refine xw7_0g_trace (pc' := 13) K hinX7_begins_X7 uX7_begins_f44 dX7_begins_10 rfl ?_
    refine x_aload_n (pc' := 14) K dX7_begins_13 0 rfl rfl ?_
    refine xw7_0g_traced (pc' := 17) K hinX7_begins_X7 uX7_begins_f227 dX7_begins_14 rfl ?_
    refine x_iload_n (pc' := 18) K dX7_begins_17 1 rfl rfl ?_
    obtain ⟨i18, h⟩ := h
    refine xw7_11s (pc' := 19) K i18 rfl dX7_begins_18 rfl (fun G18 eG18 => ?_)
    replace h := h G18 eG18
    refine x_aload_n (pc' := 20) K dX7_begins_19 0 rfl rfl ?_
    refine x_dup (pc' := 21) K dX7_begins_20 rfl rfl ?_
    refine xw7_0g_traced (pc' := 24) K hinX7_begins_X7 uX7_begins_f227 dX7_begins_21 rfl ?_
    refine x_iconst (pc' := 25) (v := 1) K dX7_begins_24 (by decide) rfl ?_
    refine x_iadd (pc' := 26) K dX7_begins_25 rfl ?_
    refine xw7_0p_traced (pc' := 29) K hinX7_begins_X7 uX7_begins_f227 dX7_begins_26 rfl (fun F26 eF26 => ?_)
    replace h := h F26 eF26
    exact x_vret (wf := w7 cI a) K h dX7_begins_29
/-! X7_above -/
abbrev rmX7_above : Room := { frames := 2, cells := 0, slots := 0, locals := 60 }
theorem dsX7_above : xDesc yX7_above 1 := by decide +kernel
set_option maxHeartbeats 4000000 in
set_option maxRecDepth 100000 in
theorem mX7_above (l : Launch) (D : va_G) (cI cO : ClassId) (a : Nat → Nat)  (x0 : Int32) : MS l yX7_above wsX7_above rmX7_above D (xtys cI cO) [.int x0] (qX7_above x0) := by
  refine MS_of (cc := cX7_above) (maxL := 1) (own := RX7) (by decide) rfl rfl (Nat.le_of_ble_eq_true rfl) ?_
  intro p e s m args below meth c A Q h K
  refine x_locals [0] (L' := [(0, .int _)]) rfl ?_
  refine x_iload_n (pc' := 1) K dX7_above_0 0 rfl rfl ?_
  refine x_iconst (pc' := 2) (v := 4) K dX7_above_1 (by decide) rfl ?_
  refine x_icmp_ne (tgt := 9) (pc' := 5) K dX7_above_2 rfl rfl (fun c2 => ?_) (fun c2 => ?_)
  · replace h := h.1 c2
    refine x_iload_n (pc' := 10) K dX7_above_9 0 rfl rfl ?_
    refine x_iconst (pc' := 11) (v := 5) K dX7_above_10 (by decide) rfl ?_
    refine x_icmp_ne (tgt := 18) (pc' := 14) K dX7_above_11 rfl rfl (fun c11 => ?_) (fun c11 => ?_)
    · replace h := h.1 c11
      refine x_iconst (pc' := 19) (v := 0) K dX7_above_18 (by decide) rfl ?_
      exact x_siret K h dX7_above_19
    · replace h := h.2 c11
      refine x_iconst (pc' := 15) (v := 2) K dX7_above_14 (by decide) rfl ?_
      refine x_goto (tgt := 19) K dX7_above_15 rfl ?_
      exact x_siret K h dX7_above_19
  · replace h := h.2 c2
    refine x_iconst (pc' := 6) (v := 1) K dX7_above_5 (by decide) rfl ?_
    refine x_goto (tgt := 19) K dX7_above_6 rfl ?_
    exact x_siret K h dX7_above_19
/-! X7_kindNow -/
abbrev rmX7_kindNow : Room := { frames := 3, cells := 0, slots := 0, locals := 82 }
theorem dsX7_kindNow : xDesc yX7_kindNow 0 := by decide +kernel
theorem uX7_kindNow_f230 : Cond.fieldLink RX7 230 "PigNinthsModel" "speaks" "I" ∈ wsX7_kindNow := nw_in nwl_X7_kindNow nwe_742 (by decide +kernel)
theorem hinX7_kindNow_X7 : ∀ w ∈ wsX70, w ∈ wsX7_kindNow := nw_all nwl_X7_kindNow nwl_X70 (by decide +kernel)
set_option maxHeartbeats 4000000 in
set_option maxRecDepth 100000 in
theorem mX7_kindNow (l : Launch) (D : va_G) (cI cO : ClassId) (a : Nat → Nat)   : MI l yX7_kindNow wsX7_kindNow rmX7_kindNow D (xtys cI cO) [.ref (a 0)] (w7 cI a) qX7_kindNow := by
  refine MI_of (cc := cX7_kindNow) (maxL := 1) (own := RX7) (by decide) rfl rfl (Nat.le_of_ble_eq_true rfl) ?_
  intro p e s m args below meth c A F G Q h K
  refine x_locals [0] (L' := [(0, .ref (a 0))]) rfl ?_
  refine x_aload_n (pc' := 1) K dX7_kindNow_0 0 rfl rfl ?_
  refine x_aload_n (pc' := 2) K dX7_kindNow_1 0 rfl rfl ?_
  refine xw7_0g_speaks (pc' := 5) K hinX7_kindNow_X7 uX7_kindNow_f230 dX7_kindNow_2 rfl ?_
  refine x_iconst (pc' := 6) (v := 0) K dX7_kindNow_5 (by decide) rfl ?_
  refine x_callI (pc' := 9) K (mX7_its l D cI cO a _ _) rfl gX7_kindNow_X7_its rfl dsX7_its ⟨rfl, rfl, ⟨Nat.le_of_ble_eq_true rfl, Nat.le_of_ble_eq_true rfl⟩, Nat.le_of_ble_eq_true rfl, Nat.le_of_ble_eq_true rfl⟩ h 7 0 rfl rfl (st := []) rfl rfl (Nat.le_of_ble_eq_true rfl) dX7_kindNow_6 rfl (fun r6 F6 G6 h => ?_)
  exact x_iret (wf := w7 cI a) K h dX7_kindNow_9
/-! X7_mNow -/
abbrev rmX7_mNow : Room := { frames := 3, cells := 0, slots := 0, locals := 82 }
theorem dsX7_mNow : xDesc yX7_mNow 0 := by decide +kernel
theorem uX7_mNow_f230 : Cond.fieldLink RX7 230 "PigNinthsModel" "speaks" "I" ∈ wsX7_mNow := nw_in nwl_X7_mNow nwe_742 (by decide +kernel)
theorem hinX7_mNow_X7 : ∀ w ∈ wsX70, w ∈ wsX7_mNow := nw_all nwl_X7_mNow nwl_X70 (by decide +kernel)
set_option maxHeartbeats 4000000 in
set_option maxRecDepth 100000 in
theorem mX7_mNow (l : Launch) (D : va_G) (cI cO : ClassId) (a : Nat → Nat)   : MI l yX7_mNow wsX7_mNow rmX7_mNow D (xtys cI cO) [.ref (a 0)] (w7 cI a) qX7_mNow := by
  refine MI_of (cc := cX7_mNow) (maxL := 1) (own := RX7) (by decide) rfl rfl (Nat.le_of_ble_eq_true rfl) ?_
  intro p e s m args below meth c A F G Q h K
  refine x_locals [0] (L' := [(0, .ref (a 0))]) rfl ?_
  refine x_aload_n (pc' := 1) K dX7_mNow_0 0 rfl rfl ?_
  refine x_aload_n (pc' := 2) K dX7_mNow_1 0 rfl rfl ?_
  refine xw7_0g_speaks (pc' := 5) K hinX7_mNow_X7 uX7_mNow_f230 dX7_mNow_2 rfl ?_
  refine x_iconst (pc' := 6) (v := 1) K dX7_mNow_5 (by decide) rfl ?_
  refine x_callI (pc' := 9) K (mX7_its l D cI cO a _ _) rfl gX7_mNow_X7_its rfl dsX7_its ⟨rfl, rfl, ⟨Nat.le_of_ble_eq_true rfl, Nat.le_of_ble_eq_true rfl⟩, Nat.le_of_ble_eq_true rfl, Nat.le_of_ble_eq_true rfl⟩ h 7 0 rfl rfl (st := []) rfl rfl (Nat.le_of_ble_eq_true rfl) dX7_mNow_6 rfl (fun r6 F6 G6 h => ?_)
  exact x_iret (wf := w7 cI a) K h dX7_mNow_9
/-! X7_body -/
abbrev rmX7_body : Room := { frames := 3, cells := 0, slots := 0, locals := 82 }
theorem dsX7_body : xDesc yX7_body 1 := by decide +kernel
theorem uX7_body_f227 : Cond.fieldLink RX7 227 "PigNinthsModel" "traced" "I" ∈ wsX7_body := nw_in nwl_X7_body nwe_739 (by decide +kernel)
theorem hinX7_body_X7 : ∀ w ∈ wsX70, w ∈ wsX7_body := nw_all nwl_X7_body nwl_X70 (by decide +kernel)
theorem uX7_body_f44 : Cond.fieldLink RX7 44 "PigNinthsModel" "trace" "[I" ∈ wsX7_body := nw_in nwl_X7_body nwe_526 (by decide +kernel)
set_option maxHeartbeats 4000000 in
set_option maxRecDepth 100000 in
theorem mX7_body (l : Launch) (D : va_G) (cI cO : ClassId) (a : Nat → Nat)  (x1 : Int32) : MI l yX7_body wsX7_body rmX7_body D (xtys cI cO) [.ref (a 0), .int x1] (w7 cI a) (qX7_body x1) := by
  refine MI_of (cc := cX7_body) (maxL := 2) (own := RX7) (by decide) rfl rfl (Nat.le_of_ble_eq_true rfl) ?_
  intro p e s m args below meth c A F G Q h K
  refine x_locals [0, 1] (L' := [(0, .ref (a 0)), (1, .int _)]) rfl ?_
  refine x_iload_n (pc' := 1) K dX7_body_0 1 rfl rfl ?_
  refine x_iconst (pc' := 2) (v := 0) K dX7_body_1 (by decide) rfl ?_
  refine x_aload_n (pc' := 3) K dX7_body_2 0 rfl rfl ?_
  refine xw7_0g_traced (pc' := 6) K hinX7_body_X7 uX7_body_f227 dX7_body_3 rfl ?_
  refine x_iconst (pc' := 7) (v := 1) K dX7_body_6 (by decide) rfl ?_
  refine x_isub (pc' := 8) K dX7_body_7 rfl ?_
  refine x_callS (pc' := 11) K (mX7_in l D cI cO a _ _ _) rfl gX7_body_X7_in dsX7_in ⟨rfl, rfl, ⟨Nat.le_of_ble_eq_true rfl, Nat.le_of_ble_eq_true rfl⟩, Nat.le_of_ble_eq_true rfl, Nat.le_of_ble_eq_true rfl⟩ h (st := []) rfl rfl (Nat.le_of_ble_eq_true rfl) dX7_body_8 rfl (fun r8 h => ?_)
  refine x_if_eq (tgt := 23) (pc' := 14) K dX7_body_11 rfl rfl (fun c11 => ?_) (fun c11 => ?_)
  · replace h := h.1 c11
    refine x_aload_n (pc' := 24) K dX7_body_23 0 rfl rfl ?_
    refine x_iconst (pc' := 25) (v := 2) K dX7_body_24 (by decide) rfl ?_
    refine x_callI (pc' := 28) K (mX7_error l D cI cO a _) rfl gX7_body_X7_error rfl dsX7_error ⟨rfl, rfl, ⟨Nat.le_of_ble_eq_true rfl, Nat.le_of_ble_eq_true rfl⟩, Nat.le_of_ble_eq_true rfl, Nat.le_of_ble_eq_true rfl⟩ h 7 0 rfl rfl (st := []) rfl rfl (Nat.le_of_ble_eq_true rfl) dX7_body_25 rfl (fun r25 F25 G25 h => ?_)
    exact x_iret (wf := w7 cI a) K h dX7_body_28
  · replace h := h.2 c11
    refine x_aload_n (pc' := 15) K dX7_body_14 0 rfl rfl ?_
    refine xw7_0g_trace (pc' := 18) K hinX7_body_X7 uX7_body_f44 dX7_body_15 rfl ?_
    refine x_iload_n (pc' := 19) K dX7_body_18 1 rfl rfl ?_
    obtain ⟨i19, h⟩ := h
    refine xw7_11l (pc' := 20) K i19 rfl dX7_body_19 rfl ?_
    refine x_goto (tgt := 28) K dX7_body_20 rfl ?_
    exact x_iret (wf := w7 cI a) K h dX7_body_28
/-! X7_isSheet -/
abbrev rmX7_isSheet : Room := { frames := 3, cells := 0, slots := 0, locals := 82 }
theorem dsX7_isSheet : xDesc yX7_isSheet 1 := by decide +kernel
set_option maxHeartbeats 4000000 in
set_option maxRecDepth 100000 in
theorem mX7_isSheet (l : Launch) (D : va_G) (cI cO : ClassId) (a : Nat → Nat)  (x0 : Int32) : MS l yX7_isSheet wsX7_isSheet rmX7_isSheet D (xtys cI cO) [.int x0] (qX7_isSheet x0) := by
  refine MSZ_of (cc := cX7_isSheet) (maxL := 1) (own := RX7) (by decide) rfl rfl (Nat.le_of_ble_eq_true rfl) ?_
  intro p e s m args below meth c A Q h K
  refine x_locals [0] (L' := [(0, .int _)]) rfl ?_
  refine x_iload_n (pc' := 1) K dX7_isSheet_0 0 rfl rfl ?_
  refine x_iconst (pc' := 2) (v := 0) K dX7_isSheet_1 (by decide) rfl ?_
  refine x_iconst (pc' := 3) (v := 3) K dX7_isSheet_2 (by decide) rfl ?_
  refine x_callS (pc' := 6) K (mX7_in l D cI cO a _ _ _) rfl gX7_isSheet_X7_in dsX7_in ⟨rfl, rfl, ⟨Nat.le_of_ble_eq_true rfl, Nat.le_of_ble_eq_true rfl⟩, Nat.le_of_ble_eq_true rfl, Nat.le_of_ble_eq_true rfl⟩ h (st := []) rfl rfl (Nat.le_of_ble_eq_true rfl) dX7_isSheet_3 rfl (fun r3 h => ?_)
  obtain ⟨z6, h⟩ := h
  exact x_szret K z6 h dX7_isSheet_6
/-! X7_sheet -/
abbrev rmX7_sheet : Room := { frames := 4, cells := 0, slots := 0, locals := 102 }
theorem dsX7_sheet : xDesc yX7_sheet 3 := by decide +kernel
theorem uX7_sheet_f47 : Cond.fieldLink RX7 47 "PigNinthsModel" "bits" "[I" ∈ wsX7_sheet := nw_in nwl_X7_sheet nwe_527 (by decide +kernel)
theorem hinX7_sheet_X7 : ∀ w ∈ wsX70, w ∈ wsX7_sheet := nw_all nwl_X7_sheet nwl_X70 (by decide +kernel)
theorem uX7_sheet_f50 : Cond.fieldLink RX7 50 "PigNinthsModel" "sizes" "[I" ∈ wsX7_sheet := nw_in nwl_X7_sheet nwe_528 (by decide +kernel)
theorem uX7_sheet_f53 : Cond.fieldLink RX7 53 "PigNinthsModel" "number" "[I" ∈ wsX7_sheet := nw_in nwl_X7_sheet nwe_529 (by decide +kernel)
set_option maxHeartbeats 4000000 in
set_option maxRecDepth 100000 in
theorem tX7_sheet_90 (K : XK p m c cX7_sheet 5 s args wsX7_sheet RX7 D (xtys cI cO) A meth (some .int)) {Q : Int32 → xF → xA → Prop} : ∀ (n : Nat), ∀ (x1 : Int32) (x4 : Int32) (F : xF) (G : xA), qX7_sheet_90 Q n x1 x4 F G → XJ p l e rmX7_sheet s m args below meth c 0 0 (MQ below (xQi D (w7 cI a) A Q) args s 0 0 A) D (xtys cI cO) A 5 (w7 cI a F G) 90 [(0, .ref (a 0)), (1, .int x1), (4, .int x4)] [] := by
  intro n
  induction n with
  | zero =>
    intro x1 x4 F G h
    exact False.elim h
  | succ n ih =>
    intro x1 x4 F G h
    refine x_iload (pc' := 92) K dX7_sheet_90 2 rfl rfl ?_
    refine x_bipush (pc' := 94) (v := 24) K dX7_sheet_92 (by decide) rfl ?_
    refine x_icmp_ge (tgt := 116) (pc' := 97) K dX7_sheet_94 rfl rfl (fun c94 => ?_) (fun c94 => ?_)
    · replace h := h.1 c94
      refine x_iconst (pc' := 117) (v := 1) K dX7_sheet_116 (by decide) rfl ?_
      exact x_iret (wf := w7 cI a) K h dX7_sheet_117
    · replace h := h.2 c94
      refine x_aload_n (pc' := 98) K dX7_sheet_97 0 rfl rfl ?_
      refine xw7_0g_number (pc' := 101) K hinX7_sheet_X7 uX7_sheet_f53 dX7_sheet_98 rfl ?_
      refine x_bipush (pc' := 103) (v := 24) K dX7_sheet_101 (by decide) rfl ?_
      refine x_iload_n (pc' := 104) K dX7_sheet_103 1 rfl rfl ?_
      refine x_imul (pc' := 105) K dX7_sheet_104 rfl ?_
      refine x_iload (pc' := 107) K dX7_sheet_105 2 rfl rfl ?_
      refine x_iadd (pc' := 108) K dX7_sheet_107 rfl ?_
      refine x_iconst (pc' := 109) (v := 0) K dX7_sheet_108 (by decide) rfl ?_
      obtain ⟨i109, h⟩ := h
      refine xw7_14s (pc' := 110) K i109 rfl dX7_sheet_109 rfl (fun G109 eG109 => ?_)
      replace h := h G109 eG109
      refine x_iinc (pc' := 113) (v := _ + (1 : Int32)) K dX7_sheet_110 2 rfl rfl (by decide) [1, 2, 0] (L' := [(0, .ref (a 0)), (1, .int _), (4, .int _)]) rfl rfl ?_
      refine x_goto (tgt := 90) K dX7_sheet_113 rfl ?_
      exact ih _ _ _ _ h
set_option maxHeartbeats 4000000 in
set_option maxRecDepth 100000 in
theorem tX7_sheet_65 (K : XK p m c cX7_sheet 5 s args wsX7_sheet RX7 D (xtys cI cO) A meth (some .int)) {Q : Int32 → xF → xA → Prop} : ∀ (x1 : Int32) (x2 : Int32) (x3 : Int32) (F : xF) (G : xA), qX7_sheet_65 Q x1 x2 x3 F G → XJ p l e rmX7_sheet s m args below meth c 0 0 (MQ below (xQi D (w7 cI a) A Q) args s 0 0 A) D (xtys cI cO) A 5 (w7 cI a F G) 65 [(0, .ref (a 0)), (1, .int x1), (2, .int x2), (3, .int x3)] [] := by
  intro x1 x2 x3 F G h
  refine x_aload_n (pc' := 66) K dX7_sheet_65 0 rfl rfl ?_
  refine xw7_0g_bits (pc' := 69) K hinX7_sheet_X7 uX7_sheet_f47 dX7_sheet_66 rfl ?_
  refine x_iload_n (pc' := 70) K dX7_sheet_69 1 rfl rfl ?_
  refine x_iload_n (pc' := 71) K dX7_sheet_70 2 rfl rfl ?_
  obtain ⟨i71, h⟩ := h
  refine xw7_12s (pc' := 72) K i71 rfl dX7_sheet_71 rfl (fun G71 eG71 => ?_)
  replace h := h G71 eG71
  refine x_aload_n (pc' := 73) K dX7_sheet_72 0 rfl rfl ?_
  refine xw7_0g_sizes (pc' := 76) K hinX7_sheet_X7 uX7_sheet_f50 dX7_sheet_73 rfl ?_
  refine x_iload_n (pc' := 77) K dX7_sheet_76 1 rfl rfl ?_
  refine x_iload_n (pc' := 78) K dX7_sheet_77 2 rfl rfl ?_
  refine x_if_ne (tgt := 85) (pc' := 81) K dX7_sheet_78 rfl rfl (fun c78 => ?_) (fun c78 => ?_)
  · replace h := h.1 c78
    refine x_iload_n (pc' := 86) K dX7_sheet_85 3 rfl rfl ?_
    obtain ⟨i86, h⟩ := h
    refine xw7_13s (pc' := 87) K i86 rfl dX7_sheet_86 rfl (fun G86 eG86 => ?_)
    replace h := h G86 eG86
    refine x_iconst (pc' := 88) (v := 0) K dX7_sheet_87 (by decide) rfl ?_
    refine x_istore (pc' := 90) (i := 4) K dX7_sheet_88 (by decide) [1, 2, 3, 4, 0] (L' := [(0, .ref (a 0)), (1, .int _), (2, .int _), (3, .int _), (4, .int _)]) rfl rfl ?_
    refine x_locals [0, 1, 4] (L' := [(0, .ref (a 0)), (1, .int _), (4, .int _)]) rfl ?_
    obtain ⟨n90, h⟩ := h
    exact tX7_sheet_90 K n90 _ _ _ _ h
  · replace h := h.2 c78
    refine x_iconst (pc' := 82) (v := 0) K dX7_sheet_81 (by decide) rfl ?_
    refine x_goto (tgt := 86) K dX7_sheet_82 rfl ?_
    obtain ⟨i86, h⟩ := h
    refine xw7_13s (pc' := 87) K i86 rfl dX7_sheet_86 rfl (fun G86 eG86 => ?_)
    replace h := h G86 eG86
    refine x_iconst (pc' := 88) (v := 0) K dX7_sheet_87 (by decide) rfl ?_
    refine x_istore (pc' := 90) (i := 4) K dX7_sheet_88 (by decide) [1, 2, 3, 4, 0] (L' := [(0, .ref (a 0)), (1, .int _), (2, .int _), (3, .int _), (4, .int _)]) rfl rfl ?_
    refine x_locals [0, 1, 4] (L' := [(0, .ref (a 0)), (1, .int _), (4, .int _)]) rfl ?_
    obtain ⟨n90, h⟩ := h
    exact tX7_sheet_90 K n90 _ _ _ _ h
set_option maxHeartbeats 4000000 in
set_option maxRecDepth 100000 in
theorem tX7_sheet_35 (K : XK p m c cX7_sheet 5 s args wsX7_sheet RX7 D (xtys cI cO) A meth (some .int)) {Q : Int32 → xF → xA → Prop} : ∀ (x1 : Int32) (x2 : Int32) (x3 : Int32) (F : xF) (G : xA), qX7_sheet_35 Q x1 x2 x3 F G → XJ p l e rmX7_sheet s m args below meth c 0 0 (MQ below (xQi D (w7 cI a) A Q) args s 0 0 A) D (xtys cI cO) A 5 (w7 cI a F G) 35 [(0, .ref (a 0)), (1, .int x1), (2, .int x2), (3, .int x3)] [] := by
  intro x1 x2 x3 F G h
  refine x_iload_n (pc' := 36) K dX7_sheet_35 2 rfl rfl ?_
  refine x_if_eq (tgt := 49) (pc' := 39) K dX7_sheet_36 rfl rfl (fun c36 => ?_) (fun c36 => ?_)
  · replace h := h.1 c36
    refine x_iload_n (pc' := 50) K dX7_sheet_49 2 rfl rfl ?_
    refine x_if_eq (tgt := 65) (pc' := 53) K dX7_sheet_50 rfl rfl (fun c50 => ?_) (fun c50 => ?_)
    · replace h := h.1 c50
      exact tX7_sheet_65 K _ _ _ _ _ h
    · replace h := h.2 c50
      refine x_iload_n (pc' := 54) K dX7_sheet_53 3 rfl rfl ?_
      refine x_bipush (pc' := 56) (v := 24) K dX7_sheet_54 (by decide) rfl ?_
      refine x_icmp_le (tgt := 65) (pc' := 59) K dX7_sheet_56 rfl rfl (fun c56 => ?_) (fun c56 => ?_)
      · replace h := h.1 c56
        exact tX7_sheet_65 K _ _ _ _ _ h
      · replace h := h.2 c56
        refine x_aload_n (pc' := 60) K dX7_sheet_59 0 rfl rfl ?_
        refine x_iconst (pc' := 61) (v := 1) K dX7_sheet_60 (by decide) rfl ?_
        refine x_callI (pc' := 64) K (mX7_error l D cI cO a _) rfl gX7_sheet_X7_error rfl dsX7_error ⟨rfl, rfl, ⟨Nat.le_of_ble_eq_true rfl, Nat.le_of_ble_eq_true rfl⟩, Nat.le_of_ble_eq_true rfl, Nat.le_of_ble_eq_true rfl⟩ h 7 0 rfl rfl (st := []) rfl rfl (Nat.le_of_ble_eq_true rfl) dX7_sheet_61 rfl (fun r61 F61 G61 h => ?_)
        exact x_iret (wf := w7 cI a) K h dX7_sheet_64
  · replace h := h.2 c36
    refine x_iload_n (pc' := 40) K dX7_sheet_39 3 rfl rfl ?_
    refine x_if_ge (tgt := 49) (pc' := 43) K dX7_sheet_40 rfl rfl (fun c40 => ?_) (fun c40 => ?_)
    · replace h := h.1 c40
      refine x_iload_n (pc' := 50) K dX7_sheet_49 2 rfl rfl ?_
      refine x_if_eq (tgt := 65) (pc' := 53) K dX7_sheet_50 rfl rfl (fun c50 => ?_) (fun c50 => ?_)
      · replace h := h.1 c50
        exact tX7_sheet_65 K _ _ _ _ _ h
      · replace h := h.2 c50
        refine x_iload_n (pc' := 54) K dX7_sheet_53 3 rfl rfl ?_
        refine x_bipush (pc' := 56) (v := 24) K dX7_sheet_54 (by decide) rfl ?_
        refine x_icmp_le (tgt := 65) (pc' := 59) K dX7_sheet_56 rfl rfl (fun c56 => ?_) (fun c56 => ?_)
        · replace h := h.1 c56
          exact tX7_sheet_65 K _ _ _ _ _ h
        · replace h := h.2 c56
          refine x_aload_n (pc' := 60) K dX7_sheet_59 0 rfl rfl ?_
          refine x_iconst (pc' := 61) (v := 1) K dX7_sheet_60 (by decide) rfl ?_
          refine x_callI (pc' := 64) K (mX7_error l D cI cO a _) rfl gX7_sheet_X7_error rfl dsX7_error ⟨rfl, rfl, ⟨Nat.le_of_ble_eq_true rfl, Nat.le_of_ble_eq_true rfl⟩, Nat.le_of_ble_eq_true rfl, Nat.le_of_ble_eq_true rfl⟩ h 7 0 rfl rfl (st := []) rfl rfl (Nat.le_of_ble_eq_true rfl) dX7_sheet_61 rfl (fun r61 F61 G61 h => ?_)
          exact x_iret (wf := w7 cI a) K h dX7_sheet_64
    · replace h := h.2 c40
      refine x_aload_n (pc' := 44) K dX7_sheet_43 0 rfl rfl ?_
      refine x_iconst (pc' := 45) (v := 3) K dX7_sheet_44 (by decide) rfl ?_
      refine x_callI (pc' := 48) K (mX7_error l D cI cO a _) rfl gX7_sheet_X7_error rfl dsX7_error ⟨rfl, rfl, ⟨Nat.le_of_ble_eq_true rfl, Nat.le_of_ble_eq_true rfl⟩, Nat.le_of_ble_eq_true rfl, Nat.le_of_ble_eq_true rfl⟩ h 7 0 rfl rfl (st := []) rfl rfl (Nat.le_of_ble_eq_true rfl) dX7_sheet_45 rfl (fun r45 F45 G45 h => ?_)
      exact x_iret (wf := w7 cI a) K h dX7_sheet_48
set_option maxHeartbeats 4000000 in
set_option maxRecDepth 100000 in
theorem mX7_sheet (l : Launch) (D : va_G) (cI cO : ClassId) (a : Nat → Nat)  (x1 : Int32) (x2 : Int32) (x3 : Int32) : MI l yX7_sheet wsX7_sheet rmX7_sheet D (xtys cI cO) [.ref (a 0), .int x1, .int x2, .int x3] (w7 cI a) (qX7_sheet x1 x2 x3) := by
  refine MI_of (cc := cX7_sheet) (maxL := 5) (own := RX7) (by decide) rfl rfl (Nat.le_of_ble_eq_true rfl) ?_
  intro p e s m args below meth c A F G Q h K
  refine x_locals [0, 1, 2, 3] (L' := [(0, .ref (a 0)), (1, .int _), (2, .int _), (3, .int _)]) rfl ?_
  refine x_iload_n (pc' := 1) K dX7_sheet_0 1 rfl rfl ?_
  refine x_callS (pc' := 4) K (mX7_isSheet l D cI cO a _) rfl gX7_sheet_X7_isSheet dsX7_isSheet ⟨rfl, rfl, ⟨Nat.le_of_ble_eq_true rfl, Nat.le_of_ble_eq_true rfl⟩, Nat.le_of_ble_eq_true rfl, Nat.le_of_ble_eq_true rfl⟩ h (st := []) rfl rfl (Nat.le_of_ble_eq_true rfl) dX7_sheet_1 rfl (fun r1 h => ?_)
  refine x_if_eq (tgt := 29) (pc' := 7) K dX7_sheet_4 rfl rfl (fun c4 => ?_) (fun c4 => ?_)
  · replace h := h.1 c4
    refine x_aload_n (pc' := 30) K dX7_sheet_29 0 rfl rfl ?_
    refine x_iconst (pc' := 31) (v := 1) K dX7_sheet_30 (by decide) rfl ?_
    refine x_callI (pc' := 34) K (mX7_error l D cI cO a _) rfl gX7_sheet_X7_error rfl dsX7_error ⟨rfl, rfl, ⟨Nat.le_of_ble_eq_true rfl, Nat.le_of_ble_eq_true rfl⟩, Nat.le_of_ble_eq_true rfl, Nat.le_of_ble_eq_true rfl⟩ h 7 0 rfl rfl (st := []) rfl rfl (Nat.le_of_ble_eq_true rfl) dX7_sheet_31 rfl (fun r31 F31 G31 h => ?_)
    exact x_iret (wf := w7 cI a) K h dX7_sheet_34
  · replace h := h.2 c4
    refine x_iload_n (pc' := 8) K dX7_sheet_7 2 rfl rfl ?_
    refine x_if_eq (tgt := 35) (pc' := 11) K dX7_sheet_8 rfl rfl (fun c8 => ?_) (fun c8 => ?_)
    · replace h := h.1 c8
      exact tX7_sheet_35 K _ _ _ _ _ h
    · replace h := h.2 c8
      refine x_iload_n (pc' := 12) K dX7_sheet_11 2 rfl rfl ?_
      refine x_bipush (pc' := 14) (v := 8) K dX7_sheet_12 (by decide) rfl ?_
      refine x_icmp_eq (tgt := 35) (pc' := 17) K dX7_sheet_14 rfl rfl (fun c14 => ?_) (fun c14 => ?_)
      · replace h := h.1 c14
        exact tX7_sheet_35 K _ _ _ _ _ h
      · replace h := h.2 c14
        refine x_iload_n (pc' := 18) K dX7_sheet_17 2 rfl rfl ?_
        refine x_bipush (pc' := 20) (v := 16) K dX7_sheet_18 (by decide) rfl ?_
        refine x_icmp_eq (tgt := 35) (pc' := 23) K dX7_sheet_20 rfl rfl (fun c20 => ?_) (fun c20 => ?_)
        · replace h := h.1 c20
          exact tX7_sheet_35 K _ _ _ _ _ h
        · replace h := h.2 c20
          refine x_iload_n (pc' := 24) K dX7_sheet_23 2 rfl rfl ?_
          refine x_bipush (pc' := 26) (v := 32) K dX7_sheet_24 (by decide) rfl ?_
          refine x_icmp_eq (tgt := 35) (pc' := 29) K dX7_sheet_26 rfl rfl (fun c26 => ?_) (fun c26 => ?_)
          · replace h := h.1 c26
            exact tX7_sheet_35 K _ _ _ _ _ h
          · replace h := h.2 c26
            refine x_aload_n (pc' := 30) K dX7_sheet_29 0 rfl rfl ?_
            refine x_iconst (pc' := 31) (v := 1) K dX7_sheet_30 (by decide) rfl ?_
            refine x_callI (pc' := 34) K (mX7_error l D cI cO a _) rfl gX7_sheet_X7_error rfl dsX7_error ⟨rfl, rfl, ⟨Nat.le_of_ble_eq_true rfl, Nat.le_of_ble_eq_true rfl⟩, Nat.le_of_ble_eq_true rfl, Nat.le_of_ble_eq_true rfl⟩ h 7 0 rfl rfl (st := []) rfl rfl (Nat.le_of_ble_eq_true rfl) dX7_sheet_31 rfl (fun r31 F31 G31 h => ?_)
            exact x_iret (wf := w7 cI a) K h dX7_sheet_34
/-! X7_put -/
abbrev rmX7_put : Room := { frames := 4, cells := 0, slots := 0, locals := 102 }
theorem dsX7_put : xDesc yX7_put 3 := by decide +kernel
theorem uX7_put_f47 : Cond.fieldLink RX7 47 "PigNinthsModel" "bits" "[I" ∈ wsX7_put := nw_in nwl_X7_put nwe_527 (by decide +kernel)
theorem hinX7_put_X7 : ∀ w ∈ wsX70, w ∈ wsX7_put := nw_all nwl_X7_put nwl_X70 (by decide +kernel)
theorem uX7_put_f50 : Cond.fieldLink RX7 50 "PigNinthsModel" "sizes" "[I" ∈ wsX7_put := nw_in nwl_X7_put nwe_528 (by decide +kernel)
theorem uX7_put_f53 : Cond.fieldLink RX7 53 "PigNinthsModel" "number" "[I" ∈ wsX7_put := nw_in nwl_X7_put nwe_529 (by decide +kernel)
set_option maxHeartbeats 4000000 in
set_option maxRecDepth 100000 in
theorem mX7_put (l : Launch) (D : va_G) (cI cO : ClassId) (a : Nat → Nat)  (x1 : Int32) (x2 : Int32) (x3 : Int32) : MI l yX7_put wsX7_put rmX7_put D (xtys cI cO) [.ref (a 0), .int x1, .int x2, .int x3] (w7 cI a) (qX7_put x1 x2 x3) := by
  refine MI_of (cc := cX7_put) (maxL := 5) (own := RX7) (by decide) rfl rfl (Nat.le_of_ble_eq_true rfl) ?_
  intro p e s m args below meth c A F G Q h K
  refine x_locals [0, 1, 2, 3] (L' := [(0, .ref (a 0)), (1, .int _), (2, .int _), (3, .int _)]) rfl ?_
  refine x_iload_n (pc' := 1) K dX7_put_0 1 rfl rfl ?_
  refine x_callS (pc' := 4) K (mX7_isSheet l D cI cO a _) rfl gX7_put_X7_isSheet dsX7_isSheet ⟨rfl, rfl, ⟨Nat.le_of_ble_eq_true rfl, Nat.le_of_ble_eq_true rfl⟩, Nat.le_of_ble_eq_true rfl, Nat.le_of_ble_eq_true rfl⟩ h (st := []) rfl rfl (Nat.le_of_ble_eq_true rfl) dX7_put_1 rfl (fun r1 h => ?_)
  refine x_if_ne (tgt := 13) (pc' := 7) K dX7_put_4 rfl rfl (fun c4 => ?_) (fun c4 => ?_)
  · replace h := h.1 c4
    refine x_aload_n (pc' := 14) K dX7_put_13 0 rfl rfl ?_
    refine xw7_0g_bits (pc' := 17) K hinX7_put_X7 uX7_put_f47 dX7_put_14 rfl ?_
    refine x_iload_n (pc' := 18) K dX7_put_17 1 rfl rfl ?_
    obtain ⟨i18, h⟩ := h
    refine xw7_12l (pc' := 19) K i18 rfl dX7_put_18 rfl ?_
    refine x_if_ne (tgt := 28) (pc' := 22) K dX7_put_19 rfl rfl (fun c19 => ?_) (fun c19 => ?_)
    · replace h := h.1 c19
      refine x_iload_n (pc' := 29) K dX7_put_28 2 rfl rfl ?_
      refine x_iconst (pc' := 30) (v := 0) K dX7_put_29 (by decide) rfl ?_
      refine x_aload_n (pc' := 31) K dX7_put_30 0 rfl rfl ?_
      refine xw7_0g_sizes (pc' := 34) K hinX7_put_X7 uX7_put_f50 dX7_put_31 rfl ?_
      refine x_iload_n (pc' := 35) K dX7_put_34 1 rfl rfl ?_
      obtain ⟨i35, h⟩ := h
      refine xw7_13l (pc' := 36) K i35 rfl dX7_put_35 rfl ?_
      refine x_iconst (pc' := 37) (v := 1) K dX7_put_36 (by decide) rfl ?_
      refine x_isub (pc' := 38) K dX7_put_37 rfl ?_
      refine x_callS (pc' := 41) K (mX7_in l D cI cO a _ _ _) rfl gX7_put_X7_in dsX7_in ⟨rfl, rfl, ⟨Nat.le_of_ble_eq_true rfl, Nat.le_of_ble_eq_true rfl⟩, Nat.le_of_ble_eq_true rfl, Nat.le_of_ble_eq_true rfl⟩ h (st := []) rfl rfl (Nat.le_of_ble_eq_true rfl) dX7_put_38 rfl (fun r38 h => ?_)
      refine x_if_ne (tgt := 50) (pc' := 44) K dX7_put_41 rfl rfl (fun c41 => ?_) (fun c41 => ?_)
      · replace h := h.1 c41
        refine x_bipush (pc' := 52) (v := 32) K dX7_put_50 (by decide) rfl ?_
        refine x_aload_n (pc' := 53) K dX7_put_52 0 rfl rfl ?_
        refine xw7_0g_bits (pc' := 56) K hinX7_put_X7 uX7_put_f47 dX7_put_53 rfl ?_
        refine x_iload_n (pc' := 57) K dX7_put_56 1 rfl rfl ?_
        obtain ⟨i57, h⟩ := h
        refine xw7_12l (pc' := 58) K i57 rfl dX7_put_57 rfl ?_
        refine x_isub (pc' := 59) K dX7_put_58 rfl ?_
        refine x_istore (pc' := 61) (i := 4) K dX7_put_59 (by decide) [1, 2, 3, 4, 0] (L' := [(0, .ref (a 0)), (1, .int _), (2, .int _), (3, .int _), (4, .int _)]) rfl rfl ?_
        refine x_aload_n (pc' := 62) K dX7_put_61 0 rfl rfl ?_
        refine xw7_0g_number (pc' := 65) K hinX7_put_X7 uX7_put_f53 dX7_put_62 rfl ?_
        refine x_bipush (pc' := 67) (v := 24) K dX7_put_65 (by decide) rfl ?_
        refine x_iload_n (pc' := 68) K dX7_put_67 1 rfl rfl ?_
        refine x_imul (pc' := 69) K dX7_put_68 rfl ?_
        refine x_iload_n (pc' := 70) K dX7_put_69 2 rfl rfl ?_
        refine x_iadd (pc' := 71) K dX7_put_70 rfl ?_
        refine x_iload_n (pc' := 72) K dX7_put_71 3 rfl rfl ?_
        refine x_iload (pc' := 74) K dX7_put_72 4 rfl rfl ?_
        refine x_ishl (pc' := 75) K dX7_put_74 rfl ?_
        refine x_iload (pc' := 77) K dX7_put_75 4 rfl rfl ?_
        refine x_ishr (pc' := 78) K dX7_put_77 rfl ?_
        obtain ⟨i78, h⟩ := h
        refine xw7_14s (pc' := 79) K i78 rfl dX7_put_78 rfl (fun G78 eG78 => ?_)
        replace h := h G78 eG78
        refine x_iconst (pc' := 80) (v := 1) K dX7_put_79 (by decide) rfl ?_
        exact x_iret (wf := w7 cI a) K h dX7_put_80
      · replace h := h.2 c41
        refine x_aload_n (pc' := 45) K dX7_put_44 0 rfl rfl ?_
        refine x_iconst (pc' := 46) (v := 1) K dX7_put_45 (by decide) rfl ?_
        refine x_callI (pc' := 49) K (mX7_error l D cI cO a _) rfl gX7_put_X7_error rfl dsX7_error ⟨rfl, rfl, ⟨Nat.le_of_ble_eq_true rfl, Nat.le_of_ble_eq_true rfl⟩, Nat.le_of_ble_eq_true rfl, Nat.le_of_ble_eq_true rfl⟩ h 7 0 rfl rfl (st := []) rfl rfl (Nat.le_of_ble_eq_true rfl) dX7_put_46 rfl (fun r46 F46 G46 h => ?_)
        exact x_iret (wf := w7 cI a) K h dX7_put_49
    · replace h := h.2 c19
      refine x_aload_n (pc' := 23) K dX7_put_22 0 rfl rfl ?_
      refine x_iconst (pc' := 24) (v := 2) K dX7_put_23 (by decide) rfl ?_
      refine x_callI (pc' := 27) K (mX7_error l D cI cO a _) rfl gX7_put_X7_error rfl dsX7_error ⟨rfl, rfl, ⟨Nat.le_of_ble_eq_true rfl, Nat.le_of_ble_eq_true rfl⟩, Nat.le_of_ble_eq_true rfl, Nat.le_of_ble_eq_true rfl⟩ h 7 0 rfl rfl (st := []) rfl rfl (Nat.le_of_ble_eq_true rfl) dX7_put_24 rfl (fun r24 F24 G24 h => ?_)
      exact x_iret (wf := w7 cI a) K h dX7_put_27
  · replace h := h.2 c4
    refine x_aload_n (pc' := 8) K dX7_put_7 0 rfl rfl ?_
    refine x_iconst (pc' := 9) (v := 1) K dX7_put_8 (by decide) rfl ?_
    refine x_callI (pc' := 12) K (mX7_error l D cI cO a _) rfl gX7_put_X7_error rfl dsX7_error ⟨rfl, rfl, ⟨Nat.le_of_ble_eq_true rfl, Nat.le_of_ble_eq_true rfl⟩, Nat.le_of_ble_eq_true rfl, Nat.le_of_ble_eq_true rfl⟩ h 7 0 rfl rfl (st := []) rfl rfl (Nat.le_of_ble_eq_true rfl) dX7_put_9 rfl (fun r9 F9 G9 h => ?_)
    exact x_iret (wf := w7 cI a) K h dX7_put_12
/-! X7_move -/
abbrev rmX7_move : Room := { frames := 4, cells := 0, slots := 0, locals := 102 }
theorem dsX7_move : xDesc yX7_move 5 := by decide +kernel
theorem uX7_move_f47 : Cond.fieldLink RX7 47 "PigNinthsModel" "bits" "[I" ∈ wsX7_move := nw_in nwl_X7_move nwe_527 (by decide +kernel)
theorem hinX7_move_X7 : ∀ w ∈ wsX70, w ∈ wsX7_move := nw_all nwl_X7_move nwl_X70 (by decide +kernel)
theorem uX7_move_f50 : Cond.fieldLink RX7 50 "PigNinthsModel" "sizes" "[I" ∈ wsX7_move := nw_in nwl_X7_move nwe_528 (by decide +kernel)
theorem uX7_move_f56 : Cond.fieldLink RX7 56 "PigNinthsModel" "aside" "[I" ∈ wsX7_move := nw_in nwl_X7_move nwe_530 (by decide +kernel)
theorem uX7_move_f53 : Cond.fieldLink RX7 53 "PigNinthsModel" "number" "[I" ∈ wsX7_move := nw_in nwl_X7_move nwe_529 (by decide +kernel)
set_option maxHeartbeats 4000000 in
set_option maxRecDepth 100000 in
theorem tX7_move_152 (K : XK p m c cX7_move 7 s args wsX7_move RX7 D (xtys cI cO) A meth (some .int)) {Q : Int32 → xF → xA → Prop} : ∀ (n : Nat), ∀ (x3 : Int32) (x4 : Int32) (x5 : Int32) (x6 : Int32) (F : xF) (G : xA), qX7_move_152 Q n x3 x4 x5 x6 F G → XJ p l e rmX7_move s m args below meth c 0 0 (MQ below (xQi D (w7 cI a) A Q) args s 0 0 A) D (xtys cI cO) A 7 (w7 cI a F G) 152 [(0, .ref (a 0)), (3, .int x3), (4, .int x4), (5, .int x5), (6, .int x6)] [] := by
  intro n
  induction n with
  | zero =>
    intro x3 x4 x5 x6 F G h
    exact False.elim h
  | succ n ih =>
    intro x3 x4 x5 x6 F G h
    refine x_iload (pc' := 154) K dX7_move_152 4 rfl rfl ?_
    refine x_iload (pc' := 156) K dX7_move_154 3 rfl rfl ?_
    refine x_icmp_ge (tgt := 187) (pc' := 159) K dX7_move_156 rfl rfl (fun c156 => ?_) (fun c156 => ?_)
    · replace h := h.1 c156
      refine x_iload (pc' := 189) K dX7_move_187 3 rfl rfl ?_
      exact x_iret (wf := w7 cI a) K h dX7_move_189
    · replace h := h.2 c156
      refine x_aload_n (pc' := 160) K dX7_move_159 0 rfl rfl ?_
      refine xw7_0g_number (pc' := 163) K hinX7_move_X7 uX7_move_f53 dX7_move_160 rfl ?_
      refine x_bipush (pc' := 165) (v := 24) K dX7_move_163 (by decide) rfl ?_
      refine x_iload_n (pc' := 166) K dX7_move_165 1 rfl rfl ?_
      refine x_imul (pc' := 167) K dX7_move_166 rfl ?_
      refine x_iload (pc' := 169) K dX7_move_167 2 rfl rfl ?_
      refine x_iadd (pc' := 170) K dX7_move_169 rfl ?_
      refine x_iload (pc' := 172) K dX7_move_170 4 rfl rfl ?_
      refine x_iadd (pc' := 173) K dX7_move_172 rfl ?_
      refine x_aload_n (pc' := 174) K dX7_move_173 0 rfl rfl ?_
      refine xw7_0g_aside (pc' := 177) K hinX7_move_X7 uX7_move_f56 dX7_move_174 rfl ?_
      refine x_iload (pc' := 179) K dX7_move_177 4 rfl rfl ?_
      obtain ⟨i179, h⟩ := h
      refine xw7_15l (pc' := 180) K i179 rfl dX7_move_179 rfl ?_
      obtain ⟨i180, h⟩ := h
      refine xw7_14s (pc' := 181) K i180 rfl dX7_move_180 rfl (fun G180 eG180 => ?_)
      replace h := h G180 eG180
      refine x_iinc (pc' := 184) (v := _ + (1 : Int32)) K dX7_move_181 4 rfl rfl (by decide) [1, 2, 3, 4, 0] (L' := [(0, .ref (a 0)), (3, .int _), (4, .int _), (5, .int _), (6, .int _)]) rfl rfl ?_
      refine x_goto (tgt := 152) K dX7_move_184 rfl ?_
      exact ih _ _ _ _ _ _ h
set_option maxHeartbeats 4000000 in
set_option maxRecDepth 100000 in
theorem tX7_move_115 (K : XK p m c cX7_move 7 s args wsX7_move RX7 D (xtys cI cO) A meth (some .int)) {Q : Int32 → xF → xA → Prop} : ∀ (n : Nat), ∀ (x1 : Int32) (x2 : Int32) (x3 : Int32) (x4 : Int32) (x5 : Int32) (x6 : Int32) (F : xF) (G : xA), qX7_move_115 Q n x1 x2 x3 x4 x5 x6 F G → XJ p l e rmX7_move s m args below meth c 0 0 (MQ below (xQi D (w7 cI a) A Q) args s 0 0 A) D (xtys cI cO) A 7 (w7 cI a F G) 115 [(0, .ref (a 0)), (1, .int x1), (2, .int x2), (3, .int x3), (4, .int x4), (5, .int x5), (6, .int x6)] [] := by
  intro n
  induction n with
  | zero =>
    intro x1 x2 x3 x4 x5 x6 F G h
    exact False.elim h
  | succ n ih =>
    intro x1 x2 x3 x4 x5 x6 F G h
    refine x_iload (pc' := 117) K dX7_move_115 6 rfl rfl ?_
    refine x_iload (pc' := 119) K dX7_move_117 5 rfl rfl ?_
    refine x_icmp_ge (tgt := 149) (pc' := 122) K dX7_move_119 rfl rfl (fun c119 => ?_) (fun c119 => ?_)
    · replace h := h.1 c119
      refine x_iconst (pc' := 150) (v := 0) K dX7_move_149 (by decide) rfl ?_
      refine x_istore (pc' := 152) (i := 6) K dX7_move_150 (by decide) [1, 2, 3, 4, 5, 6, 0] (L' := [(0, .ref (a 0)), (1, .int _), (2, .int _), (3, .int _), (4, .int _), (5, .int _), (6, .int _)]) rfl rfl ?_
      refine x_locals [0, 3, 4, 5, 6] (L' := [(0, .ref (a 0)), (3, .int _), (4, .int _), (5, .int _), (6, .int _)]) rfl ?_
      obtain ⟨n152, h⟩ := h
      exact tX7_move_152 K n152 _ _ _ _ _ _ h
    · replace h := h.2 c119
      refine x_aload_n (pc' := 123) K dX7_move_122 0 rfl rfl ?_
      refine xw7_0g_aside (pc' := 126) K hinX7_move_X7 uX7_move_f56 dX7_move_123 rfl ?_
      refine x_iload (pc' := 128) K dX7_move_126 6 rfl rfl ?_
      refine x_aload_n (pc' := 129) K dX7_move_128 0 rfl rfl ?_
      refine xw7_0g_number (pc' := 132) K hinX7_move_X7 uX7_move_f53 dX7_move_129 rfl ?_
      refine x_bipush (pc' := 134) (v := 24) K dX7_move_132 (by decide) rfl ?_
      refine x_iload_n (pc' := 135) K dX7_move_134 1 rfl rfl ?_
      refine x_imul (pc' := 136) K dX7_move_135 rfl ?_
      refine x_iload_n (pc' := 137) K dX7_move_136 2 rfl rfl ?_
      refine x_iadd (pc' := 138) K dX7_move_137 rfl ?_
      refine x_iload (pc' := 140) K dX7_move_138 6 rfl rfl ?_
      refine x_iadd (pc' := 141) K dX7_move_140 rfl ?_
      obtain ⟨i141, h⟩ := h
      refine xw7_14l (pc' := 142) K i141 rfl dX7_move_141 rfl ?_
      obtain ⟨i142, h⟩ := h
      refine xw7_15s (pc' := 143) K i142 rfl dX7_move_142 rfl (fun G142 eG142 => ?_)
      replace h := h G142 eG142
      refine x_iinc (pc' := 146) (v := _ + (1 : Int32)) K dX7_move_143 6 rfl rfl (by decide) [1, 2, 3, 4, 5, 6, 0] (L' := [(0, .ref (a 0)), (1, .int _), (2, .int _), (3, .int _), (4, .int _), (5, .int _), (6, .int _)]) rfl rfl ?_
      refine x_goto (tgt := 115) K dX7_move_146 rfl ?_
      exact ih _ _ _ _ _ _ _ _ h
set_option maxHeartbeats 4000000 in
set_option maxRecDepth 100000 in
theorem mX7_move (l : Launch) (D : va_G) (cI cO : ClassId) (a : Nat → Nat)  (x1 : Int32) (x2 : Int32) (x3 : Int32) (x4 : Int32) (x5 : Int32) : MI l yX7_move wsX7_move rmX7_move D (xtys cI cO) [.ref (a 0), .int x1, .int x2, .int x3, .int x4, .int x5] (w7 cI a) (qX7_move x1 x2 x3 x4 x5) := by
  refine MI_of (cc := cX7_move) (maxL := 7) (own := RX7) (by decide) rfl rfl (Nat.le_of_ble_eq_true rfl) ?_
  intro p e s m args below meth c A F G Q h K
  refine x_locals [0, 1, 2, 3, 4, 5] (L' := [(0, .ref (a 0)), (1, .int _), (2, .int _), (3, .int _), (4, .int _), (5, .int _)]) rfl ?_
  refine x_iload_n (pc' := 1) K dX7_move_0 1 rfl rfl ?_
  refine x_callS (pc' := 4) K (mX7_isSheet l D cI cO a _) rfl gX7_move_X7_isSheet dsX7_isSheet ⟨rfl, rfl, ⟨Nat.le_of_ble_eq_true rfl, Nat.le_of_ble_eq_true rfl⟩, Nat.le_of_ble_eq_true rfl, Nat.le_of_ble_eq_true rfl⟩ h (st := []) rfl rfl (Nat.le_of_ble_eq_true rfl) dX7_move_1 rfl (fun r1 h => ?_)
  refine x_if_eq (tgt := 14) (pc' := 7) K dX7_move_4 rfl rfl (fun c4 => ?_) (fun c4 => ?_)
  · replace h := h.1 c4
    refine x_aload_n (pc' := 15) K dX7_move_14 0 rfl rfl ?_
    refine x_iconst (pc' := 16) (v := 1) K dX7_move_15 (by decide) rfl ?_
    refine x_callI (pc' := 19) K (mX7_error l D cI cO a _) rfl gX7_move_X7_error rfl dsX7_error ⟨rfl, rfl, ⟨Nat.le_of_ble_eq_true rfl, Nat.le_of_ble_eq_true rfl⟩, Nat.le_of_ble_eq_true rfl, Nat.le_of_ble_eq_true rfl⟩ h 7 0 rfl rfl (st := []) rfl rfl (Nat.le_of_ble_eq_true rfl) dX7_move_16 rfl (fun r16 F16 G16 h => ?_)
    exact x_iret (wf := w7 cI a) K h dX7_move_19
  · replace h := h.2 c4
    refine x_iload_n (pc' := 8) K dX7_move_7 3 rfl rfl ?_
    refine x_callS (pc' := 11) K (mX7_isSheet l D cI cO a _) rfl gX7_move_X7_isSheet dsX7_isSheet ⟨rfl, rfl, ⟨Nat.le_of_ble_eq_true rfl, Nat.le_of_ble_eq_true rfl⟩, Nat.le_of_ble_eq_true rfl, Nat.le_of_ble_eq_true rfl⟩ h (st := []) rfl rfl (Nat.le_of_ble_eq_true rfl) dX7_move_8 rfl (fun r8 h => ?_)
    refine x_if_ne (tgt := 20) (pc' := 14) K dX7_move_11 rfl rfl (fun c11 => ?_) (fun c11 => ?_)
    · replace h := h.1 c11
      refine x_aload_n (pc' := 21) K dX7_move_20 0 rfl rfl ?_
      refine xw7_0g_bits (pc' := 24) K hinX7_move_X7 uX7_move_f47 dX7_move_21 rfl ?_
      refine x_iload_n (pc' := 25) K dX7_move_24 1 rfl rfl ?_
      obtain ⟨i25, h⟩ := h
      refine xw7_12l (pc' := 26) K i25 rfl dX7_move_25 rfl ?_
      refine x_if_eq (tgt := 38) (pc' := 29) K dX7_move_26 rfl rfl (fun c26 => ?_) (fun c26 => ?_)
      · replace h := h.1 c26
        refine x_aload_n (pc' := 39) K dX7_move_38 0 rfl rfl ?_
        refine x_iconst (pc' := 40) (v := 2) K dX7_move_39 (by decide) rfl ?_
        refine x_callI (pc' := 43) K (mX7_error l D cI cO a _) rfl gX7_move_X7_error rfl dsX7_error ⟨rfl, rfl, ⟨Nat.le_of_ble_eq_true rfl, Nat.le_of_ble_eq_true rfl⟩, Nat.le_of_ble_eq_true rfl, Nat.le_of_ble_eq_true rfl⟩ h 7 0 rfl rfl (st := []) rfl rfl (Nat.le_of_ble_eq_true rfl) dX7_move_40 rfl (fun r40 F40 G40 h => ?_)
        exact x_iret (wf := w7 cI a) K h dX7_move_43
      · replace h := h.2 c26
        refine x_aload_n (pc' := 30) K dX7_move_29 0 rfl rfl ?_
        refine xw7_0g_bits (pc' := 33) K hinX7_move_X7 uX7_move_f47 dX7_move_30 rfl ?_
        refine x_iload_n (pc' := 34) K dX7_move_33 3 rfl rfl ?_
        obtain ⟨i34, h⟩ := h
        refine xw7_12l (pc' := 35) K i34 rfl dX7_move_34 rfl ?_
        refine x_if_ne (tgt := 44) (pc' := 38) K dX7_move_35 rfl rfl (fun c35 => ?_) (fun c35 => ?_)
        · replace h := h.1 c35
          refine x_aload_n (pc' := 45) K dX7_move_44 0 rfl rfl ?_
          refine xw7_0g_bits (pc' := 48) K hinX7_move_X7 uX7_move_f47 dX7_move_45 rfl ?_
          refine x_iload_n (pc' := 49) K dX7_move_48 1 rfl rfl ?_
          obtain ⟨i49, h⟩ := h
          refine xw7_12l (pc' := 50) K i49 rfl dX7_move_49 rfl ?_
          refine x_aload_n (pc' := 51) K dX7_move_50 0 rfl rfl ?_
          refine xw7_0g_bits (pc' := 54) K hinX7_move_X7 uX7_move_f47 dX7_move_51 rfl ?_
          refine x_iload_n (pc' := 55) K dX7_move_54 3 rfl rfl ?_
          obtain ⟨i55, h⟩ := h
          refine xw7_12l (pc' := 56) K i55 rfl dX7_move_55 rfl ?_
          refine x_icmp_eq (tgt := 65) (pc' := 59) K dX7_move_56 rfl rfl (fun c56 => ?_) (fun c56 => ?_)
          · replace h := h.1 c56
            refine x_iload (pc' := 67) K dX7_move_65 5 rfl rfl ?_
            refine x_if_lt (tgt := 106) (pc' := 70) K dX7_move_67 rfl rfl (fun c67 => ?_) (fun c67 => ?_)
            · replace h := h.1 c67
              refine x_aload_n (pc' := 107) K dX7_move_106 0 rfl rfl ?_
              refine x_iconst (pc' := 108) (v := 1) K dX7_move_107 (by decide) rfl ?_
              refine x_callI (pc' := 111) K (mX7_error l D cI cO a _) rfl gX7_move_X7_error rfl dsX7_error ⟨rfl, rfl, ⟨Nat.le_of_ble_eq_true rfl, Nat.le_of_ble_eq_true rfl⟩, Nat.le_of_ble_eq_true rfl, Nat.le_of_ble_eq_true rfl⟩ h 7 0 rfl rfl (st := []) rfl rfl (Nat.le_of_ble_eq_true rfl) dX7_move_108 rfl (fun r108 F108 G108 h => ?_)
              exact x_iret (wf := w7 cI a) K h dX7_move_111
            · replace h := h.2 c67
              refine x_iload_n (pc' := 71) K dX7_move_70 2 rfl rfl ?_
              refine x_if_lt (tgt := 106) (pc' := 74) K dX7_move_71 rfl rfl (fun c71 => ?_) (fun c71 => ?_)
              · replace h := h.1 c71
                refine x_aload_n (pc' := 107) K dX7_move_106 0 rfl rfl ?_
                refine x_iconst (pc' := 108) (v := 1) K dX7_move_107 (by decide) rfl ?_
                refine x_callI (pc' := 111) K (mX7_error l D cI cO a _) rfl gX7_move_X7_error rfl dsX7_error ⟨rfl, rfl, ⟨Nat.le_of_ble_eq_true rfl, Nat.le_of_ble_eq_true rfl⟩, Nat.le_of_ble_eq_true rfl, Nat.le_of_ble_eq_true rfl⟩ h 7 0 rfl rfl (st := []) rfl rfl (Nat.le_of_ble_eq_true rfl) dX7_move_108 rfl (fun r108 F108 G108 h => ?_)
                exact x_iret (wf := w7 cI a) K h dX7_move_111
              · replace h := h.2 c71
                refine x_iload (pc' := 76) K dX7_move_74 4 rfl rfl ?_
                refine x_if_lt (tgt := 106) (pc' := 79) K dX7_move_76 rfl rfl (fun c76 => ?_) (fun c76 => ?_)
                · replace h := h.1 c76
                  refine x_aload_n (pc' := 107) K dX7_move_106 0 rfl rfl ?_
                  refine x_iconst (pc' := 108) (v := 1) K dX7_move_107 (by decide) rfl ?_
                  refine x_callI (pc' := 111) K (mX7_error l D cI cO a _) rfl gX7_move_X7_error rfl dsX7_error ⟨rfl, rfl, ⟨Nat.le_of_ble_eq_true rfl, Nat.le_of_ble_eq_true rfl⟩, Nat.le_of_ble_eq_true rfl, Nat.le_of_ble_eq_true rfl⟩ h 7 0 rfl rfl (st := []) rfl rfl (Nat.le_of_ble_eq_true rfl) dX7_move_108 rfl (fun r108 F108 G108 h => ?_)
                  exact x_iret (wf := w7 cI a) K h dX7_move_111
                · replace h := h.2 c76
                  refine x_iload_n (pc' := 80) K dX7_move_79 2 rfl rfl ?_
                  refine x_aload_n (pc' := 81) K dX7_move_80 0 rfl rfl ?_
                  refine xw7_0g_sizes (pc' := 84) K hinX7_move_X7 uX7_move_f50 dX7_move_81 rfl ?_
                  refine x_iload_n (pc' := 85) K dX7_move_84 1 rfl rfl ?_
                  obtain ⟨i85, h⟩ := h
                  refine xw7_13l (pc' := 86) K i85 rfl dX7_move_85 rfl ?_
                  refine x_iload (pc' := 88) K dX7_move_86 5 rfl rfl ?_
                  refine x_isub (pc' := 89) K dX7_move_88 rfl ?_
                  refine x_icmp_gt (tgt := 106) (pc' := 92) K dX7_move_89 rfl rfl (fun c89 => ?_) (fun c89 => ?_)
                  · replace h := h.1 c89
                    refine x_aload_n (pc' := 107) K dX7_move_106 0 rfl rfl ?_
                    refine x_iconst (pc' := 108) (v := 1) K dX7_move_107 (by decide) rfl ?_
                    refine x_callI (pc' := 111) K (mX7_error l D cI cO a _) rfl gX7_move_X7_error rfl dsX7_error ⟨rfl, rfl, ⟨Nat.le_of_ble_eq_true rfl, Nat.le_of_ble_eq_true rfl⟩, Nat.le_of_ble_eq_true rfl, Nat.le_of_ble_eq_true rfl⟩ h 7 0 rfl rfl (st := []) rfl rfl (Nat.le_of_ble_eq_true rfl) dX7_move_108 rfl (fun r108 F108 G108 h => ?_)
                    exact x_iret (wf := w7 cI a) K h dX7_move_111
                  · replace h := h.2 c89
                    refine x_iload (pc' := 94) K dX7_move_92 4 rfl rfl ?_
                    refine x_aload_n (pc' := 95) K dX7_move_94 0 rfl rfl ?_
                    refine xw7_0g_sizes (pc' := 98) K hinX7_move_X7 uX7_move_f50 dX7_move_95 rfl ?_
                    refine x_iload_n (pc' := 99) K dX7_move_98 3 rfl rfl ?_
                    obtain ⟨i99, h⟩ := h
                    refine xw7_13l (pc' := 100) K i99 rfl dX7_move_99 rfl ?_
                    refine x_iload (pc' := 102) K dX7_move_100 5 rfl rfl ?_
                    refine x_isub (pc' := 103) K dX7_move_102 rfl ?_
                    refine x_icmp_le (tgt := 112) (pc' := 106) K dX7_move_103 rfl rfl (fun c103 => ?_) (fun c103 => ?_)
                    · replace h := h.1 c103
                      refine x_iconst (pc' := 113) (v := 0) K dX7_move_112 (by decide) rfl ?_
                      refine x_istore (pc' := 115) (i := 6) K dX7_move_113 (by decide) [1, 2, 3, 4, 5, 6, 0] (L' := [(0, .ref (a 0)), (1, .int _), (2, .int _), (3, .int _), (4, .int _), (5, .int _), (6, .int _)]) rfl rfl ?_
                      obtain ⟨n115, h⟩ := h
                      exact tX7_move_115 K n115 _ _ _ _ _ _ _ _ h
                    · replace h := h.2 c103
                      refine x_aload_n (pc' := 107) K dX7_move_106 0 rfl rfl ?_
                      refine x_iconst (pc' := 108) (v := 1) K dX7_move_107 (by decide) rfl ?_
                      refine x_callI (pc' := 111) K (mX7_error l D cI cO a _) rfl gX7_move_X7_error rfl dsX7_error ⟨rfl, rfl, ⟨Nat.le_of_ble_eq_true rfl, Nat.le_of_ble_eq_true rfl⟩, Nat.le_of_ble_eq_true rfl, Nat.le_of_ble_eq_true rfl⟩ h 7 0 rfl rfl (st := []) rfl rfl (Nat.le_of_ble_eq_true rfl) dX7_move_108 rfl (fun r108 F108 G108 h => ?_)
                      exact x_iret (wf := w7 cI a) K h dX7_move_111
          · replace h := h.2 c56
            refine x_aload_n (pc' := 60) K dX7_move_59 0 rfl rfl ?_
            refine x_iconst (pc' := 61) (v := 5) K dX7_move_60 (by decide) rfl ?_
            refine x_callI (pc' := 64) K (mX7_error l D cI cO a _) rfl gX7_move_X7_error rfl dsX7_error ⟨rfl, rfl, ⟨Nat.le_of_ble_eq_true rfl, Nat.le_of_ble_eq_true rfl⟩, Nat.le_of_ble_eq_true rfl, Nat.le_of_ble_eq_true rfl⟩ h 7 0 rfl rfl (st := []) rfl rfl (Nat.le_of_ble_eq_true rfl) dX7_move_61 rfl (fun r61 F61 G61 h => ?_)
            exact x_iret (wf := w7 cI a) K h dX7_move_64
        · replace h := h.2 c35
          refine x_aload_n (pc' := 39) K dX7_move_38 0 rfl rfl ?_
          refine x_iconst (pc' := 40) (v := 2) K dX7_move_39 (by decide) rfl ?_
          refine x_callI (pc' := 43) K (mX7_error l D cI cO a _) rfl gX7_move_X7_error rfl dsX7_error ⟨rfl, rfl, ⟨Nat.le_of_ble_eq_true rfl, Nat.le_of_ble_eq_true rfl⟩, Nat.le_of_ble_eq_true rfl, Nat.le_of_ble_eq_true rfl⟩ h 7 0 rfl rfl (st := []) rfl rfl (Nat.le_of_ble_eq_true rfl) dX7_move_40 rfl (fun r40 F40 G40 h => ?_)
          exact x_iret (wf := w7 cI a) K h dX7_move_43
    · replace h := h.2 c11
      refine x_aload_n (pc' := 15) K dX7_move_14 0 rfl rfl ?_
      refine x_iconst (pc' := 16) (v := 1) K dX7_move_15 (by decide) rfl ?_
      refine x_callI (pc' := 19) K (mX7_error l D cI cO a _) rfl gX7_move_X7_error rfl dsX7_error ⟨rfl, rfl, ⟨Nat.le_of_ble_eq_true rfl, Nat.le_of_ble_eq_true rfl⟩, Nat.le_of_ble_eq_true rfl, Nat.le_of_ble_eq_true rfl⟩ h 7 0 rfl rfl (st := []) rfl rfl (Nat.le_of_ble_eq_true rfl) dX7_move_16 rfl (fun r16 F16 G16 h => ?_)
      exact x_iret (wf := w7 cI a) K h dX7_move_19
end
