section
variable {p : Program} {l : Launch} {e : Env} {s : State} {m : MethodId} {args : Array Value} {below : List Frame} {meth : Method} {c : Code} {D : va_G} {cI cO : ClassId} {A : Nat → Prop} {a : Nat → Nat} {d : Nat}
/-! X7_isUnder -/
abbrev rmX7_isUnder : Room := { frames := 2, cells := 0, slots := 0, locals := 60 }
theorem dsX7_isUnder : xDesc yX7_isUnder 2 := by decide +kernel
set_option maxHeartbeats 4000000 in
set_option maxRecDepth 100000 in
theorem mX7_isUnder (l : Launch) (D : va_G) (cI cO : ClassId) (a : Nat → Nat)  (x0 : Int32) (x1 : Int32) : MS l yX7_isUnder wsX7_isUnder rmX7_isUnder D (xtys cI cO) [.int x0, .int x1] (qX7_isUnder x0 x1) := by
  refine MSZ_of (cc := cX7_isUnder) (maxL := 2) (own := RX7) (by decide) rfl rfl (Nat.le_of_ble_eq_true rfl) ?_
  intro p e s m args below meth c A Q h K
  refine x_locals [0, 1] (L' := [(0, .int _), (1, .int _)]) rfl ?_
  refine x_iload_n (pc' := 1) K dX7_isUnder_0 1 rfl rfl ?_
  refine x_if_eq (tgt := 29) (pc' := 4) K dX7_isUnder_1 rfl rfl (fun c1 => ?_) (fun c1 => ?_)
  · replace h := h.1 c1
    refine x_iconst (pc' := 30) (v := 1) K dX7_isUnder_29 (by decide) rfl ?_
    refine x_goto (tgt := 34) K dX7_isUnder_30 rfl ?_
    exact x_szret K (Or.inr rfl) h dX7_isUnder_34
  · replace h := h.2 c1
    refine x_iload_n (pc' := 5) K dX7_isUnder_4 0 rfl rfl ?_
    refine x_iload_n (pc' := 6) K dX7_isUnder_5 1 rfl rfl ?_
    refine x_icmp_eq (tgt := 29) (pc' := 9) K dX7_isUnder_6 rfl rfl (fun c6 => ?_) (fun c6 => ?_)
    · replace h := h.1 c6
      refine x_iconst (pc' := 30) (v := 1) K dX7_isUnder_29 (by decide) rfl ?_
      refine x_goto (tgt := 34) K dX7_isUnder_30 rfl ?_
      exact x_szret K (Or.inr rfl) h dX7_isUnder_34
    · replace h := h.2 c6
      refine x_iload_n (pc' := 10) K dX7_isUnder_9 1 rfl rfl ?_
      refine x_iconst (pc' := 11) (v := 1) K dX7_isUnder_10 (by decide) rfl ?_
      refine x_icmp_ne (tgt := 19) (pc' := 14) K dX7_isUnder_11 rfl rfl (fun c11 => ?_) (fun c11 => ?_)
      · replace h := h.1 c11
        refine x_iload_n (pc' := 20) K dX7_isUnder_19 1 rfl rfl ?_
        refine x_iconst (pc' := 21) (v := 2) K dX7_isUnder_20 (by decide) rfl ?_
        refine x_icmp_ne (tgt := 33) (pc' := 24) K dX7_isUnder_21 rfl rfl (fun c21 => ?_) (fun c21 => ?_)
        · replace h := h.1 c21
          refine x_iconst (pc' := 34) (v := 0) K dX7_isUnder_33 (by decide) rfl ?_
          exact x_szret K (Or.inl rfl) h dX7_isUnder_34
        · replace h := h.2 c21
          refine x_iload_n (pc' := 25) K dX7_isUnder_24 0 rfl rfl ?_
          refine x_iconst (pc' := 26) (v := 5) K dX7_isUnder_25 (by decide) rfl ?_
          refine x_icmp_ne (tgt := 33) (pc' := 29) K dX7_isUnder_26 rfl rfl (fun c26 => ?_) (fun c26 => ?_)
          · replace h := h.1 c26
            refine x_iconst (pc' := 34) (v := 0) K dX7_isUnder_33 (by decide) rfl ?_
            exact x_szret K (Or.inl rfl) h dX7_isUnder_34
          · replace h := h.2 c26
            refine x_iconst (pc' := 30) (v := 1) K dX7_isUnder_29 (by decide) rfl ?_
            refine x_goto (tgt := 34) K dX7_isUnder_30 rfl ?_
            exact x_szret K (Or.inr rfl) h dX7_isUnder_34
      · replace h := h.2 c11
        refine x_iload_n (pc' := 15) K dX7_isUnder_14 0 rfl rfl ?_
        refine x_iconst (pc' := 16) (v := 4) K dX7_isUnder_15 (by decide) rfl ?_
        refine x_icmp_eq (tgt := 29) (pc' := 19) K dX7_isUnder_16 rfl rfl (fun c16 => ?_) (fun c16 => ?_)
        · replace h := h.1 c16
          refine x_iconst (pc' := 30) (v := 1) K dX7_isUnder_29 (by decide) rfl ?_
          refine x_goto (tgt := 34) K dX7_isUnder_30 rfl ?_
          exact x_szret K (Or.inr rfl) h dX7_isUnder_34
        · replace h := h.2 c16
          refine x_iload_n (pc' := 20) K dX7_isUnder_19 1 rfl rfl ?_
          refine x_iconst (pc' := 21) (v := 2) K dX7_isUnder_20 (by decide) rfl ?_
          refine x_icmp_ne (tgt := 33) (pc' := 24) K dX7_isUnder_21 rfl rfl (fun c21 => ?_) (fun c21 => ?_)
          · replace h := h.1 c21
            refine x_iconst (pc' := 34) (v := 0) K dX7_isUnder_33 (by decide) rfl ?_
            exact x_szret K (Or.inl rfl) h dX7_isUnder_34
          · replace h := h.2 c21
            refine x_iload_n (pc' := 25) K dX7_isUnder_24 0 rfl rfl ?_
            refine x_iconst (pc' := 26) (v := 5) K dX7_isUnder_25 (by decide) rfl ?_
            refine x_icmp_ne (tgt := 33) (pc' := 29) K dX7_isUnder_26 rfl rfl (fun c26 => ?_) (fun c26 => ?_)
            · replace h := h.1 c26
              refine x_iconst (pc' := 34) (v := 0) K dX7_isUnder_33 (by decide) rfl ?_
              exact x_szret K (Or.inl rfl) h dX7_isUnder_34
            · replace h := h.2 c26
              refine x_iconst (pc' := 30) (v := 1) K dX7_isUnder_29 (by decide) rfl ?_
              refine x_goto (tgt := 34) K dX7_isUnder_30 rfl ?_
              exact x_szret K (Or.inr rfl) h dX7_isUnder_34
/-! X7_as -/
abbrev rmX7_as : Room := { frames := 4, cells := 0, slots := 0, locals := 102 }
theorem dsX7_as : xDesc yX7_as 2 := by decide +kernel
set_option maxHeartbeats 4000000 in
set_option maxRecDepth 100000 in
theorem mX7_as (l : Launch) (D : va_G) (cI cO : ClassId) (a : Nat → Nat)  (x1 : Int32) (x2 : Int32) : MI l yX7_as wsX7_as rmX7_as D (xtys cI cO) [.ref (a 0), .int x1, .int x2] (w7 cI a) (qX7_as x1 x2) := by
  refine MI_of (cc := cX7_as) (maxL := 3) (own := RX7) (by decide) rfl rfl (Nat.le_of_ble_eq_true rfl) ?_
  intro p e s m args below meth c A F G Q h K
  refine x_locals [0, 1, 2] (L' := [(0, .ref (a 0)), (1, .int _), (2, .int _)]) rfl ?_
  refine x_iload_n (pc' := 1) K dX7_as_0 1 rfl rfl ?_
  refine x_callS (pc' := 4) K (mX7_isFarmer l D cI cO a _) rfl gX7_as_X7_isFarmer dsX7_isFarmer ⟨rfl, rfl, ⟨Nat.le_of_ble_eq_true rfl, Nat.le_of_ble_eq_true rfl⟩, Nat.le_of_ble_eq_true rfl, Nat.le_of_ble_eq_true rfl⟩ h (st := []) rfl rfl (Nat.le_of_ble_eq_true rfl) dX7_as_1 rfl (fun r1 h => ?_)
  refine x_if_eq (tgt := 17) (pc' := 7) K dX7_as_4 rfl rfl (fun c4 => ?_) (fun c4 => ?_)
  · replace h := h.1 c4
    refine x_aload_n (pc' := 18) K dX7_as_17 0 rfl rfl ?_
    refine x_iconst (pc' := 19) (v := 1) K dX7_as_18 (by decide) rfl ?_
    refine x_callI (pc' := 22) K (mX7_error l D cI cO a _) rfl gX7_as_X7_error rfl dsX7_error ⟨rfl, rfl, ⟨Nat.le_of_ble_eq_true rfl, Nat.le_of_ble_eq_true rfl⟩, Nat.le_of_ble_eq_true rfl, Nat.le_of_ble_eq_true rfl⟩ h 7 0 rfl rfl (st := []) rfl rfl (Nat.le_of_ble_eq_true rfl) dX7_as_19 rfl (fun r19 F19 G19 h => ?_)
    exact x_iret (wf := w7 cI a) K h dX7_as_22
  · replace h := h.2 c4
    refine x_iload_n (pc' := 8) K dX7_as_7 2 rfl rfl ?_
    refine x_iconst (pc' := 9) (v := 0) K dX7_as_8 (by decide) rfl ?_
    refine x_bipush (pc' := 11) (v := 6) K dX7_as_9 (by decide) rfl ?_
    refine x_callS (pc' := 14) K (mX7_in l D cI cO a _ _ _) rfl gX7_as_X7_in dsX7_in ⟨rfl, rfl, ⟨Nat.le_of_ble_eq_true rfl, Nat.le_of_ble_eq_true rfl⟩, Nat.le_of_ble_eq_true rfl, Nat.le_of_ble_eq_true rfl⟩ h (st := []) rfl rfl (Nat.le_of_ble_eq_true rfl) dX7_as_11 rfl (fun r11 h => ?_)
    refine x_if_ne (tgt := 23) (pc' := 17) K dX7_as_14 rfl rfl (fun c14 => ?_) (fun c14 => ?_)
    · replace h := h.1 c14
      refine x_aload_n (pc' := 24) K dX7_as_23 0 rfl rfl ?_
      refine x_iload_n (pc' := 25) K dX7_as_24 1 rfl rfl ?_
      refine x_iconst (pc' := 26) (v := 0) K dX7_as_25 (by decide) rfl ?_
      refine x_callI (pc' := 29) K (mX7_its l D cI cO a _ _) rfl gX7_as_X7_its rfl dsX7_its ⟨rfl, rfl, ⟨Nat.le_of_ble_eq_true rfl, Nat.le_of_ble_eq_true rfl⟩, Nat.le_of_ble_eq_true rfl, Nat.le_of_ble_eq_true rfl⟩ h 7 0 rfl rfl (st := []) rfl rfl (Nat.le_of_ble_eq_true rfl) dX7_as_26 rfl (fun r26 F26 G26 h => ?_)
      refine x_iload_n (pc' := 30) K dX7_as_29 2 rfl rfl ?_
      refine x_callS (pc' := 33) K (mX7_isUnder l D cI cO a _ _) rfl gX7_as_X7_isUnder dsX7_isUnder ⟨rfl, rfl, ⟨Nat.le_of_ble_eq_true rfl, Nat.le_of_ble_eq_true rfl⟩, Nat.le_of_ble_eq_true rfl, Nat.le_of_ble_eq_true rfl⟩ h (st := []) rfl rfl (Nat.le_of_ble_eq_true rfl) dX7_as_30 rfl (fun r30 h => ?_)
      refine x_if_eq (tgt := 45) (pc' := 36) K dX7_as_33 rfl rfl (fun c33 => ?_) (fun c33 => ?_)
      · replace h := h.1 c33
        refine x_aload_n (pc' := 46) K dX7_as_45 0 rfl rfl ?_
        refine x_iconst (pc' := 47) (v := 5) K dX7_as_46 (by decide) rfl ?_
        refine x_callI (pc' := 50) K (mX7_error l D cI cO a _) rfl gX7_as_X7_error rfl dsX7_error ⟨rfl, rfl, ⟨Nat.le_of_ble_eq_true rfl, Nat.le_of_ble_eq_true rfl⟩, Nat.le_of_ble_eq_true rfl, Nat.le_of_ble_eq_true rfl⟩ h 7 0 rfl rfl (st := []) rfl rfl (Nat.le_of_ble_eq_true rfl) dX7_as_47 rfl (fun r47 F47 G47 h => ?_)
        exact x_iret (wf := w7 cI a) K h dX7_as_50
      · replace h := h.2 c33
        refine x_aload_n (pc' := 37) K dX7_as_36 0 rfl rfl ?_
        refine x_iload_n (pc' := 38) K dX7_as_37 1 rfl rfl ?_
        refine x_iconst (pc' := 39) (v := 1) K dX7_as_38 (by decide) rfl ?_
        refine x_callI (pc' := 42) K (mX7_its l D cI cO a _ _) rfl gX7_as_X7_its rfl dsX7_its ⟨rfl, rfl, ⟨Nat.le_of_ble_eq_true rfl, Nat.le_of_ble_eq_true rfl⟩, Nat.le_of_ble_eq_true rfl, Nat.le_of_ble_eq_true rfl⟩ h 7 0 rfl rfl (st := []) rfl rfl (Nat.le_of_ble_eq_true rfl) dX7_as_39 rfl (fun r39 F39 G39 h => ?_)
        refine x_goto (tgt := 50) K dX7_as_42 rfl ?_
        exact x_iret (wf := w7 cI a) K h dX7_as_50
    · replace h := h.2 c14
      refine x_aload_n (pc' := 18) K dX7_as_17 0 rfl rfl ?_
      refine x_iconst (pc' := 19) (v := 1) K dX7_as_18 (by decide) rfl ?_
      refine x_callI (pc' := 22) K (mX7_error l D cI cO a _) rfl gX7_as_X7_error rfl dsX7_error ⟨rfl, rfl, ⟨Nat.le_of_ble_eq_true rfl, Nat.le_of_ble_eq_true rfl⟩, Nat.le_of_ble_eq_true rfl, Nat.le_of_ble_eq_true rfl⟩ h 7 0 rfl rfl (st := []) rfl rfl (Nat.le_of_ble_eq_true rfl) dX7_as_19 rfl (fun r19 F19 G19 h => ?_)
      exact x_iret (wf := w7 cI a) K h dX7_as_22
/-! X7_trades -/
abbrev rmX7_trades : Room := { frames := 3, cells := 0, slots := 0, locals := 83 }
theorem dsX7_trades : xDesc yX7_trades 2 := by decide +kernel
set_option maxHeartbeats 4000000 in
set_option maxRecDepth 100000 in
theorem mX7_trades (l : Launch) (D : va_G) (cI cO : ClassId) (a : Nat → Nat)  (x1 : Int32) (x2 : Int32) : MV l yX7_trades wsX7_trades rmX7_trades D (xtys cI cO) [.ref (a 0), .int x1, .int x2] (w7 cI a) (qX7_trades x1 x2) := by
  refine MV_of (cc := cX7_trades) (maxL := 4) (own := RX7) (by decide) rfl rfl (Nat.le_of_ble_eq_true rfl) ?_
  intro p e s m args below meth c A F G Q h K
  refine x_locals [0, 1, 2] (L' := [(0, .ref (a 0)), (1, .int _), (2, .int _)]) rfl ?_
  refine x_aload_n (pc' := 1) K dX7_trades_0 0 rfl rfl ?_
  refine x_iload_n (pc' := 2) K dX7_trades_1 1 rfl rfl ?_
  refine x_iconst (pc' := 3) (v := 4) K dX7_trades_2 (by decide) rfl ?_
  refine x_callI (pc' := 6) K (mX7_its l D cI cO a _ _) rfl gX7_trades_X7_its rfl dsX7_its ⟨rfl, rfl, ⟨Nat.le_of_ble_eq_true rfl, Nat.le_of_ble_eq_true rfl⟩, Nat.le_of_ble_eq_true rfl, Nat.le_of_ble_eq_true rfl⟩ h 7 0 rfl rfl (st := []) rfl rfl (Nat.le_of_ble_eq_true rfl) dX7_trades_3 rfl (fun r3 F3 G3 h => ?_)
  refine x_istore_n (pc' := 7) (i := 3) K dX7_trades_6 rfl (by decide) [1, 2, 3, 0] (L' := [(0, .ref (a 0)), (1, .int _), (2, .int _), (3, .int _)]) rfl rfl ?_
  refine x_aload_n (pc' := 8) K dX7_trades_7 0 rfl rfl ?_
  refine x_iload_n (pc' := 9) K dX7_trades_8 1 rfl rfl ?_
  refine x_iconst (pc' := 10) (v := 4) K dX7_trades_9 (by decide) rfl ?_
  refine x_aload_n (pc' := 11) K dX7_trades_10 0 rfl rfl ?_
  refine x_iload_n (pc' := 12) K dX7_trades_11 2 rfl rfl ?_
  refine x_iconst (pc' := 13) (v := 4) K dX7_trades_12 (by decide) rfl ?_
  refine x_callI (pc' := 16) K (mX7_its l D cI cO a _ _) rfl gX7_trades_X7_its rfl dsX7_its ⟨rfl, rfl, ⟨Nat.le_of_ble_eq_true rfl, Nat.le_of_ble_eq_true rfl⟩, Nat.le_of_ble_eq_true rfl, Nat.le_of_ble_eq_true rfl⟩ h 7 0 rfl rfl (st := [.int _, .int _, .ref (a 0)]) rfl rfl (Nat.le_of_ble_eq_true rfl) dX7_trades_13 rfl (fun r13 F13 G13 h => ?_)
  refine x_callV (pc' := 19) K (mX7_lays1 l D cI cO a _ _ _) rfl gX7_trades_X7_lays1 rfl dsX7_lays1 ⟨rfl, rfl, ⟨Nat.le_of_ble_eq_true rfl, Nat.le_of_ble_eq_true rfl⟩, Nat.le_of_ble_eq_true rfl, Nat.le_of_ble_eq_true rfl⟩ h 7 0 rfl rfl (st := []) rfl rfl (Nat.le_of_ble_eq_true rfl) dX7_trades_16 rfl (fun F16 G16 h => ?_)
  refine x_aload_n (pc' := 20) K dX7_trades_19 0 rfl rfl ?_
  refine x_iload_n (pc' := 21) K dX7_trades_20 2 rfl rfl ?_
  refine x_iconst (pc' := 22) (v := 4) K dX7_trades_21 (by decide) rfl ?_
  refine x_iload_n (pc' := 23) K dX7_trades_22 3 rfl rfl ?_
  refine x_callV (pc' := 26) K (mX7_lays1 l D cI cO a _ _ _) rfl gX7_trades_X7_lays1 rfl dsX7_lays1 ⟨rfl, rfl, ⟨Nat.le_of_ble_eq_true rfl, Nat.le_of_ble_eq_true rfl⟩, Nat.le_of_ble_eq_true rfl, Nat.le_of_ble_eq_true rfl⟩ h 7 0 rfl rfl (st := []) rfl rfl (Nat.le_of_ble_eq_true rfl) dX7_trades_23 rfl (fun F23 G23 h => ?_)
  exact x_vret (wf := w7 cI a) K h dX7_trades_26
/-! X7_trade -/
abbrev rmX7_trade : Room := { frames := 4, cells := 0, slots := 0, locals := 106 }
theorem dsX7_trade : xDesc yX7_trade 2 := by decide +kernel
set_option maxHeartbeats 4000000 in
set_option maxRecDepth 100000 in
theorem mX7_trade (l : Launch) (D : va_G) (cI cO : ClassId) (a : Nat → Nat)  (x1 : Int32) (x2 : Int32) : MI l yX7_trade wsX7_trade rmX7_trade D (xtys cI cO) [.ref (a 0), .int x1, .int x2] (w7 cI a) (qX7_trade x1 x2) := by
  refine MI_of (cc := cX7_trade) (maxL := 3) (own := RX7) (by decide) rfl rfl (Nat.le_of_ble_eq_true rfl) ?_
  intro p e s m args below meth c A F G Q h K
  refine x_locals [0, 1, 2] (L' := [(0, .ref (a 0)), (1, .int _), (2, .int _)]) rfl ?_
  refine x_iload_n (pc' := 1) K dX7_trade_0 1 rfl rfl ?_
  refine x_callS (pc' := 4) K (mX7_isFarmer l D cI cO a _) rfl gX7_trade_X7_isFarmer dsX7_isFarmer ⟨rfl, rfl, ⟨Nat.le_of_ble_eq_true rfl, Nat.le_of_ble_eq_true rfl⟩, Nat.le_of_ble_eq_true rfl, Nat.le_of_ble_eq_true rfl⟩ h (st := []) rfl rfl (Nat.le_of_ble_eq_true rfl) dX7_trade_1 rfl (fun r1 h => ?_)
  refine x_if_eq (tgt := 14) (pc' := 7) K dX7_trade_4 rfl rfl (fun c4 => ?_) (fun c4 => ?_)
  · replace h := h.1 c4
    refine x_aload_n (pc' := 15) K dX7_trade_14 0 rfl rfl ?_
    refine x_iconst (pc' := 16) (v := 1) K dX7_trade_15 (by decide) rfl ?_
    refine x_callI (pc' := 19) K (mX7_error l D cI cO a _) rfl gX7_trade_X7_error rfl dsX7_error ⟨rfl, rfl, ⟨Nat.le_of_ble_eq_true rfl, Nat.le_of_ble_eq_true rfl⟩, Nat.le_of_ble_eq_true rfl, Nat.le_of_ble_eq_true rfl⟩ h 7 0 rfl rfl (st := []) rfl rfl (Nat.le_of_ble_eq_true rfl) dX7_trade_16 rfl (fun r16 F16 G16 h => ?_)
    exact x_iret (wf := w7 cI a) K h dX7_trade_19
  · replace h := h.2 c4
    refine x_iload_n (pc' := 8) K dX7_trade_7 2 rfl rfl ?_
    refine x_callS (pc' := 11) K (mX7_isFarmer l D cI cO a _) rfl gX7_trade_X7_isFarmer dsX7_isFarmer ⟨rfl, rfl, ⟨Nat.le_of_ble_eq_true rfl, Nat.le_of_ble_eq_true rfl⟩, Nat.le_of_ble_eq_true rfl, Nat.le_of_ble_eq_true rfl⟩ h (st := []) rfl rfl (Nat.le_of_ble_eq_true rfl) dX7_trade_8 rfl (fun r8 h => ?_)
    refine x_if_ne (tgt := 20) (pc' := 14) K dX7_trade_11 rfl rfl (fun c11 => ?_) (fun c11 => ?_)
    · replace h := h.1 c11
      refine x_aload_n (pc' := 21) K dX7_trade_20 0 rfl rfl ?_
      refine x_iload_n (pc' := 22) K dX7_trade_21 1 rfl rfl ?_
      refine x_iload_n (pc' := 23) K dX7_trade_22 2 rfl rfl ?_
      refine x_callV (pc' := 26) K (mX7_trades l D cI cO a _ _) rfl gX7_trade_X7_trades rfl dsX7_trades ⟨rfl, rfl, ⟨Nat.le_of_ble_eq_true rfl, Nat.le_of_ble_eq_true rfl⟩, Nat.le_of_ble_eq_true rfl, Nat.le_of_ble_eq_true rfl⟩ h 7 0 rfl rfl (st := []) rfl rfl (Nat.le_of_ble_eq_true rfl) dX7_trade_23 rfl (fun F23 G23 h => ?_)
      refine x_aload_n (pc' := 27) K dX7_trade_26 0 rfl rfl ?_
      refine x_iload_n (pc' := 28) K dX7_trade_27 1 rfl rfl ?_
      refine x_iconst (pc' := 29) (v := 4) K dX7_trade_28 (by decide) rfl ?_
      refine x_callI (pc' := 32) K (mX7_its l D cI cO a _ _) rfl gX7_trade_X7_its rfl dsX7_its ⟨rfl, rfl, ⟨Nat.le_of_ble_eq_true rfl, Nat.le_of_ble_eq_true rfl⟩, Nat.le_of_ble_eq_true rfl, Nat.le_of_ble_eq_true rfl⟩ h 7 0 rfl rfl (st := []) rfl rfl (Nat.le_of_ble_eq_true rfl) dX7_trade_29 rfl (fun r29 F29 G29 h => ?_)
      exact x_iret (wf := w7 cI a) K h dX7_trade_32
    · replace h := h.2 c11
      refine x_aload_n (pc' := 15) K dX7_trade_14 0 rfl rfl ?_
      refine x_iconst (pc' := 16) (v := 1) K dX7_trade_15 (by decide) rfl ?_
      refine x_callI (pc' := 19) K (mX7_error l D cI cO a _) rfl gX7_trade_X7_error rfl dsX7_error ⟨rfl, rfl, ⟨Nat.le_of_ble_eq_true rfl, Nat.le_of_ble_eq_true rfl⟩, Nat.le_of_ble_eq_true rfl, Nat.le_of_ble_eq_true rfl⟩ h 7 0 rfl rfl (st := []) rfl rfl (Nat.le_of_ble_eq_true rfl) dX7_trade_16 rfl (fun r16 F16 G16 h => ?_)
      exact x_iret (wf := w7 cI a) K h dX7_trade_19
/-! X7_leash -/
abbrev rmX7_leash : Room := { frames := 4, cells := 0, slots := 0, locals := 102 }
theorem dsX7_leash : xDesc yX7_leash 3 := by decide +kernel
set_option maxHeartbeats 4000000 in
set_option maxRecDepth 100000 in
theorem mX7_leash (l : Launch) (D : va_G) (cI cO : ClassId) (a : Nat → Nat)  (x1 : Int32) (x2 : Int32) (x3 : Int32) : MI l yX7_leash wsX7_leash rmX7_leash D (xtys cI cO) [.ref (a 0), .int x1, .int x2, .int x3] (w7 cI a) (qX7_leash x1 x2 x3) := by
  refine MI_of (cc := cX7_leash) (maxL := 4) (own := RX7) (by decide) rfl rfl (Nat.le_of_ble_eq_true rfl) ?_
  intro p e s m args below meth c A F G Q h K
  refine x_locals [0, 1, 2, 3] (L' := [(0, .ref (a 0)), (1, .int _), (2, .int _), (3, .int _)]) rfl ?_
  refine x_iload_n (pc' := 1) K dX7_leash_0 1 rfl rfl ?_
  refine x_callS (pc' := 4) K (mX7_isFarmer l D cI cO a _) rfl gX7_leash_X7_isFarmer dsX7_isFarmer ⟨rfl, rfl, ⟨Nat.le_of_ble_eq_true rfl, Nat.le_of_ble_eq_true rfl⟩, Nat.le_of_ble_eq_true rfl, Nat.le_of_ble_eq_true rfl⟩ h (st := []) rfl rfl (Nat.le_of_ble_eq_true rfl) dX7_leash_1 rfl (fun r1 h => ?_)
  refine x_if_eq (tgt := 44) (pc' := 7) K dX7_leash_4 rfl rfl (fun c4 => ?_) (fun c4 => ?_)
  · replace h := h.1 c4
    refine x_aload_n (pc' := 45) K dX7_leash_44 0 rfl rfl ?_
    refine x_iconst (pc' := 46) (v := 1) K dX7_leash_45 (by decide) rfl ?_
    refine x_callI (pc' := 49) K (mX7_error l D cI cO a _) rfl gX7_leash_X7_error rfl dsX7_error ⟨rfl, rfl, ⟨Nat.le_of_ble_eq_true rfl, Nat.le_of_ble_eq_true rfl⟩, Nat.le_of_ble_eq_true rfl, Nat.le_of_ble_eq_true rfl⟩ h 7 0 rfl rfl (st := []) rfl rfl (Nat.le_of_ble_eq_true rfl) dX7_leash_46 rfl (fun r46 F46 G46 h => ?_)
    exact x_iret (wf := w7 cI a) K h dX7_leash_49
  · replace h := h.2 c4
    refine x_iload_n (pc' := 8) K dX7_leash_7 2 rfl rfl ?_
    refine x_iconst (pc' := 9) (v := 0) K dX7_leash_8 (by decide) rfl ?_
    refine x_iconst (pc' := 10) (v := 3) K dX7_leash_9 (by decide) rfl ?_
    refine x_callS (pc' := 13) K (mX7_in l D cI cO a _ _ _) rfl gX7_leash_X7_in dsX7_in ⟨rfl, rfl, ⟨Nat.le_of_ble_eq_true rfl, Nat.le_of_ble_eq_true rfl⟩, Nat.le_of_ble_eq_true rfl, Nat.le_of_ble_eq_true rfl⟩ h (st := []) rfl rfl (Nat.le_of_ble_eq_true rfl) dX7_leash_10 rfl (fun r10 h => ?_)
    refine x_if_eq (tgt := 44) (pc' := 16) K dX7_leash_13 rfl rfl (fun c13 => ?_) (fun c13 => ?_)
    · replace h := h.1 c13
      refine x_aload_n (pc' := 45) K dX7_leash_44 0 rfl rfl ?_
      refine x_iconst (pc' := 46) (v := 1) K dX7_leash_45 (by decide) rfl ?_
      refine x_callI (pc' := 49) K (mX7_error l D cI cO a _) rfl gX7_leash_X7_error rfl dsX7_error ⟨rfl, rfl, ⟨Nat.le_of_ble_eq_true rfl, Nat.le_of_ble_eq_true rfl⟩, Nat.le_of_ble_eq_true rfl, Nat.le_of_ble_eq_true rfl⟩ h 7 0 rfl rfl (st := []) rfl rfl (Nat.le_of_ble_eq_true rfl) dX7_leash_46 rfl (fun r46 F46 G46 h => ?_)
      exact x_iret (wf := w7 cI a) K h dX7_leash_49
    · replace h := h.2 c13
      refine x_iload_n (pc' := 17) K dX7_leash_16 3 rfl rfl ?_
      refine x_iconst (pc' := 18) (v := 0) K dX7_leash_17 (by decide) rfl ?_
      refine x_iconst (pc' := 19) (v := 4) K dX7_leash_18 (by decide) rfl ?_
      refine x_callS (pc' := 22) K (mX7_in l D cI cO a _ _ _) rfl gX7_leash_X7_in dsX7_in ⟨rfl, rfl, ⟨Nat.le_of_ble_eq_true rfl, Nat.le_of_ble_eq_true rfl⟩, Nat.le_of_ble_eq_true rfl, Nat.le_of_ble_eq_true rfl⟩ h (st := []) rfl rfl (Nat.le_of_ble_eq_true rfl) dX7_leash_19 rfl (fun r19 h => ?_)
      refine x_if_eq (tgt := 44) (pc' := 25) K dX7_leash_22 rfl rfl (fun c22 => ?_) (fun c22 => ?_)
      · replace h := h.1 c22
        refine x_aload_n (pc' := 45) K dX7_leash_44 0 rfl rfl ?_
        refine x_iconst (pc' := 46) (v := 1) K dX7_leash_45 (by decide) rfl ?_
        refine x_callI (pc' := 49) K (mX7_error l D cI cO a _) rfl gX7_leash_X7_error rfl dsX7_error ⟨rfl, rfl, ⟨Nat.le_of_ble_eq_true rfl, Nat.le_of_ble_eq_true rfl⟩, Nat.le_of_ble_eq_true rfl, Nat.le_of_ble_eq_true rfl⟩ h 7 0 rfl rfl (st := []) rfl rfl (Nat.le_of_ble_eq_true rfl) dX7_leash_46 rfl (fun r46 F46 G46 h => ?_)
        exact x_iret (wf := w7 cI a) K h dX7_leash_49
      · replace h := h.2 c22
        refine x_aload_n (pc' := 26) K dX7_leash_25 0 rfl rfl ?_
        refine x_bipush (pc' := 28) (v := 40) K dX7_leash_26 (by decide) rfl ?_
        refine x_bipush (pc' := 30) (v := 9) K dX7_leash_28 (by decide) rfl ?_
        refine x_iload_n (pc' := 31) K dX7_leash_30 1 rfl rfl ?_
        refine x_imul (pc' := 32) K dX7_leash_31 rfl ?_
        refine x_iadd (pc' := 33) K dX7_leash_32 rfl ?_
        refine x_iconst (pc' := 34) (v := 5) K dX7_leash_33 (by decide) rfl ?_
        refine x_iadd (pc' := 35) K dX7_leash_34 rfl ?_
        refine x_iload_n (pc' := 36) K dX7_leash_35 2 rfl rfl ?_
        refine x_iadd (pc' := 37) K dX7_leash_36 rfl ?_
        refine x_iload_n (pc' := 38) K dX7_leash_37 3 rfl rfl ?_
        refine x_callI (pc' := 41) K (mX7_change1 l D cI cO a _ _) rfl gX7_leash_X7_change1 rfl dsX7_change1 ⟨rfl, rfl, ⟨Nat.le_of_ble_eq_true rfl, Nat.le_of_ble_eq_true rfl⟩, Nat.le_of_ble_eq_true rfl, Nat.le_of_ble_eq_true rfl⟩ h 7 0 rfl rfl (st := []) rfl rfl (Nat.le_of_ble_eq_true rfl) dX7_leash_38 rfl (fun r38 F38 G38 h => ?_)
        refine x_goto (tgt := 49) K dX7_leash_41 rfl ?_
        exact x_iret (wf := w7 cI a) K h dX7_leash_49
/-! X7_pig -/
abbrev rmX7_pig : Room := { frames := 3, cells := 0, slots := 0, locals := 83 }
theorem dsX7_pig : xDesc yX7_pig 2 := by decide +kernel
set_option maxHeartbeats 4000000 in
set_option maxRecDepth 100000 in
theorem mX7_pig (l : Launch) (D : va_G) (cI cO : ClassId) (a : Nat → Nat)  (x1 : Int32) (x2 : Int32) : MI l yX7_pig wsX7_pig rmX7_pig D (xtys cI cO) [.ref (a 0), .int x1, .int x2] (w7 cI a) (qX7_pig x1 x2) := by
  refine MI_of (cc := cX7_pig) (maxL := 3) (own := RX7) (by decide) rfl rfl (Nat.le_of_ble_eq_true rfl) ?_
  intro p e s m args below meth c A F G Q h K
  refine x_locals [0, 1, 2] (L' := [(0, .ref (a 0)), (1, .int _), (2, .int _)]) rfl ?_
  refine x_iload_n (pc' := 1) K dX7_pig_0 1 rfl rfl ?_
  refine x_iconst (pc' := 2) (v := 0) K dX7_pig_1 (by decide) rfl ?_
  refine x_iconst (pc' := 3) (v := 1) K dX7_pig_2 (by decide) rfl ?_
  refine x_callS (pc' := 6) K (mX7_in l D cI cO a _ _ _) rfl gX7_pig_X7_in dsX7_in ⟨rfl, rfl, ⟨Nat.le_of_ble_eq_true rfl, Nat.le_of_ble_eq_true rfl⟩, Nat.le_of_ble_eq_true rfl, Nat.le_of_ble_eq_true rfl⟩ h (st := []) rfl rfl (Nat.le_of_ble_eq_true rfl) dX7_pig_3 rfl (fun r3 h => ?_)
  refine x_if_eq (tgt := 39) (pc' := 9) K dX7_pig_6 rfl rfl (fun c6 => ?_) (fun c6 => ?_)
  · replace h := h.1 c6
    refine x_aload_n (pc' := 40) K dX7_pig_39 0 rfl rfl ?_
    refine x_iconst (pc' := 41) (v := 1) K dX7_pig_40 (by decide) rfl ?_
    refine x_callI (pc' := 44) K (mX7_error l D cI cO a _) rfl gX7_pig_X7_error rfl dsX7_error ⟨rfl, rfl, ⟨Nat.le_of_ble_eq_true rfl, Nat.le_of_ble_eq_true rfl⟩, Nat.le_of_ble_eq_true rfl, Nat.le_of_ble_eq_true rfl⟩ h 7 0 rfl rfl (st := []) rfl rfl (Nat.le_of_ble_eq_true rfl) dX7_pig_41 rfl (fun r41 F41 G41 h => ?_)
    exact x_iret (wf := w7 cI a) K h dX7_pig_44
  · replace h := h.2 c6
    refine x_iload_n (pc' := 10) K dX7_pig_9 2 rfl rfl ?_
    refine x_iconst (pc' := 11) (v := 0) K dX7_pig_10 (by decide) rfl ?_
    refine x_iload_n (pc' := 12) K dX7_pig_11 1 rfl rfl ?_
    refine x_if_ne (tgt := 20) (pc' := 15) K dX7_pig_12 rfl rfl (fun c12 => ?_) (fun c12 => ?_)
    · replace h := h.1 c12
      refine x_bipush (pc' := 22) (v := 9) K dX7_pig_20 (by decide) rfl ?_
      refine x_callS (pc' := 25) K (mX7_in l D cI cO a _ _ _) rfl gX7_pig_X7_in dsX7_in ⟨rfl, rfl, ⟨Nat.le_of_ble_eq_true rfl, Nat.le_of_ble_eq_true rfl⟩, Nat.le_of_ble_eq_true rfl, Nat.le_of_ble_eq_true rfl⟩ h (st := []) rfl rfl (Nat.le_of_ble_eq_true rfl) dX7_pig_22 rfl (fun r22 h => ?_)
      refine x_if_eq (tgt := 39) (pc' := 28) K dX7_pig_25 rfl rfl (fun c25 => ?_) (fun c25 => ?_)
      · replace h := h.1 c25
        refine x_aload_n (pc' := 40) K dX7_pig_39 0 rfl rfl ?_
        refine x_iconst (pc' := 41) (v := 1) K dX7_pig_40 (by decide) rfl ?_
        refine x_callI (pc' := 44) K (mX7_error l D cI cO a _) rfl gX7_pig_X7_error rfl dsX7_error ⟨rfl, rfl, ⟨Nat.le_of_ble_eq_true rfl, Nat.le_of_ble_eq_true rfl⟩, Nat.le_of_ble_eq_true rfl, Nat.le_of_ble_eq_true rfl⟩ h 7 0 rfl rfl (st := []) rfl rfl (Nat.le_of_ble_eq_true rfl) dX7_pig_41 rfl (fun r41 F41 G41 h => ?_)
        exact x_iret (wf := w7 cI a) K h dX7_pig_44
      · replace h := h.2 c25
        refine x_aload_n (pc' := 29) K dX7_pig_28 0 rfl rfl ?_
        refine x_iconst (pc' := 30) (v := 2) K dX7_pig_29 (by decide) rfl ?_
        refine x_iload_n (pc' := 31) K dX7_pig_30 1 rfl rfl ?_
        refine x_iadd (pc' := 32) K dX7_pig_31 rfl ?_
        refine x_iload_n (pc' := 33) K dX7_pig_32 2 rfl rfl ?_
        refine x_callI (pc' := 36) K (mX7_change1 l D cI cO a _ _) rfl gX7_pig_X7_change1 rfl dsX7_change1 ⟨rfl, rfl, ⟨Nat.le_of_ble_eq_true rfl, Nat.le_of_ble_eq_true rfl⟩, Nat.le_of_ble_eq_true rfl, Nat.le_of_ble_eq_true rfl⟩ h 7 0 rfl rfl (st := []) rfl rfl (Nat.le_of_ble_eq_true rfl) dX7_pig_33 rfl (fun r33 F33 G33 h => ?_)
        refine x_goto (tgt := 44) K dX7_pig_36 rfl ?_
        exact x_iret (wf := w7 cI a) K h dX7_pig_44
    · replace h := h.2 c12
      refine x_bipush (pc' := 17) (v := 15) K dX7_pig_15 (by decide) rfl ?_
      refine x_goto (tgt := 22) K dX7_pig_17 rfl ?_
      refine x_callS (pc' := 25) K (mX7_in l D cI cO a _ _ _) rfl gX7_pig_X7_in dsX7_in ⟨rfl, rfl, ⟨Nat.le_of_ble_eq_true rfl, Nat.le_of_ble_eq_true rfl⟩, Nat.le_of_ble_eq_true rfl, Nat.le_of_ble_eq_true rfl⟩ h (st := []) rfl rfl (Nat.le_of_ble_eq_true rfl) dX7_pig_22 rfl (fun r22 h => ?_)
      refine x_if_eq (tgt := 39) (pc' := 28) K dX7_pig_25 rfl rfl (fun c25 => ?_) (fun c25 => ?_)
      · replace h := h.1 c25
        refine x_aload_n (pc' := 40) K dX7_pig_39 0 rfl rfl ?_
        refine x_iconst (pc' := 41) (v := 1) K dX7_pig_40 (by decide) rfl ?_
        refine x_callI (pc' := 44) K (mX7_error l D cI cO a _) rfl gX7_pig_X7_error rfl dsX7_error ⟨rfl, rfl, ⟨Nat.le_of_ble_eq_true rfl, Nat.le_of_ble_eq_true rfl⟩, Nat.le_of_ble_eq_true rfl, Nat.le_of_ble_eq_true rfl⟩ h 7 0 rfl rfl (st := []) rfl rfl (Nat.le_of_ble_eq_true rfl) dX7_pig_41 rfl (fun r41 F41 G41 h => ?_)
        exact x_iret (wf := w7 cI a) K h dX7_pig_44
      · replace h := h.2 c25
        refine x_aload_n (pc' := 29) K dX7_pig_28 0 rfl rfl ?_
        refine x_iconst (pc' := 30) (v := 2) K dX7_pig_29 (by decide) rfl ?_
        refine x_iload_n (pc' := 31) K dX7_pig_30 1 rfl rfl ?_
        refine x_iadd (pc' := 32) K dX7_pig_31 rfl ?_
        refine x_iload_n (pc' := 33) K dX7_pig_32 2 rfl rfl ?_
        refine x_callI (pc' := 36) K (mX7_change1 l D cI cO a _ _) rfl gX7_pig_X7_change1 rfl dsX7_change1 ⟨rfl, rfl, ⟨Nat.le_of_ble_eq_true rfl, Nat.le_of_ble_eq_true rfl⟩, Nat.le_of_ble_eq_true rfl, Nat.le_of_ble_eq_true rfl⟩ h 7 0 rfl rfl (st := []) rfl rfl (Nat.le_of_ble_eq_true rfl) dX7_pig_33 rfl (fun r33 F33 G33 h => ?_)
        refine x_goto (tgt := 44) K dX7_pig_36 rfl ?_
        exact x_iret (wf := w7 cI a) K h dX7_pig_44
/-! X7_whyNotDays -/
abbrev rmX7_whyNotDays : Room := { frames := 3, cells := 0, slots := 0, locals := 82 }
theorem dsX7_whyNotDays : xDesc yX7_whyNotDays 1 := by decide +kernel
theorem uX7_whyNotDays_f7 : Cond.fieldLink RX7 7 "PigNinthsModel" "s" "[I" ∈ wsX7_whyNotDays := nw_in nwl_X7_whyNotDays nwe_514 (by decide +kernel)
theorem hinX7_whyNotDays_X7 : ∀ w ∈ wsX70, w ∈ wsX7_whyNotDays := nw_all nwl_X7_whyNotDays nwl_X70 (by decide +kernel)
set_option maxHeartbeats 4000000 in
set_option maxRecDepth 100000 in
theorem mX7_whyNotDays (l : Launch) (D : va_G) (cI cO : ClassId) (a : Nat → Nat)  (x1 : Int32) : MI l yX7_whyNotDays wsX7_whyNotDays rmX7_whyNotDays D (xtys cI cO) [.ref (a 0), .int x1] (w7 cI a) (qX7_whyNotDays x1) := by
  refine MI_of (cc := cX7_whyNotDays) (maxL := 2) (own := RX7) (by decide) rfl rfl (Nat.le_of_ble_eq_true rfl) ?_
  intro p e s m args below meth c A F G Q h K
  refine x_locals [0, 1] (L' := [(0, .ref (a 0)), (1, .int _)]) rfl ?_
  refine x_iload_n (pc' := 1) K dX7_whyNotDays_0 1 rfl rfl ?_
  refine x_iconst (pc' := 2) (v := 1) K dX7_whyNotDays_1 (by decide) rfl ?_
  refine x_bipush (pc' := 4) (v := 45) K dX7_whyNotDays_2 (by decide) rfl ?_
  refine x_callS (pc' := 7) K (mX7_in l D cI cO a _ _ _) rfl gX7_whyNotDays_X7_in dsX7_in ⟨rfl, rfl, ⟨Nat.le_of_ble_eq_true rfl, Nat.le_of_ble_eq_true rfl⟩, Nat.le_of_ble_eq_true rfl, Nat.le_of_ble_eq_true rfl⟩ h (st := []) rfl rfl (Nat.le_of_ble_eq_true rfl) dX7_whyNotDays_4 rfl (fun r4 h => ?_)
  refine x_if_ne (tgt := 14) (pc' := 10) K dX7_whyNotDays_7 rfl rfl (fun c7 => ?_) (fun c7 => ?_)
  · replace h := h.1 c7
    refine x_aload_n (pc' := 15) K dX7_whyNotDays_14 0 rfl rfl ?_
    refine xw7_0g_s (pc' := 18) K hinX7_whyNotDays_X7 uX7_whyNotDays_f7 dX7_whyNotDays_15 rfl ?_
    refine x_iconst (pc' := 19) (v := 0) K dX7_whyNotDays_18 (by decide) rfl ?_
    refine xw7_1l (pc' := 20) K (j := 0) (xin_of (by decide +kernel)) (by decide +kernel) dX7_whyNotDays_19 rfl ?_
    refine x_iload_n (pc' := 21) K dX7_whyNotDays_20 1 rfl rfl ?_
    refine x_iadd (pc' := 22) K dX7_whyNotDays_21 rfl ?_
    refine x_sipush (pc' := 25) (v := 9999) K dX7_whyNotDays_22 (by decide) rfl ?_
    refine x_icmp_le (tgt := 32) (pc' := 28) K dX7_whyNotDays_25 rfl rfl (fun c25 => ?_) (fun c25 => ?_)
    · replace h := h.1 c25
      refine x_iconst (pc' := 33) (v := 0) K dX7_whyNotDays_32 (by decide) rfl ?_
      exact x_iret (wf := w7 cI a) K h dX7_whyNotDays_33
    · replace h := h.2 c25
      refine x_iconst (pc' := 29) (v := 3) K dX7_whyNotDays_28 (by decide) rfl ?_
      refine x_goto (tgt := 33) K dX7_whyNotDays_29 rfl ?_
      exact x_iret (wf := w7 cI a) K h dX7_whyNotDays_33
  · replace h := h.2 c7
    refine x_iconst (pc' := 11) (v := 1) K dX7_whyNotDays_10 (by decide) rfl ?_
    refine x_goto (tgt := 33) K dX7_whyNotDays_11 rfl ?_
    exact x_iret (wf := w7 cI a) K h dX7_whyNotDays_33
/-! X7_days -/
abbrev rmX7_days : Room := { frames := 9, cells := 0, slots := 0, locals := 228 }
theorem dsX7_days : xDesc yX7_days 1 := by decide +kernel
set_option maxHeartbeats 4000000 in
set_option maxRecDepth 100000 in
theorem mX7_days (l : Launch) (D : va_G) (cI cO : ClassId) (a : Nat → Nat)  (x1 : Int32) : MI l yX7_days wsX7_days rmX7_days D (xtys cI cO) [.ref (a 0), .int x1] (w7 cI a) (qX7_days x1) := by
  refine MI_of (cc := cX7_days) (maxL := 3) (own := RX7) (by decide) rfl rfl (Nat.le_of_ble_eq_true rfl) ?_
  intro p e s m args below meth c A F G Q h K
  refine x_locals [0, 1] (L' := [(0, .ref (a 0)), (1, .int _)]) rfl ?_
  refine x_aload_n (pc' := 1) K dX7_days_0 0 rfl rfl ?_
  refine x_iload_n (pc' := 2) K dX7_days_1 1 rfl rfl ?_
  refine x_callI (pc' := 5) K (mX7_whyNotDays l D cI cO a _) rfl gX7_days_X7_whyNotDays rfl dsX7_whyNotDays ⟨rfl, rfl, ⟨Nat.le_of_ble_eq_true rfl, Nat.le_of_ble_eq_true rfl⟩, Nat.le_of_ble_eq_true rfl, Nat.le_of_ble_eq_true rfl⟩ h 7 0 rfl rfl (st := []) rfl rfl (Nat.le_of_ble_eq_true rfl) dX7_days_2 rfl (fun r2 F2 G2 h => ?_)
  refine x_istore_n (pc' := 6) (i := 2) K dX7_days_5 rfl (by decide) [1, 2, 0] (L' := [(0, .ref (a 0)), (1, .int _), (2, .int _)]) rfl rfl ?_
  refine x_iload_n (pc' := 7) K dX7_days_6 2 rfl rfl ?_
  refine x_if_le (tgt := 18) (pc' := 10) K dX7_days_7 rfl rfl (fun c7 => ?_) (fun c7 => ?_)
  · replace h := h.1 c7
    refine x_aload_n (pc' := 19) K dX7_days_18 0 rfl rfl ?_
    refine x_iload_n (pc' := 20) K dX7_days_19 1 rfl rfl ?_
    refine x_callI (pc' := 23) K (mX7_go l D cI cO a _) rfl gX7_days_X7_go rfl dsX7_go ⟨rfl, rfl, ⟨Nat.le_of_ble_eq_true rfl, Nat.le_of_ble_eq_true rfl⟩, Nat.le_of_ble_eq_true rfl, Nat.le_of_ble_eq_true rfl⟩ h 7 0 rfl rfl (st := []) rfl rfl (Nat.le_of_ble_eq_true rfl) dX7_days_20 rfl (fun r20 F20 G20 h => ?_)
    exact x_iret (wf := w7 cI a) K h dX7_days_23
  · replace h := h.2 c7
    refine x_aload_n (pc' := 11) K dX7_days_10 0 rfl rfl ?_
    refine x_iload_n (pc' := 12) K dX7_days_11 2 rfl rfl ?_
    refine x_callI (pc' := 15) K (mX7_error l D cI cO a _) rfl gX7_days_X7_error rfl dsX7_error ⟨rfl, rfl, ⟨Nat.le_of_ble_eq_true rfl, Nat.le_of_ble_eq_true rfl⟩, Nat.le_of_ble_eq_true rfl, Nat.le_of_ble_eq_true rfl⟩ h 7 0 rfl rfl (st := []) rfl rfl (Nat.le_of_ble_eq_true rfl) dX7_days_12 rfl (fun r12 F12 G12 h => ?_)
    refine x_goto (tgt := 23) K dX7_days_15 rfl ?_
    exact x_iret (wf := w7 cI a) K h dX7_days_23
/-! X7_draw -/
abbrev rmX7_draw : Room := { frames := 2, cells := 0, slots := 0, locals := 60 }
theorem dsX7_draw : xDesc yX7_draw 0 := by decide +kernel
theorem uX7_draw_f7 : Cond.fieldLink RX7 7 "PigNinthsModel" "s" "[I" ∈ wsX7_draw := nw_in nwl_X7_draw nwe_514 (by decide +kernel)
theorem hinX7_draw_X7 : ∀ w ∈ wsX70, w ∈ wsX7_draw := nw_all nwl_X7_draw nwl_X70 (by decide +kernel)
theorem uX7_draw_k194 : Jvm.Cond.constant RX7 194 (1103515245) ∈ wsX7_draw := nw_in nwl_X7_draw nwe_693 (by decide +kernel)
set_option maxHeartbeats 4000000 in
set_option maxRecDepth 100000 in
theorem mX7_draw (l : Launch) (D : va_G) (cI cO : ClassId) (a : Nat → Nat)   : MI l yX7_draw wsX7_draw rmX7_draw D (xtys cI cO) [.ref (a 0)] (w7 cI a) qX7_draw := by
  refine MI_of (cc := cX7_draw) (maxL := 1) (own := RX7) (by decide) rfl rfl (Nat.le_of_ble_eq_true rfl) ?_
  intro p e s m args below meth c A F G Q h K
  refine x_locals [0] (L' := [(0, .ref (a 0))]) rfl ?_
  refine x_aload_n (pc' := 1) K dX7_draw_0 0 rfl rfl ?_
  refine xw7_0g_s (pc' := 4) K hinX7_draw_X7 uX7_draw_f7 dX7_draw_1 rfl ?_
  refine x_bipush (pc' := 6) (v := 6) K dX7_draw_4 (by decide) rfl ?_
  refine x_aload_n (pc' := 7) K dX7_draw_6 0 rfl rfl ?_
  refine xw7_0g_s (pc' := 10) K hinX7_draw_X7 uX7_draw_f7 dX7_draw_7 rfl ?_
  refine x_bipush (pc' := 12) (v := 6) K dX7_draw_10 (by decide) rfl ?_
  refine xw7_1l (pc' := 13) K (j := 6) (xin_of (by decide +kernel)) (by decide +kernel) dX7_draw_12 rfl ?_
  refine x_ldc (pc' := 15) K dX7_draw_13 uX7_draw_k194 rfl ?_
  refine x_imul (pc' := 16) K dX7_draw_15 rfl ?_
  refine x_sipush (pc' := 19) (v := 12345) K dX7_draw_16 (by decide) rfl ?_
  refine x_iadd (pc' := 20) K dX7_draw_19 rfl ?_
  refine xw7_1s (pc' := 21) K (j := 6) (xin_of (by decide +kernel)) (by decide +kernel) dX7_draw_20 rfl (fun G20 eG20 => ?_)
  replace h := h G20 eG20
  refine x_aload_n (pc' := 22) K dX7_draw_21 0 rfl rfl ?_
  refine xw7_0g_s (pc' := 25) K hinX7_draw_X7 uX7_draw_f7 dX7_draw_22 rfl ?_
  refine x_bipush (pc' := 27) (v := 6) K dX7_draw_25 (by decide) rfl ?_
  refine xw7_1l (pc' := 28) K (j := 6) (xin_of (by decide +kernel)) (by decide +kernel) dX7_draw_27 rfl ?_
  refine x_bipush (pc' := 30) (v := 8) K dX7_draw_28 (by decide) rfl ?_
  refine x_iushr (pc' := 31) K dX7_draw_30 rfl ?_
  exact x_iret (wf := w7 cI a) K h dX7_draw_31
/-! X7_draws -/
abbrev rmX7_draws : Room := { frames := 8, cells := 0, slots := 0, locals := 205 }
theorem dsX7_draws : xDesc yX7_draws 1 := by decide +kernel
theorem uX7_draws_f7 : Cond.fieldLink RX7 7 "PigNinthsModel" "s" "[I" ∈ wsX7_draws := nw_in nwl_X7_draws nwe_514 (by decide +kernel)
theorem hinX7_draws_X7 : ∀ w ∈ wsX70, w ∈ wsX7_draws := nw_all nwl_X7_draws nwl_X70 (by decide +kernel)
set_option maxHeartbeats 4000000 in
set_option maxRecDepth 100000 in
theorem tX7_draws_21 (K : XK p m c cX7_draws 5 s args wsX7_draws RX7 D (xtys cI cO) A meth (some .int)) {Q : Int32 → xF → xA → Prop} : ∀ (n : Nat), ∀ (x1 : Int32) (x3 : Int32) (x4 : Int32) (F : xF) (G : xA), qX7_draws_21 Q n x1 x3 x4 F G → XJ p l e rmX7_draws s m args below meth c 0 0 (MQ below (xQi D (w7 cI a) A Q) args s 0 0 A) D (xtys cI cO) A 5 (w7 cI a F G) 21 [(0, .ref (a 0)), (1, .int x1), (3, .int x3), (4, .int x4)] [] := by
  intro n
  induction n with
  | zero =>
    intro x1 x3 x4 F G h
    exact False.elim h
  | succ n ih =>
    intro x1 x3 x4 F G h
    refine x_iload (pc' := 23) K dX7_draws_21 3 rfl rfl ?_
    refine x_iload_n (pc' := 24) K dX7_draws_23 1 rfl rfl ?_
    refine x_icmp_ge (tgt := 53) (pc' := 27) K dX7_draws_24 rfl rfl (fun c24 => ?_) (fun c24 => ?_)
    · replace h := h.1 c24
      refine x_iload_n (pc' := 54) K dX7_draws_53 2 rfl rfl ?_
      exact x_iret (wf := w7 cI a) K h dX7_draws_54
    · replace h := h.2 c24
      refine x_aload_n (pc' := 28) K dX7_draws_27 0 rfl rfl ?_
      refine xw7_0g_s (pc' := 31) K hinX7_draws_X7 uX7_draws_f7 dX7_draws_28 rfl ?_
      refine x_iconst (pc' := 32) (v := 1) K dX7_draws_31 (by decide) rfl ?_
      refine x_aload_n (pc' := 33) K dX7_draws_32 0 rfl rfl ?_
      refine x_callI (pc' := 36) K (mX7_draw l D cI cO a) rfl gX7_draws_X7_draw rfl dsX7_draw ⟨rfl, rfl, ⟨Nat.le_of_ble_eq_true rfl, Nat.le_of_ble_eq_true rfl⟩, Nat.le_of_ble_eq_true rfl, Nat.le_of_ble_eq_true rfl⟩ h 7 0 rfl rfl (st := [.int _, .ref (a 1)]) rfl rfl (Nat.le_of_ble_eq_true rfl) dX7_draws_33 rfl (fun r33 F33 G33 h => ?_)
      refine x_bipush (pc' := 38) (v := 10) K dX7_draws_36 (by decide) rfl ?_
      refine x_irem (pc' := 39) K dX7_draws_38 (by decide) rfl ?_
      refine xw7_1s (pc' := 40) K (j := 1) (xin_of (by decide +kernel)) (by decide +kernel) dX7_draws_39 rfl (fun G39 eG39 => ?_)
      replace h := h G39 eG39
      refine x_iload_n (pc' := 41) K dX7_draws_40 2 rfl rfl ?_
      refine x_aload_n (pc' := 42) K dX7_draws_41 0 rfl rfl ?_
      refine x_callI (pc' := 45) K (mX7_day l D cI cO a) rfl gX7_draws_X7_day rfl dsX7_day ⟨rfl, rfl, ⟨Nat.le_of_ble_eq_true rfl, Nat.le_of_ble_eq_true rfl⟩, Nat.le_of_ble_eq_true rfl, Nat.le_of_ble_eq_true rfl⟩ h 7 0 rfl rfl (st := [.int _]) rfl rfl (Nat.le_of_ble_eq_true rfl) dX7_draws_42 rfl (fun r42 F42 G42 h => ?_)
      refine x_iadd (pc' := 46) K dX7_draws_45 rfl ?_
      refine x_istore_n (pc' := 47) (i := 3) K dX7_draws_46 rfl (by decide) [1, 2, 0, 3] (L' := [(0, .ref (a 0)), (1, .int _), (3, .int _), (4, .int _)]) rfl rfl ?_
      refine x_iinc (pc' := 50) (v := _ + (1 : Int32)) K dX7_draws_47 3 rfl rfl (by decide) [1, 2, 3, 0] (L' := [(0, .ref (a 0)), (1, .int _), (3, .int _), (4, .int _)]) rfl rfl ?_
      refine x_goto (tgt := 21) K dX7_draws_50 rfl ?_
      exact ih _ _ _ _ _ h
set_option maxHeartbeats 4000000 in
set_option maxRecDepth 100000 in
theorem mX7_draws (l : Launch) (D : va_G) (cI cO : ClassId) (a : Nat → Nat)  (x1 : Int32) : MI l yX7_draws wsX7_draws rmX7_draws D (xtys cI cO) [.ref (a 0), .int x1] (w7 cI a) (qX7_draws x1) := by
  refine MI_of (cc := cX7_draws) (maxL := 5) (own := RX7) (by decide) rfl rfl (Nat.le_of_ble_eq_true rfl) ?_
  intro p e s m args below meth c A F G Q h K
  refine x_locals [0, 1] (L' := [(0, .ref (a 0)), (1, .int _)]) rfl ?_
  refine x_aload_n (pc' := 1) K dX7_draws_0 0 rfl rfl ?_
  refine x_iload_n (pc' := 2) K dX7_draws_1 1 rfl rfl ?_
  refine x_callI (pc' := 5) K (mX7_whyNotDays l D cI cO a _) rfl gX7_draws_X7_whyNotDays rfl dsX7_whyNotDays ⟨rfl, rfl, ⟨Nat.le_of_ble_eq_true rfl, Nat.le_of_ble_eq_true rfl⟩, Nat.le_of_ble_eq_true rfl, Nat.le_of_ble_eq_true rfl⟩ h 7 0 rfl rfl (st := []) rfl rfl (Nat.le_of_ble_eq_true rfl) dX7_draws_2 rfl (fun r2 F2 G2 h => ?_)
  refine x_istore_n (pc' := 6) (i := 2) K dX7_draws_5 rfl (by decide) [1, 2, 0] (L' := [(0, .ref (a 0)), (1, .int _), (2, .int _)]) rfl rfl ?_
  refine x_iload_n (pc' := 7) K dX7_draws_6 2 rfl rfl ?_
  refine x_if_le (tgt := 16) (pc' := 10) K dX7_draws_7 rfl rfl (fun c7 => ?_) (fun c7 => ?_)
  · replace h := h.1 c7
    refine x_iconst (pc' := 17) (v := 0) K dX7_draws_16 (by decide) rfl ?_
    refine x_istore_n (pc' := 18) (i := 3) K dX7_draws_17 rfl (by decide) [1, 2, 3, 0] (L' := [(0, .ref (a 0)), (1, .int _), (2, .int _), (3, .int _)]) rfl rfl ?_
    refine x_iconst (pc' := 19) (v := 0) K dX7_draws_18 (by decide) rfl ?_
    refine x_istore (pc' := 21) (i := 4) K dX7_draws_19 (by decide) [1, 2, 3, 4, 0] (L' := [(0, .ref (a 0)), (1, .int _), (2, .int _), (3, .int _), (4, .int _)]) rfl rfl ?_
    refine x_locals [0, 1, 3, 4] (L' := [(0, .ref (a 0)), (1, .int _), (3, .int _), (4, .int _)]) rfl ?_
    obtain ⟨n21, h⟩ := h
    exact tX7_draws_21 K n21 _ _ _ _ _ h
  · replace h := h.2 c7
    refine x_aload_n (pc' := 11) K dX7_draws_10 0 rfl rfl ?_
    refine x_iload_n (pc' := 12) K dX7_draws_11 2 rfl rfl ?_
    refine x_callI (pc' := 15) K (mX7_error l D cI cO a _) rfl gX7_draws_X7_error rfl dsX7_error ⟨rfl, rfl, ⟨Nat.le_of_ble_eq_true rfl, Nat.le_of_ble_eq_true rfl⟩, Nat.le_of_ble_eq_true rfl, Nat.le_of_ble_eq_true rfl⟩ h 7 0 rfl rfl (st := []) rfl rfl (Nat.le_of_ble_eq_true rfl) dX7_draws_12 rfl (fun r12 F12 G12 h => ?_)
    exact x_iret (wf := w7 cI a) K h dX7_draws_15
/-! X7_seed -/
abbrev rmX7_seed : Room := { frames := 3, cells := 0, slots := 0, locals := 83 }
theorem dsX7_seed : xDesc yX7_seed 1 := by decide +kernel
set_option maxHeartbeats 4000000 in
set_option maxRecDepth 100000 in
theorem mX7_seed (l : Launch) (D : va_G) (cI cO : ClassId) (a : Nat → Nat)  (x1 : Int32) : MI l yX7_seed wsX7_seed rmX7_seed D (xtys cI cO) [.ref (a 0), .int x1] (w7 cI a) (qX7_seed x1) := by
  refine MI_of (cc := cX7_seed) (maxL := 2) (own := RX7) (by decide) rfl rfl (Nat.le_of_ble_eq_true rfl) ?_
  intro p e s m args below meth c A F G Q h K
  refine x_locals [0, 1] (L' := [(0, .ref (a 0)), (1, .int _)]) rfl ?_
  refine x_aload_n (pc' := 1) K dX7_seed_0 0 rfl rfl ?_
  refine x_bipush (pc' := 3) (v := 6) K dX7_seed_1 (by decide) rfl ?_
  refine x_iload_n (pc' := 4) K dX7_seed_3 1 rfl rfl ?_
  refine x_callI (pc' := 7) K (mX7_change1 l D cI cO a _ _) rfl gX7_seed_X7_change1 rfl dsX7_change1 ⟨rfl, rfl, ⟨Nat.le_of_ble_eq_true rfl, Nat.le_of_ble_eq_true rfl⟩, Nat.le_of_ble_eq_true rfl, Nat.le_of_ble_eq_true rfl⟩ h 7 0 rfl rfl (st := []) rfl rfl (Nat.le_of_ble_eq_true rfl) dX7_seed_4 rfl (fun r4 F4 G4 h => ?_)
  exact x_iret (wf := w7 cI a) K h dX7_seed_7
/-! X7_then -/
abbrev rmX7_then : Room := { frames := 9, cells := 0, slots := 0, locals := 228 }
theorem dsX7_then : xDesc yX7_then 3 := by decide +kernel
set_option maxHeartbeats 4000000 in
set_option maxRecDepth 100000 in
theorem mX7_then (l : Launch) (D : va_G) (cI cO : ClassId) (a : Nat → Nat)  (x1 : Int32) (x2 : Int32) (x3 : Int32) : MI l yX7_then wsX7_then rmX7_then D (xtys cI cO) [.ref (a 0), .int x1, .int x2, .int x3] (w7 cI a) (qX7_then x1 x2 x3) := by
  refine MI_of (cc := cX7_then) (maxL := 6) (own := RX7) (by decide) rfl rfl (Nat.le_of_ble_eq_true rfl) ?_
  intro p e s m args below meth c A F G Q h K
  refine x_locals [0, 1, 2, 3] (L' := [(0, .ref (a 0)), (1, .int _), (2, .int _), (3, .int _)]) rfl ?_
  refine x_iload_n (pc' := 1) K dX7_then_0 1 rfl rfl ?_
  refine x_iconst (pc' := 2) (v := 0) K dX7_then_1 (by decide) rfl ?_
  refine x_bipush (pc' := 4) (v := 45) K dX7_then_2 (by decide) rfl ?_
  refine x_callS (pc' := 7) K (mX7_in l D cI cO a _ _ _) rfl gX7_then_X7_in dsX7_in ⟨rfl, rfl, ⟨Nat.le_of_ble_eq_true rfl, Nat.le_of_ble_eq_true rfl⟩, Nat.le_of_ble_eq_true rfl, Nat.le_of_ble_eq_true rfl⟩ h (st := []) rfl rfl (Nat.le_of_ble_eq_true rfl) dX7_then_4 rfl (fun r4 h => ?_)
  refine x_if_eq (tgt := 27) (pc' := 10) K dX7_then_7 rfl rfl (fun c7 => ?_) (fun c7 => ?_)
  · replace h := h.1 c7
    refine x_aload_n (pc' := 28) K dX7_then_27 0 rfl rfl ?_
    refine x_iconst (pc' := 29) (v := 1) K dX7_then_28 (by decide) rfl ?_
    refine x_callI (pc' := 32) K (mX7_error l D cI cO a _) rfl gX7_then_X7_error rfl dsX7_error ⟨rfl, rfl, ⟨Nat.le_of_ble_eq_true rfl, Nat.le_of_ble_eq_true rfl⟩, Nat.le_of_ble_eq_true rfl, Nat.le_of_ble_eq_true rfl⟩ h 7 0 rfl rfl (st := []) rfl rfl (Nat.le_of_ble_eq_true rfl) dX7_then_29 rfl (fun r29 F29 G29 h => ?_)
    exact x_iret (wf := w7 cI a) K h dX7_then_32
  · replace h := h.2 c7
    refine x_iload_n (pc' := 11) K dX7_then_10 2 rfl rfl ?_
    refine x_callS (pc' := 14) K (mX7_isFarmer l D cI cO a _) rfl gX7_then_X7_isFarmer dsX7_isFarmer ⟨rfl, rfl, ⟨Nat.le_of_ble_eq_true rfl, Nat.le_of_ble_eq_true rfl⟩, Nat.le_of_ble_eq_true rfl, Nat.le_of_ble_eq_true rfl⟩ h (st := []) rfl rfl (Nat.le_of_ble_eq_true rfl) dX7_then_11 rfl (fun r11 h => ?_)
    refine x_if_eq (tgt := 27) (pc' := 17) K dX7_then_14 rfl rfl (fun c14 => ?_) (fun c14 => ?_)
    · replace h := h.1 c14
      refine x_aload_n (pc' := 28) K dX7_then_27 0 rfl rfl ?_
      refine x_iconst (pc' := 29) (v := 1) K dX7_then_28 (by decide) rfl ?_
      refine x_callI (pc' := 32) K (mX7_error l D cI cO a _) rfl gX7_then_X7_error rfl dsX7_error ⟨rfl, rfl, ⟨Nat.le_of_ble_eq_true rfl, Nat.le_of_ble_eq_true rfl⟩, Nat.le_of_ble_eq_true rfl, Nat.le_of_ble_eq_true rfl⟩ h 7 0 rfl rfl (st := []) rfl rfl (Nat.le_of_ble_eq_true rfl) dX7_then_29 rfl (fun r29 F29 G29 h => ?_)
      exact x_iret (wf := w7 cI a) K h dX7_then_32
    · replace h := h.2 c14
      refine x_iload_n (pc' := 18) K dX7_then_17 3 rfl rfl ?_
      refine x_iconst (pc' := 19) (v := 0) K dX7_then_18 (by decide) rfl ?_
      refine x_bipush (pc' := 21) (v := 8) K dX7_then_19 (by decide) rfl ?_
      refine x_callS (pc' := 24) K (mX7_in l D cI cO a _ _ _) rfl gX7_then_X7_in dsX7_in ⟨rfl, rfl, ⟨Nat.le_of_ble_eq_true rfl, Nat.le_of_ble_eq_true rfl⟩, Nat.le_of_ble_eq_true rfl, Nat.le_of_ble_eq_true rfl⟩ h (st := []) rfl rfl (Nat.le_of_ble_eq_true rfl) dX7_then_21 rfl (fun r21 h => ?_)
      refine x_if_ne (tgt := 33) (pc' := 27) K dX7_then_24 rfl rfl (fun c24 => ?_) (fun c24 => ?_)
      · replace h := h.1 c24
        refine x_aload_n (pc' := 34) K dX7_then_33 0 rfl rfl ?_
        refine x_callV (pc' := 37) K (mX7_layDown l D cI cO a) rfl gX7_then_X7_layDown rfl dsX7_layDown ⟨rfl, rfl, ⟨Nat.le_of_ble_eq_true rfl, Nat.le_of_ble_eq_true rfl⟩, Nat.le_of_ble_eq_true rfl, Nat.le_of_ble_eq_true rfl⟩ h 7 0 rfl rfl (st := []) rfl rfl (Nat.le_of_ble_eq_true rfl) dX7_then_34 rfl (fun F34 G34 h => ?_)
        refine x_aload_n (pc' := 38) K dX7_then_37 0 rfl rfl ?_
        refine x_iload_n (pc' := 39) K dX7_then_38 1 rfl rfl ?_
        refine x_callI (pc' := 42) K (mX7_go l D cI cO a _) rfl gX7_then_X7_go rfl dsX7_go ⟨rfl, rfl, ⟨Nat.le_of_ble_eq_true rfl, Nat.le_of_ble_eq_true rfl⟩, Nat.le_of_ble_eq_true rfl, Nat.le_of_ble_eq_true rfl⟩ h 7 0 rfl rfl (st := []) rfl rfl (Nat.le_of_ble_eq_true rfl) dX7_then_39 rfl (fun r39 F39 G39 h => ?_)
        refine x_istore (pc' := 44) (i := 4) K dX7_then_42 (by decide) [1, 2, 3, 4, 0] (L' := [(0, .ref (a 0)), (1, .int _), (2, .int _), (3, .int _), (4, .int _)]) rfl rfl ?_
        refine x_aload_n (pc' := 45) K dX7_then_44 0 rfl rfl ?_
        refine x_iload_n (pc' := 46) K dX7_then_45 2 rfl rfl ?_
        refine x_iload_n (pc' := 47) K dX7_then_46 3 rfl rfl ?_
        refine x_callI (pc' := 50) K (mX7_its l D cI cO a _ _) rfl gX7_then_X7_its rfl dsX7_its ⟨rfl, rfl, ⟨Nat.le_of_ble_eq_true rfl, Nat.le_of_ble_eq_true rfl⟩, Nat.le_of_ble_eq_true rfl, Nat.le_of_ble_eq_true rfl⟩ h 7 0 rfl rfl (st := []) rfl rfl (Nat.le_of_ble_eq_true rfl) dX7_then_47 rfl (fun r47 F47 G47 h => ?_)
        refine x_istore (pc' := 52) (i := 5) K dX7_then_50 (by decide) [1, 2, 3, 4, 5, 0] (L' := [(0, .ref (a 0)), (1, .int _), (2, .int _), (3, .int _), (4, .int _), (5, .int _)]) rfl rfl ?_
        refine x_aload_n (pc' := 53) K dX7_then_52 0 rfl rfl ?_
        refine x_callV (pc' := 56) K (mX7_layBack l D cI cO a) rfl gX7_then_X7_layBack rfl dsX7_layBack ⟨rfl, rfl, ⟨Nat.le_of_ble_eq_true rfl, Nat.le_of_ble_eq_true rfl⟩, Nat.le_of_ble_eq_true rfl, Nat.le_of_ble_eq_true rfl⟩ h 7 0 rfl rfl (st := []) rfl rfl (Nat.le_of_ble_eq_true rfl) dX7_then_53 rfl (fun F53 G53 h => ?_)
        refine x_iload (pc' := 58) K dX7_then_56 5 rfl rfl ?_
        exact x_iret (wf := w7 cI a) K h dX7_then_58
      · replace h := h.2 c24
        refine x_aload_n (pc' := 28) K dX7_then_27 0 rfl rfl ?_
        refine x_iconst (pc' := 29) (v := 1) K dX7_then_28 (by decide) rfl ?_
        refine x_callI (pc' := 32) K (mX7_error l D cI cO a _) rfl gX7_then_X7_error rfl dsX7_error ⟨rfl, rfl, ⟨Nat.le_of_ble_eq_true rfl, Nat.le_of_ble_eq_true rfl⟩, Nat.le_of_ble_eq_true rfl, Nat.le_of_ble_eq_true rfl⟩ h 7 0 rfl rfl (st := []) rfl rfl (Nat.le_of_ble_eq_true rfl) dX7_then_29 rfl (fun r29 F29 G29 h => ?_)
        exact x_iret (wf := w7 cI a) K h dX7_then_32
/-! X7_map -/
abbrev rmX7_map : Room := { frames := 2, cells := 0, slots := 0, locals := 60 }
theorem dsX7_map : xDesc yX7_map 0 := by decide +kernel
theorem uX7_map_f7 : Cond.fieldLink RX7 7 "PigNinthsModel" "s" "[I" ∈ wsX7_map := nw_in nwl_X7_map nwe_514 (by decide +kernel)
theorem hinX7_map_X7 : ∀ w ∈ wsX70, w ∈ wsX7_map := nw_all nwl_X7_map nwl_X70 (by decide +kernel)
set_option maxHeartbeats 4000000 in
set_option maxRecDepth 100000 in
theorem tX7_map_4 (K : XK p m c cX7_map 3 s args wsX7_map RX7 D (xtys cI cO) A meth (some .int)) {Q : Int32 → xF → xA → Prop} : ∀ (n : Nat), ∀ (x1 : Int32) (x2 : Int32) (F : xF) (G : xA), qX7_map_4 Q n x1 x2 F G → XJ p l e rmX7_map s m args below meth c 0 0 (MQ below (xQi D (w7 cI a) A Q) args s 0 0 A) D (xtys cI cO) A 3 (w7 cI a F G) 4 [(0, .ref (a 0)), (1, .int x1), (2, .int x2)] [] := by
  intro n
  induction n with
  | zero =>
    intro x1 x2 F G h
    exact False.elim h
  | succ n ih =>
    intro x1 x2 F G h
    refine x_iload_n (pc' := 5) K dX7_map_4 2 rfl rfl ?_
    refine x_bipush (pc' := 7) (v := 16) K dX7_map_5 (by decide) rfl ?_
    refine x_icmp_ge (tgt := 43) (pc' := 10) K dX7_map_7 rfl rfl (fun c7 => ?_) (fun c7 => ?_)
    · replace h := h.1 c7
      refine x_iload_n (pc' := 44) K dX7_map_43 1 rfl rfl ?_
      exact x_iret (wf := w7 cI a) K h dX7_map_44
    · replace h := h.2 c7
      refine x_aload_n (pc' := 11) K dX7_map_10 0 rfl rfl ?_
      refine xw7_0g_s (pc' := 14) K hinX7_map_X7 uX7_map_f7 dX7_map_11 rfl ?_
      refine x_bipush (pc' := 16) (v := 24) K dX7_map_14 (by decide) rfl ?_
      refine x_iload_n (pc' := 17) K dX7_map_16 2 rfl rfl ?_
      refine x_iadd (pc' := 18) K dX7_map_17 rfl ?_
      obtain ⟨i18, h⟩ := h
      refine xw7_1l (pc' := 19) K i18 rfl dX7_map_18 rfl ?_
      refine x_aload_n (pc' := 20) K dX7_map_19 0 rfl rfl ?_
      refine xw7_0g_s (pc' := 23) K hinX7_map_X7 uX7_map_f7 dX7_map_20 rfl ?_
      refine x_bipush (pc' := 25) (v := 24) K dX7_map_23 (by decide) rfl ?_
      refine x_iload_n (pc' := 26) K dX7_map_25 1 rfl rfl ?_
      refine x_iadd (pc' := 27) K dX7_map_26 rfl ?_
      obtain ⟨i27, h⟩ := h
      refine xw7_1l (pc' := 28) K i27 rfl dX7_map_27 rfl ?_
      refine x_icmp_le (tgt := 35) (pc' := 31) K dX7_map_28 rfl rfl (fun c28 => ?_) (fun c28 => ?_)
      · replace h := h.1 c28
        refine x_iload_n (pc' := 36) K dX7_map_35 1 rfl rfl ?_
        refine x_istore_n (pc' := 37) (i := 1) K dX7_map_36 rfl (by decide) [1, 0, 2] (L' := [(0, .ref (a 0)), (1, .int _), (2, .int _)]) rfl rfl ?_
        refine x_iinc (pc' := 40) (v := _ + (1 : Int32)) K dX7_map_37 2 rfl rfl (by decide) [1, 2, 0] (L' := [(0, .ref (a 0)), (1, .int _), (2, .int _)]) rfl rfl ?_
        refine x_goto (tgt := 4) K dX7_map_40 rfl ?_
        exact ih _ _ _ _ h
      · replace h := h.2 c28
        refine x_iload_n (pc' := 32) K dX7_map_31 2 rfl rfl ?_
        refine x_goto (tgt := 36) K dX7_map_32 rfl ?_
        refine x_istore_n (pc' := 37) (i := 1) K dX7_map_36 rfl (by decide) [1, 0, 2] (L' := [(0, .ref (a 0)), (1, .int _), (2, .int _)]) rfl rfl ?_
        refine x_iinc (pc' := 40) (v := _ + (1 : Int32)) K dX7_map_37 2 rfl rfl (by decide) [1, 2, 0] (L' := [(0, .ref (a 0)), (1, .int _), (2, .int _)]) rfl rfl ?_
        refine x_goto (tgt := 4) K dX7_map_40 rfl ?_
        exact ih _ _ _ _ h
set_option maxHeartbeats 4000000 in
set_option maxRecDepth 100000 in
theorem mX7_map (l : Launch) (D : va_G) (cI cO : ClassId) (a : Nat → Nat)   : MI l yX7_map wsX7_map rmX7_map D (xtys cI cO) [.ref (a 0)] (w7 cI a) qX7_map := by
  refine MI_of (cc := cX7_map) (maxL := 3) (own := RX7) (by decide) rfl rfl (Nat.le_of_ble_eq_true rfl) ?_
  intro p e s m args below meth c A F G Q h K
  refine x_locals [0] (L' := [(0, .ref (a 0))]) rfl ?_
  refine x_iconst (pc' := 1) (v := 0) K dX7_map_0 (by decide) rfl ?_
  refine x_istore_n (pc' := 2) (i := 1) K dX7_map_1 rfl (by decide) [1, 0] (L' := [(0, .ref (a 0)), (1, .int _)]) rfl rfl ?_
  refine x_iconst (pc' := 3) (v := 1) K dX7_map_2 (by decide) rfl ?_
  refine x_istore_n (pc' := 4) (i := 2) K dX7_map_3 rfl (by decide) [1, 2, 0] (L' := [(0, .ref (a 0)), (1, .int _), (2, .int _)]) rfl rfl ?_
  obtain ⟨n4, h⟩ := h
  exact tX7_map_4 K n4 _ _ _ _ h
/-! X7_ahead -/
abbrev rmX7_ahead : Room := { frames := 9, cells := 0, slots := 0, locals := 228 }
theorem dsX7_ahead : xDesc yX7_ahead 2 := by decide +kernel
theorem uX7_ahead_f7 : Cond.fieldLink RX7 7 "PigNinthsModel" "s" "[I" ∈ wsX7_ahead := nw_in nwl_X7_ahead nwe_514 (by decide +kernel)
theorem hinX7_ahead_X7 : ∀ w ∈ wsX70, w ∈ wsX7_ahead := nw_all nwl_X7_ahead nwl_X70 (by decide +kernel)
set_option maxHeartbeats 4000000 in
set_option maxRecDepth 100000 in
theorem mX7_ahead (l : Launch) (D : va_G) (cI cO : ClassId) (a : Nat → Nat)  (x1 : Int32) (x2 : Int32) : MI l yX7_ahead wsX7_ahead rmX7_ahead D (xtys cI cO) [.ref (a 0), .int x1, .int x2] (w7 cI a) (qX7_ahead x1 x2) := by
  refine MI_of (cc := cX7_ahead) (maxL := 5) (own := RX7) (by decide) rfl rfl (Nat.le_of_ble_eq_true rfl) ?_
  intro p e s m args below meth c A F G Q h K
  refine x_locals [0, 1, 2] (L' := [(0, .ref (a 0)), (1, .int _), (2, .int _)]) rfl ?_
  refine x_iload_n (pc' := 1) K dX7_ahead_0 1 rfl rfl ?_
  refine x_iconst (pc' := 2) (v := 0) K dX7_ahead_1 (by decide) rfl ?_
  refine x_bipush (pc' := 4) (v := 45) K dX7_ahead_2 (by decide) rfl ?_
  refine x_callS (pc' := 7) K (mX7_in l D cI cO a _ _ _) rfl gX7_ahead_X7_in dsX7_in ⟨rfl, rfl, ⟨Nat.le_of_ble_eq_true rfl, Nat.le_of_ble_eq_true rfl⟩, Nat.le_of_ble_eq_true rfl, Nat.le_of_ble_eq_true rfl⟩ h (st := []) rfl rfl (Nat.le_of_ble_eq_true rfl) dX7_ahead_4 rfl (fun r4 h => ?_)
  refine x_if_eq (tgt := 19) (pc' := 10) K dX7_ahead_7 rfl rfl (fun c7 => ?_) (fun c7 => ?_)
  · replace h := h.1 c7
    refine x_aload_n (pc' := 20) K dX7_ahead_19 0 rfl rfl ?_
    refine x_iconst (pc' := 21) (v := 1) K dX7_ahead_20 (by decide) rfl ?_
    refine x_callI (pc' := 24) K (mX7_error l D cI cO a _) rfl gX7_ahead_X7_error rfl dsX7_error ⟨rfl, rfl, ⟨Nat.le_of_ble_eq_true rfl, Nat.le_of_ble_eq_true rfl⟩, Nat.le_of_ble_eq_true rfl, Nat.le_of_ble_eq_true rfl⟩ h 7 0 rfl rfl (st := []) rfl rfl (Nat.le_of_ble_eq_true rfl) dX7_ahead_21 rfl (fun r21 F21 G21 h => ?_)
    exact x_iret (wf := w7 cI a) K h dX7_ahead_24
  · replace h := h.2 c7
    refine x_iload_n (pc' := 11) K dX7_ahead_10 2 rfl rfl ?_
    refine x_iconst (pc' := 12) (v := 0) K dX7_ahead_11 (by decide) rfl ?_
    refine x_iconst (pc' := 13) (v := 3) K dX7_ahead_12 (by decide) rfl ?_
    refine x_callS (pc' := 16) K (mX7_in l D cI cO a _ _ _) rfl gX7_ahead_X7_in dsX7_in ⟨rfl, rfl, ⟨Nat.le_of_ble_eq_true rfl, Nat.le_of_ble_eq_true rfl⟩, Nat.le_of_ble_eq_true rfl, Nat.le_of_ble_eq_true rfl⟩ h (st := []) rfl rfl (Nat.le_of_ble_eq_true rfl) dX7_ahead_13 rfl (fun r13 h => ?_)
    refine x_if_ne (tgt := 25) (pc' := 19) K dX7_ahead_16 rfl rfl (fun c16 => ?_) (fun c16 => ?_)
    · replace h := h.1 c16
      refine x_aload_n (pc' := 26) K dX7_ahead_25 0 rfl rfl ?_
      refine x_callV (pc' := 29) K (mX7_layDown l D cI cO a) rfl gX7_ahead_X7_layDown rfl dsX7_layDown ⟨rfl, rfl, ⟨Nat.le_of_ble_eq_true rfl, Nat.le_of_ble_eq_true rfl⟩, Nat.le_of_ble_eq_true rfl, Nat.le_of_ble_eq_true rfl⟩ h 7 0 rfl rfl (st := []) rfl rfl (Nat.le_of_ble_eq_true rfl) dX7_ahead_26 rfl (fun F26 G26 h => ?_)
      refine x_aload_n (pc' := 30) K dX7_ahead_29 0 rfl rfl ?_
      refine x_iload_n (pc' := 31) K dX7_ahead_30 1 rfl rfl ?_
      refine x_callI (pc' := 34) K (mX7_go l D cI cO a _) rfl gX7_ahead_X7_go rfl dsX7_go ⟨rfl, rfl, ⟨Nat.le_of_ble_eq_true rfl, Nat.le_of_ble_eq_true rfl⟩, Nat.le_of_ble_eq_true rfl, Nat.le_of_ble_eq_true rfl⟩ h 7 0 rfl rfl (st := []) rfl rfl (Nat.le_of_ble_eq_true rfl) dX7_ahead_31 rfl (fun r31 F31 G31 h => ?_)
      refine x_istore_n (pc' := 35) (i := 3) K dX7_ahead_34 rfl (by decide) [1, 2, 3, 0] (L' := [(0, .ref (a 0)), (1, .int _), (2, .int _), (3, .int _)]) rfl rfl ?_
      refine x_iload_n (pc' := 36) K dX7_ahead_35 2 rfl rfl ?_
      refine x_iconst (pc' := 37) (v := 2) K dX7_ahead_36 (by decide) rfl ?_
      refine x_icmp_ge (tgt := 51) (pc' := 40) K dX7_ahead_37 rfl rfl (fun c37 => ?_) (fun c37 => ?_)
      · replace h := h.1 c37
        refine x_iload_n (pc' := 52) K dX7_ahead_51 2 rfl rfl ?_
        refine x_iconst (pc' := 53) (v := 2) K dX7_ahead_52 (by decide) rfl ?_
        refine x_icmp_ne (tgt := 63) (pc' := 56) K dX7_ahead_53 rfl rfl (fun c53 => ?_) (fun c53 => ?_)
        · replace h := h.1 c53
          refine x_aload_n (pc' := 64) K dX7_ahead_63 0 rfl rfl ?_
          refine x_callI (pc' := 67) K (mX7_map l D cI cO a) rfl gX7_ahead_X7_map rfl dsX7_map ⟨rfl, rfl, ⟨Nat.le_of_ble_eq_true rfl, Nat.le_of_ble_eq_true rfl⟩, Nat.le_of_ble_eq_true rfl, Nat.le_of_ble_eq_true rfl⟩ h 7 0 rfl rfl (st := []) rfl rfl (Nat.le_of_ble_eq_true rfl) dX7_ahead_64 rfl (fun r64 F64 G64 h => ?_)
          refine x_istore (pc' := 69) (i := 4) K dX7_ahead_67 (by decide) [1, 2, 3, 4, 0] (L' := [(0, .ref (a 0)), (1, .int _), (2, .int _), (3, .int _), (4, .int _)]) rfl rfl ?_
          refine x_aload_n (pc' := 70) K dX7_ahead_69 0 rfl rfl ?_
          refine x_callV (pc' := 73) K (mX7_layBack l D cI cO a) rfl gX7_ahead_X7_layBack rfl dsX7_layBack ⟨rfl, rfl, ⟨Nat.le_of_ble_eq_true rfl, Nat.le_of_ble_eq_true rfl⟩, Nat.le_of_ble_eq_true rfl, Nat.le_of_ble_eq_true rfl⟩ h 7 0 rfl rfl (st := []) rfl rfl (Nat.le_of_ble_eq_true rfl) dX7_ahead_70 rfl (fun F70 G70 h => ?_)
          refine x_iload (pc' := 75) K dX7_ahead_73 4 rfl rfl ?_
          exact x_iret (wf := w7 cI a) K h dX7_ahead_75
        · replace h := h.2 c53
          refine x_aload_n (pc' := 57) K dX7_ahead_56 0 rfl rfl ?_
          refine x_callI (pc' := 60) K (mX7_allUnder l D cI cO a) rfl gX7_ahead_X7_allUnder rfl dsX7_allUnder ⟨rfl, rfl, ⟨Nat.le_of_ble_eq_true rfl, Nat.le_of_ble_eq_true rfl⟩, Nat.le_of_ble_eq_true rfl, Nat.le_of_ble_eq_true rfl⟩ h 7 0 rfl rfl (st := []) rfl rfl (Nat.le_of_ble_eq_true rfl) dX7_ahead_57 rfl (fun r57 F57 G57 h => ?_)
          refine x_goto (tgt := 67) K dX7_ahead_60 rfl ?_
          refine x_istore (pc' := 69) (i := 4) K dX7_ahead_67 (by decide) [1, 2, 3, 4, 0] (L' := [(0, .ref (a 0)), (1, .int _), (2, .int _), (3, .int _), (4, .int _)]) rfl rfl ?_
          refine x_aload_n (pc' := 70) K dX7_ahead_69 0 rfl rfl ?_
          refine x_callV (pc' := 73) K (mX7_layBack l D cI cO a) rfl gX7_ahead_X7_layBack rfl dsX7_layBack ⟨rfl, rfl, ⟨Nat.le_of_ble_eq_true rfl, Nat.le_of_ble_eq_true rfl⟩, Nat.le_of_ble_eq_true rfl, Nat.le_of_ble_eq_true rfl⟩ h 7 0 rfl rfl (st := []) rfl rfl (Nat.le_of_ble_eq_true rfl) dX7_ahead_70 rfl (fun F70 G70 h => ?_)
          refine x_iload (pc' := 75) K dX7_ahead_73 4 rfl rfl ?_
          exact x_iret (wf := w7 cI a) K h dX7_ahead_75
      · replace h := h.2 c37
        refine x_aload_n (pc' := 41) K dX7_ahead_40 0 rfl rfl ?_
        refine xw7_0g_s (pc' := 44) K hinX7_ahead_X7 uX7_ahead_f7 dX7_ahead_41 rfl ?_
        refine x_iconst (pc' := 45) (v := 2) K dX7_ahead_44 (by decide) rfl ?_
        refine x_iload_n (pc' := 46) K dX7_ahead_45 2 rfl rfl ?_
        refine x_iadd (pc' := 47) K dX7_ahead_46 rfl ?_
        obtain ⟨i47, h⟩ := h
        refine xw7_1l (pc' := 48) K i47 rfl dX7_ahead_47 rfl ?_
        refine x_goto (tgt := 67) K dX7_ahead_48 rfl ?_
        refine x_istore (pc' := 69) (i := 4) K dX7_ahead_67 (by decide) [1, 2, 3, 4, 0] (L' := [(0, .ref (a 0)), (1, .int _), (2, .int _), (3, .int _), (4, .int _)]) rfl rfl ?_
        refine x_aload_n (pc' := 70) K dX7_ahead_69 0 rfl rfl ?_
        refine x_callV (pc' := 73) K (mX7_layBack l D cI cO a) rfl gX7_ahead_X7_layBack rfl dsX7_layBack ⟨rfl, rfl, ⟨Nat.le_of_ble_eq_true rfl, Nat.le_of_ble_eq_true rfl⟩, Nat.le_of_ble_eq_true rfl, Nat.le_of_ble_eq_true rfl⟩ h 7 0 rfl rfl (st := []) rfl rfl (Nat.le_of_ble_eq_true rfl) dX7_ahead_70 rfl (fun F70 G70 h => ?_)
        refine x_iload (pc' := 75) K dX7_ahead_73 4 rfl rfl ?_
        exact x_iret (wf := w7 cI a) K h dX7_ahead_75
    · replace h := h.2 c16
      refine x_aload_n (pc' := 20) K dX7_ahead_19 0 rfl rfl ?_
      refine x_iconst (pc' := 21) (v := 1) K dX7_ahead_20 (by decide) rfl ?_
      refine x_callI (pc' := 24) K (mX7_error l D cI cO a _) rfl gX7_ahead_X7_error rfl dsX7_error ⟨rfl, rfl, ⟨Nat.le_of_ble_eq_true rfl, Nat.le_of_ble_eq_true rfl⟩, Nat.le_of_ble_eq_true rfl, Nat.le_of_ble_eq_true rfl⟩ h 7 0 rfl rfl (st := []) rfl rfl (Nat.le_of_ble_eq_true rfl) dX7_ahead_21 rfl (fun r21 F21 G21 h => ?_)
      exact x_iret (wf := w7 cI a) K h dX7_ahead_24
/-! X7_bestLeash -/
abbrev rmX7_bestLeash : Room := { frames := 7, cells := 0, slots := 0, locals := 180 }
theorem dsX7_bestLeash : xDesc yX7_bestLeash 1 := by decide +kernel
set_option maxHeartbeats 4000000 in
set_option maxRecDepth 100000 in
theorem tX7_bestLeash_47 (K : XK p m c cX7_bestLeash 8 s args wsX7_bestLeash RX7 D (xtys cI cO) A meth (some .int)) {Q : Int32 → xF → xA → Prop} {k32 : Int32 → Int32 → Int32 → Int32 → Int32 → xF → xA → Prop} (hk32 : ∀ (x1 : Int32) (x2 : Int32) (x3 : Int32) (x4 : Int32) (x5 : Int32) (F : xF) (G : xA), k32 x1 x2 x3 x4 x5 F G → XJ p l e rmX7_bestLeash s m args below meth c 0 0 (MQ below (xQi D (w7 cI a) A Q) args s 0 0 A) D (xtys cI cO) A 8 (w7 cI a F G) 32 [(0, .ref (a 0)), (1, .int x1), (2, .int x2), (3, .int x3), (4, .int x4), (5, .int x5)] []) : ∀ (n : Nat), ∀ (x1 : Int32) (x2 : Int32) (x3 : Int32) (x4 : Int32) (x5 : Int32) (x6 : Int32) (x7 : Int32) (F : xF) (G : xA), qX7_bestLeash_47 Q k32 n x1 x2 x3 x4 x5 x6 x7 F G → XJ p l e rmX7_bestLeash s m args below meth c 0 0 (MQ below (xQi D (w7 cI a) A Q) args s 0 0 A) D (xtys cI cO) A 8 (w7 cI a F G) 47 [(0, .ref (a 0)), (1, .int x1), (2, .int x2), (3, .int x3), (4, .int x4), (5, .int x5), (6, .int x6), (7, .int x7)] [] := by
  intro n
  induction n with
  | zero =>
    intro x1 x2 x3 x4 x5 x6 x7 F G h
    exact False.elim h
  | succ n ih =>
    intro x1 x2 x3 x4 x5 x6 x7 F G h
    refine x_iload (pc' := 49) K dX7_bestLeash_47 7 rfl rfl ?_
    refine x_if_lt (tgt := 77) (pc' := 52) K dX7_bestLeash_49 rfl rfl (fun c49 => ?_) (fun c49 => ?_)
    · replace h := h.1 c49
      refine x_aload_n (pc' := 78) K dX7_bestLeash_77 0 rfl rfl ?_
      refine x_iload_n (pc' := 79) K dX7_bestLeash_78 2 rfl rfl ?_
      refine x_callI (pc' := 82) K (mX7_digs l D cI cO a _) rfl gX7_bestLeash_X7_digs rfl dsX7_digs ⟨rfl, rfl, ⟨Nat.le_of_ble_eq_true rfl, Nat.le_of_ble_eq_true rfl⟩, Nat.le_of_ble_eq_true rfl, Nat.le_of_ble_eq_true rfl⟩ h 7 0 rfl rfl (st := []) rfl rfl (Nat.le_of_ble_eq_true rfl) dX7_bestLeash_79 rfl (fun r79 F79 G79 h => ?_)
      refine x_istore (pc' := 84) (i := 7) K dX7_bestLeash_82 (by decide) [1, 2, 3, 4, 5, 6, 7, 0] (L' := [(0, .ref (a 0)), (1, .int _), (2, .int _), (3, .int _), (4, .int _), (5, .int _), (6, .int _), (7, .int _)]) rfl rfl ?_
      refine x_aload_n (pc' := 85) K dX7_bestLeash_84 0 rfl rfl ?_
      refine x_callV (pc' := 88) K (mX7_layBack l D cI cO a) rfl gX7_bestLeash_X7_layBack rfl dsX7_layBack ⟨rfl, rfl, ⟨Nat.le_of_ble_eq_true rfl, Nat.le_of_ble_eq_true rfl⟩, Nat.le_of_ble_eq_true rfl, Nat.le_of_ble_eq_true rfl⟩ h 7 0 rfl rfl (st := []) rfl rfl (Nat.le_of_ble_eq_true rfl) dX7_bestLeash_85 rfl (fun F85 G85 h => ?_)
      refine x_iload_n (pc' := 89) K dX7_bestLeash_88 3 rfl rfl ?_
      refine x_iconst (pc' := 90) (v := -1) K dX7_bestLeash_89 (by decide) rfl ?_
      refine x_icmp_eq (tgt := 100) (pc' := 93) K dX7_bestLeash_90 rfl rfl (fun c90 => ?_) (fun c90 => ?_)
      · replace h := h.1 c90
        refine x_iload (pc' := 102) K dX7_bestLeash_100 5 rfl rfl ?_
        refine x_istore_n (pc' := 103) (i := 3) K dX7_bestLeash_102 rfl (by decide) [1, 2, 3, 0, 4, 5, 6, 7] (L' := [(0, .ref (a 0)), (1, .int _), (2, .int _), (3, .int _), (4, .int _), (5, .int _), (6, .int _), (7, .int _)]) rfl rfl ?_
        refine x_iload (pc' := 105) K dX7_bestLeash_103 7 rfl rfl ?_
        refine x_istore (pc' := 107) (i := 4) K dX7_bestLeash_105 (by decide) [1, 2, 3, 4, 0, 5, 6, 7] (L' := [(0, .ref (a 0)), (1, .int _), (2, .int _), (3, .int _), (4, .int _), (5, .int _), (6, .int _), (7, .int _)]) rfl rfl ?_
        refine x_iinc (pc' := 110) (v := _ + (1 : Int32)) K dX7_bestLeash_107 5 rfl rfl (by decide) [1, 2, 3, 4, 5, 0, 6, 7] (L' := [(0, .ref (a 0)), (1, .int _), (2, .int _), (3, .int _), (4, .int _), (5, .int _), (6, .int _), (7, .int _)]) rfl rfl ?_
        refine x_goto (tgt := 32) K dX7_bestLeash_110 rfl ?_
        refine x_locals [0, 1, 2, 3, 4, 5] (L' := [(0, .ref (a 0)), (1, .int _), (2, .int _), (3, .int _), (4, .int _), (5, .int _)]) rfl ?_
        exact hk32 _ _ _ _ _ _ _ h
      · replace h := h.2 c90
        refine x_iload (pc' := 95) K dX7_bestLeash_93 7 rfl rfl ?_
        refine x_iload (pc' := 97) K dX7_bestLeash_95 4 rfl rfl ?_
        refine x_icmp_le (tgt := 107) (pc' := 100) K dX7_bestLeash_97 rfl rfl (fun c97 => ?_) (fun c97 => ?_)
        · replace h := h.1 c97
          refine x_iinc (pc' := 110) (v := _ + (1 : Int32)) K dX7_bestLeash_107 5 rfl rfl (by decide) [1, 2, 3, 4, 5, 0, 6, 7] (L' := [(0, .ref (a 0)), (1, .int _), (2, .int _), (3, .int _), (4, .int _), (5, .int _), (6, .int _), (7, .int _)]) rfl rfl ?_
          refine x_goto (tgt := 32) K dX7_bestLeash_110 rfl ?_
          refine x_locals [0, 1, 2, 3, 4, 5] (L' := [(0, .ref (a 0)), (1, .int _), (2, .int _), (3, .int _), (4, .int _), (5, .int _)]) rfl ?_
          exact hk32 _ _ _ _ _ _ _ h
        · replace h := h.2 c97
          refine x_iload (pc' := 102) K dX7_bestLeash_100 5 rfl rfl ?_
          refine x_istore_n (pc' := 103) (i := 3) K dX7_bestLeash_102 rfl (by decide) [1, 2, 3, 0, 4, 5, 6, 7] (L' := [(0, .ref (a 0)), (1, .int _), (2, .int _), (3, .int _), (4, .int _), (5, .int _), (6, .int _), (7, .int _)]) rfl rfl ?_
          refine x_iload (pc' := 105) K dX7_bestLeash_103 7 rfl rfl ?_
          refine x_istore (pc' := 107) (i := 4) K dX7_bestLeash_105 (by decide) [1, 2, 3, 4, 0, 5, 6, 7] (L' := [(0, .ref (a 0)), (1, .int _), (2, .int _), (3, .int _), (4, .int _), (5, .int _), (6, .int _), (7, .int _)]) rfl rfl ?_
          refine x_iinc (pc' := 110) (v := _ + (1 : Int32)) K dX7_bestLeash_107 5 rfl rfl (by decide) [1, 2, 3, 4, 5, 0, 6, 7] (L' := [(0, .ref (a 0)), (1, .int _), (2, .int _), (3, .int _), (4, .int _), (5, .int _), (6, .int _), (7, .int _)]) rfl rfl ?_
          refine x_goto (tgt := 32) K dX7_bestLeash_110 rfl ?_
          refine x_locals [0, 1, 2, 3, 4, 5] (L' := [(0, .ref (a 0)), (1, .int _), (2, .int _), (3, .int _), (4, .int _), (5, .int _)]) rfl ?_
          exact hk32 _ _ _ _ _ _ _ h
    · replace h := h.2 c49
      refine x_aload_n (pc' := 53) K dX7_bestLeash_52 0 rfl rfl ?_
      refine x_iload_n (pc' := 54) K dX7_bestLeash_53 2 rfl rfl ?_
      refine x_iconst (pc' := 55) (v := 5) K dX7_bestLeash_54 (by decide) rfl ?_
      refine x_iload (pc' := 57) K dX7_bestLeash_55 7 rfl rfl ?_
      refine x_iadd (pc' := 58) K dX7_bestLeash_57 rfl ?_
      refine x_iload (pc' := 60) K dX7_bestLeash_58 6 rfl rfl ?_
      refine x_iconst (pc' := 61) (v := 5) K dX7_bestLeash_60 (by decide) rfl ?_
      refine x_irem (pc' := 62) K dX7_bestLeash_61 (by decide) rfl ?_
      refine x_callV (pc' := 65) K (mX7_lays1 l D cI cO a _ _ _) rfl gX7_bestLeash_X7_lays1 rfl dsX7_lays1 ⟨rfl, rfl, ⟨Nat.le_of_ble_eq_true rfl, Nat.le_of_ble_eq_true rfl⟩, Nat.le_of_ble_eq_true rfl, Nat.le_of_ble_eq_true rfl⟩ h 7 0 rfl rfl (st := []) rfl rfl (Nat.le_of_ble_eq_true rfl) dX7_bestLeash_62 rfl (fun F62 G62 h => ?_)
      refine x_iload (pc' := 67) K dX7_bestLeash_65 6 rfl rfl ?_
      refine x_iconst (pc' := 68) (v := 5) K dX7_bestLeash_67 (by decide) rfl ?_
      refine x_idiv (pc' := 69) K dX7_bestLeash_68 (by decide) rfl ?_
      refine x_istore (pc' := 71) (i := 6) K dX7_bestLeash_69 (by decide) [1, 2, 3, 4, 5, 6, 0, 7] (L' := [(0, .ref (a 0)), (1, .int _), (2, .int _), (3, .int _), (4, .int _), (5, .int _), (6, .int _), (7, .int _)]) rfl rfl ?_
      refine x_iinc (pc' := 74) (v := _ + (-1 : Int32)) K dX7_bestLeash_71 7 rfl rfl (by decide) [1, 2, 3, 4, 5, 6, 7, 0] (L' := [(0, .ref (a 0)), (1, .int _), (2, .int _), (3, .int _), (4, .int _), (5, .int _), (6, .int _), (7, .int _)]) rfl rfl ?_
      refine x_goto (tgt := 47) K dX7_bestLeash_74 rfl ?_
      exact ih _ _ _ _ _ _ _ _ _ h
set_option maxHeartbeats 4000000 in
set_option maxRecDepth 100000 in
theorem tX7_bestLeash_32 (K : XK p m c cX7_bestLeash 8 s args wsX7_bestLeash RX7 D (xtys cI cO) A meth (some .int)) {Q : Int32 → xF → xA → Prop} : ∀ (n : Nat), ∀ (x1 : Int32) (x2 : Int32) (x3 : Int32) (x4 : Int32) (x5 : Int32) (F : xF) (G : xA), qX7_bestLeash_32 Q n x1 x2 x3 x4 x5 F G → XJ p l e rmX7_bestLeash s m args below meth c 0 0 (MQ below (xQi D (w7 cI a) A Q) args s 0 0 A) D (xtys cI cO) A 8 (w7 cI a F G) 32 [(0, .ref (a 0)), (1, .int x1), (2, .int x2), (3, .int x3), (4, .int x4), (5, .int x5)] [] := by
  intro n
  induction n with
  | zero =>
    intro x1 x2 x3 x4 x5 F G h
    exact False.elim h
  | succ n ih =>
    intro x1 x2 x3 x4 x5 F G h
    refine x_iload (pc' := 34) K dX7_bestLeash_32 5 rfl rfl ?_
    refine x_sipush (pc' := 37) (v := 625) K dX7_bestLeash_34 (by decide) rfl ?_
    refine x_icmp_ge (tgt := 113) (pc' := 40) K dX7_bestLeash_37 rfl rfl (fun c37 => ?_) (fun c37 => ?_)
    · replace h := h.1 c37
      refine x_iload_n (pc' := 114) K dX7_bestLeash_113 1 rfl rfl ?_
      refine x_if_ne (tgt := 122) (pc' := 117) K dX7_bestLeash_114 rfl rfl (fun c114 => ?_) (fun c114 => ?_)
      · replace h := h.1 c114
        refine x_iload_n (pc' := 123) K dX7_bestLeash_122 1 rfl rfl ?_
        refine x_iconst (pc' := 124) (v := 1) K dX7_bestLeash_123 (by decide) rfl ?_
        refine x_icmp_ne (tgt := 134) (pc' := 127) K dX7_bestLeash_124 rfl rfl (fun c124 => ?_) (fun c124 => ?_)
        · replace h := h.1 c124
          refine x_iload_n (pc' := 135) K dX7_bestLeash_134 1 rfl rfl ?_
          refine x_iconst (pc' := 136) (v := 2) K dX7_bestLeash_135 (by decide) rfl ?_
          refine x_icmp_ne (tgt := 148) (pc' := 139) K dX7_bestLeash_136 rfl rfl (fun c136 => ?_) (fun c136 => ?_)
          · replace h := h.1 c136
            refine x_iload_n (pc' := 149) K dX7_bestLeash_148 1 rfl rfl ?_
            refine x_iconst (pc' := 150) (v := 3) K dX7_bestLeash_149 (by decide) rfl ?_
            refine x_icmp_ne (tgt := 161) (pc' := 153) K dX7_bestLeash_150 rfl rfl (fun c150 => ?_) (fun c150 => ?_)
            · replace h := h.1 c150
              refine x_iload_n (pc' := 162) K dX7_bestLeash_161 3 rfl rfl ?_
              refine x_iconst (pc' := 163) (v := 5) K dX7_bestLeash_162 (by decide) rfl ?_
              refine x_irem (pc' := 164) K dX7_bestLeash_163 (by decide) rfl ?_
              exact x_iret (wf := w7 cI a) K h dX7_bestLeash_164
            · replace h := h.2 c150
              refine x_iload_n (pc' := 154) K dX7_bestLeash_153 3 rfl rfl ?_
              refine x_iconst (pc' := 155) (v := 5) K dX7_bestLeash_154 (by decide) rfl ?_
              refine x_idiv (pc' := 156) K dX7_bestLeash_155 (by decide) rfl ?_
              refine x_iconst (pc' := 157) (v := 5) K dX7_bestLeash_156 (by decide) rfl ?_
              refine x_irem (pc' := 158) K dX7_bestLeash_157 (by decide) rfl ?_
              refine x_goto (tgt := 164) K dX7_bestLeash_158 rfl ?_
              exact x_iret (wf := w7 cI a) K h dX7_bestLeash_164
          · replace h := h.2 c136
            refine x_iload_n (pc' := 140) K dX7_bestLeash_139 3 rfl rfl ?_
            refine x_bipush (pc' := 142) (v := 25) K dX7_bestLeash_140 (by decide) rfl ?_
            refine x_idiv (pc' := 143) K dX7_bestLeash_142 (by decide) rfl ?_
            refine x_iconst (pc' := 144) (v := 5) K dX7_bestLeash_143 (by decide) rfl ?_
            refine x_irem (pc' := 145) K dX7_bestLeash_144 (by decide) rfl ?_
            refine x_goto (tgt := 164) K dX7_bestLeash_145 rfl ?_
            exact x_iret (wf := w7 cI a) K h dX7_bestLeash_164
        · replace h := h.2 c124
          refine x_iload_n (pc' := 128) K dX7_bestLeash_127 3 rfl rfl ?_
          refine x_bipush (pc' := 130) (v := 125) K dX7_bestLeash_128 (by decide) rfl ?_
          refine x_idiv (pc' := 131) K dX7_bestLeash_130 (by decide) rfl ?_
          refine x_goto (tgt := 164) K dX7_bestLeash_131 rfl ?_
          exact x_iret (wf := w7 cI a) K h dX7_bestLeash_164
      · replace h := h.2 c114
        refine x_iload (pc' := 119) K dX7_bestLeash_117 4 rfl rfl ?_
        refine x_goto (tgt := 164) K dX7_bestLeash_119 rfl ?_
        exact x_iret (wf := w7 cI a) K h dX7_bestLeash_164
    · replace h := h.2 c37
      refine x_iload (pc' := 42) K dX7_bestLeash_40 5 rfl rfl ?_
      refine x_istore (pc' := 44) (i := 6) K dX7_bestLeash_42 (by decide) [1, 2, 3, 4, 5, 6, 0] (L' := [(0, .ref (a 0)), (1, .int _), (2, .int _), (3, .int _), (4, .int _), (5, .int _), (6, .int _)]) rfl rfl ?_
      refine x_iconst (pc' := 45) (v := 3) K dX7_bestLeash_44 (by decide) rfl ?_
      refine x_istore (pc' := 47) (i := 7) K dX7_bestLeash_45 (by decide) [1, 2, 3, 4, 5, 6, 7, 0] (L' := [(0, .ref (a 0)), (1, .int _), (2, .int _), (3, .int _), (4, .int _), (5, .int _), (6, .int _), (7, .int _)]) rfl rfl ?_
      obtain ⟨n47, h⟩ := h
      exact tX7_bestLeash_47 K (fun x1 x2 x3 x4 x5 F G h => ih x1 x2 x3 x4 x5 F G h) n47 _ _ _ _ _ _ _ _ _ h
set_option maxHeartbeats 4000000 in
set_option maxRecDepth 100000 in
theorem mX7_bestLeash (l : Launch) (D : va_G) (cI cO : ClassId) (a : Nat → Nat)  (x1 : Int32) : MI l yX7_bestLeash wsX7_bestLeash rmX7_bestLeash D (xtys cI cO) [.ref (a 0), .int x1] (w7 cI a) (qX7_bestLeash x1) := by
  refine MI_of (cc := cX7_bestLeash) (maxL := 8) (own := RX7) (by decide) rfl rfl (Nat.le_of_ble_eq_true rfl) ?_
  intro p e s m args below meth c A F G Q h K
  refine x_locals [0, 1] (L' := [(0, .ref (a 0)), (1, .int _)]) rfl ?_
  refine x_iload_n (pc' := 1) K dX7_bestLeash_0 1 rfl rfl ?_
  refine x_iconst (pc' := 2) (v := 0) K dX7_bestLeash_1 (by decide) rfl ?_
  refine x_iconst (pc' := 3) (v := 4) K dX7_bestLeash_2 (by decide) rfl ?_
  refine x_callS (pc' := 6) K (mX7_in l D cI cO a _ _ _) rfl gX7_bestLeash_X7_in dsX7_in ⟨rfl, rfl, ⟨Nat.le_of_ble_eq_true rfl, Nat.le_of_ble_eq_true rfl⟩, Nat.le_of_ble_eq_true rfl, Nat.le_of_ble_eq_true rfl⟩ h (st := []) rfl rfl (Nat.le_of_ble_eq_true rfl) dX7_bestLeash_3 rfl (fun r3 h => ?_)
  refine x_if_ne (tgt := 15) (pc' := 9) K dX7_bestLeash_6 rfl rfl (fun c6 => ?_) (fun c6 => ?_)
  · replace h := h.1 c6
    refine x_aload_n (pc' := 16) K dX7_bestLeash_15 0 rfl rfl ?_
    refine x_callI (pc' := 19) K (mX7_whoHas l D cI cO a) rfl gX7_bestLeash_X7_whoHas rfl dsX7_whoHas ⟨rfl, rfl, ⟨Nat.le_of_ble_eq_true rfl, Nat.le_of_ble_eq_true rfl⟩, Nat.le_of_ble_eq_true rfl, Nat.le_of_ble_eq_true rfl⟩ h 7 0 rfl rfl (st := []) rfl rfl (Nat.le_of_ble_eq_true rfl) dX7_bestLeash_16 rfl (fun r16 F16 G16 h => ?_)
    refine x_istore_n (pc' := 20) (i := 2) K dX7_bestLeash_19 rfl (by decide) [1, 2, 0] (L' := [(0, .ref (a 0)), (1, .int _), (2, .int _)]) rfl rfl ?_
    refine x_iconst (pc' := 21) (v := -1) K dX7_bestLeash_20 (by decide) rfl ?_
    refine x_istore_n (pc' := 22) (i := 3) K dX7_bestLeash_21 rfl (by decide) [1, 2, 3, 0] (L' := [(0, .ref (a 0)), (1, .int _), (2, .int _), (3, .int _)]) rfl rfl ?_
    refine x_iconst (pc' := 23) (v := 0) K dX7_bestLeash_22 (by decide) rfl ?_
    refine x_istore (pc' := 25) (i := 4) K dX7_bestLeash_23 (by decide) [1, 2, 3, 4, 0] (L' := [(0, .ref (a 0)), (1, .int _), (2, .int _), (3, .int _), (4, .int _)]) rfl rfl ?_
    refine x_aload_n (pc' := 26) K dX7_bestLeash_25 0 rfl rfl ?_
    refine x_callV (pc' := 29) K (mX7_layDown l D cI cO a) rfl gX7_bestLeash_X7_layDown rfl dsX7_layDown ⟨rfl, rfl, ⟨Nat.le_of_ble_eq_true rfl, Nat.le_of_ble_eq_true rfl⟩, Nat.le_of_ble_eq_true rfl, Nat.le_of_ble_eq_true rfl⟩ h 7 0 rfl rfl (st := []) rfl rfl (Nat.le_of_ble_eq_true rfl) dX7_bestLeash_26 rfl (fun F26 G26 h => ?_)
    refine x_iconst (pc' := 30) (v := 0) K dX7_bestLeash_29 (by decide) rfl ?_
    refine x_istore (pc' := 32) (i := 5) K dX7_bestLeash_30 (by decide) [1, 2, 3, 4, 5, 0] (L' := [(0, .ref (a 0)), (1, .int _), (2, .int _), (3, .int _), (4, .int _), (5, .int _)]) rfl rfl ?_
    obtain ⟨n32, h⟩ := h
    exact tX7_bestLeash_32 K n32 _ _ _ _ _ _ _ h
  · replace h := h.2 c6
    refine x_aload_n (pc' := 10) K dX7_bestLeash_9 0 rfl rfl ?_
    refine x_iconst (pc' := 11) (v := 1) K dX7_bestLeash_10 (by decide) rfl ?_
    refine x_callI (pc' := 14) K (mX7_error l D cI cO a _) rfl gX7_bestLeash_X7_error rfl dsX7_error ⟨rfl, rfl, ⟨Nat.le_of_ble_eq_true rfl, Nat.le_of_ble_eq_true rfl⟩, Nat.le_of_ble_eq_true rfl, Nat.le_of_ble_eq_true rfl⟩ h 7 0 rfl rfl (st := []) rfl rfl (Nat.le_of_ble_eq_true rfl) dX7_bestLeash_11 rfl (fun r11 F11 G11 h => ?_)
    exact x_iret (wf := w7 cI a) K h dX7_bestLeash_14
/-! X7_bestFeed -/
abbrev rmX7_bestFeed : Room := { frames := 9, cells := 0, slots := 0, locals := 228 }
theorem dsX7_bestFeed : xDesc yX7_bestFeed 1 := by decide +kernel
theorem uX7_bestFeed_f34 : Cond.fieldLink RX7 34 "PigNinthsModel" "fedToday" "I" ∈ wsX7_bestFeed := nw_in nwl_X7_bestFeed nwe_523 (by decide +kernel)
theorem hinX7_bestFeed_X7 : ∀ w ∈ wsX70, w ∈ wsX7_bestFeed := nw_all nwl_X7_bestFeed nwl_X70 (by decide +kernel)
set_option maxHeartbeats 4000000 in
set_option maxRecDepth 100000 in
theorem tX7_bestFeed_111 (K : XK p m c cX7_bestFeed 10 s args wsX7_bestFeed RX7 D (xtys cI cO) A meth (some .int)) {Q : Int32 → xF → xA → Prop} {k38 : Int32 → Int32 → Int32 → Int32 → Int32 → Int32 → Int32 → xF → xA → Prop} (hk38 : ∀ (x1 : Int32) (x2 : Int32) (x3 : Int32) (x4 : Int32) (x5 : Int32) (x6 : Int32) (x7 : Int32) (F : xF) (G : xA), k38 x1 x2 x3 x4 x5 x6 x7 F G → XJ p l e rmX7_bestFeed s m args below meth c 0 0 (MQ below (xQi D (w7 cI a) A Q) args s 0 0 A) D (xtys cI cO) A 10 (w7 cI a F G) 38 [(0, .ref (a 0)), (1, .int x1), (2, .int x2), (3, .int x3), (4, .int x4), (5, .int x5), (6, .int x6), (7, .int x7)] []) : ∀ (x1 : Int32) (x2 : Int32) (x3 : Int32) (x4 : Int32) (x5 : Int32) (x6 : Int32) (x7 : Int32) (x9 : Int32) (F : xF) (G : xA), qX7_bestFeed_111 Q k38 x1 x2 x3 x4 x5 x6 x7 x9 F G → XJ p l e rmX7_bestFeed s m args below meth c 0 0 (MQ below (xQi D (w7 cI a) A Q) args s 0 0 A) D (xtys cI cO) A 10 (w7 cI a F G) 111 [(0, .ref (a 0)), (1, .int x1), (2, .int x2), (3, .int x3), (4, .int x4), (5, .int x5), (6, .int x6), (7, .int x7), (9, .int x9)] [] := by
  intro x1 x2 x3 x4 x5 x6 x7 x9 F G h
  refine x_iload (pc' := 113) K dX7_bestFeed_111 7 rfl rfl ?_
  refine x_if_eq (tgt := 123) (pc' := 116) K dX7_bestFeed_113 rfl rfl (fun c113 => ?_) (fun c113 => ?_)
  · replace h := h.1 c113
    refine x_iload (pc' := 125) K dX7_bestFeed_123 8 rfl rfl ?_
    refine x_goto (tgt := 130) K dX7_bestFeed_125 rfl ?_
    refine x_istore (pc' := 132) (i := 6) K dX7_bestFeed_130 (by decide) [1, 2, 3, 4, 5, 6, 0, 7, 8] (L' := [(0, .ref (a 0)), (1, .int _), (2, .int _), (3, .int _), (4, .int _), (5, .int _), (6, .int _), (7, .int _), (9, .int _)]) rfl rfl ?_
    refine x_aload_n (pc' := 133) K dX7_bestFeed_132 0 rfl rfl ?_
    refine x_callV (pc' := 136) K (mX7_layBack l D cI cO a) rfl gX7_bestFeed_X7_layBack rfl dsX7_layBack ⟨rfl, rfl, ⟨Nat.le_of_ble_eq_true rfl, Nat.le_of_ble_eq_true rfl⟩, Nat.le_of_ble_eq_true rfl, Nat.le_of_ble_eq_true rfl⟩ h 7 0 rfl rfl (st := []) rfl rfl (Nat.le_of_ble_eq_true rfl) dX7_bestFeed_133 rfl (fun F133 G133 h => ?_)
    refine x_iinc (pc' := 139) (v := _ + (1 : Int32)) K dX7_bestFeed_136 7 rfl rfl (by decide) [1, 2, 3, 4, 5, 6, 7, 0, 8] (L' := [(0, .ref (a 0)), (1, .int _), (2, .int _), (3, .int _), (4, .int _), (5, .int _), (6, .int _), (7, .int _), (9, .int _)]) rfl rfl ?_
    refine x_goto (tgt := 38) K dX7_bestFeed_139 rfl ?_
    refine x_locals [0, 1, 2, 3, 4, 5, 6, 7] (L' := [(0, .ref (a 0)), (1, .int _), (2, .int _), (3, .int _), (4, .int _), (5, .int _), (6, .int _), (7, .int _)]) rfl ?_
    exact hk38 _ _ _ _ _ _ _ _ _ h
  · replace h := h.2 c113
    refine x_iload (pc' := 118) K dX7_bestFeed_116 8 rfl rfl ?_
    refine x_iload (pc' := 120) K dX7_bestFeed_118 6 rfl rfl ?_
    refine x_icmp_le (tgt := 128) (pc' := 123) K dX7_bestFeed_120 rfl rfl (fun c120 => ?_) (fun c120 => ?_)
    · replace h := h.1 c120
      refine x_iload (pc' := 130) K dX7_bestFeed_128 6 rfl rfl ?_
      refine x_istore (pc' := 132) (i := 6) K dX7_bestFeed_130 (by decide) [1, 2, 3, 4, 5, 6, 0, 7, 8] (L' := [(0, .ref (a 0)), (1, .int _), (2, .int _), (3, .int _), (4, .int _), (5, .int _), (6, .int _), (7, .int _), (9, .int _)]) rfl rfl ?_
      refine x_aload_n (pc' := 133) K dX7_bestFeed_132 0 rfl rfl ?_
      refine x_callV (pc' := 136) K (mX7_layBack l D cI cO a) rfl gX7_bestFeed_X7_layBack rfl dsX7_layBack ⟨rfl, rfl, ⟨Nat.le_of_ble_eq_true rfl, Nat.le_of_ble_eq_true rfl⟩, Nat.le_of_ble_eq_true rfl, Nat.le_of_ble_eq_true rfl⟩ h 7 0 rfl rfl (st := []) rfl rfl (Nat.le_of_ble_eq_true rfl) dX7_bestFeed_133 rfl (fun F133 G133 h => ?_)
      refine x_iinc (pc' := 139) (v := _ + (1 : Int32)) K dX7_bestFeed_136 7 rfl rfl (by decide) [1, 2, 3, 4, 5, 6, 7, 0, 8] (L' := [(0, .ref (a 0)), (1, .int _), (2, .int _), (3, .int _), (4, .int _), (5, .int _), (6, .int _), (7, .int _), (9, .int _)]) rfl rfl ?_
      refine x_goto (tgt := 38) K dX7_bestFeed_139 rfl ?_
      refine x_locals [0, 1, 2, 3, 4, 5, 6, 7] (L' := [(0, .ref (a 0)), (1, .int _), (2, .int _), (3, .int _), (4, .int _), (5, .int _), (6, .int _), (7, .int _)]) rfl ?_
      exact hk38 _ _ _ _ _ _ _ _ _ h
    · replace h := h.2 c120
      refine x_iload (pc' := 125) K dX7_bestFeed_123 8 rfl rfl ?_
      refine x_goto (tgt := 130) K dX7_bestFeed_125 rfl ?_
      refine x_istore (pc' := 132) (i := 6) K dX7_bestFeed_130 (by decide) [1, 2, 3, 4, 5, 6, 0, 7, 8] (L' := [(0, .ref (a 0)), (1, .int _), (2, .int _), (3, .int _), (4, .int _), (5, .int _), (6, .int _), (7, .int _), (9, .int _)]) rfl rfl ?_
      refine x_aload_n (pc' := 133) K dX7_bestFeed_132 0 rfl rfl ?_
      refine x_callV (pc' := 136) K (mX7_layBack l D cI cO a) rfl gX7_bestFeed_X7_layBack rfl dsX7_layBack ⟨rfl, rfl, ⟨Nat.le_of_ble_eq_true rfl, Nat.le_of_ble_eq_true rfl⟩, Nat.le_of_ble_eq_true rfl, Nat.le_of_ble_eq_true rfl⟩ h 7 0 rfl rfl (st := []) rfl rfl (Nat.le_of_ble_eq_true rfl) dX7_bestFeed_133 rfl (fun F133 G133 h => ?_)
      refine x_iinc (pc' := 139) (v := _ + (1 : Int32)) K dX7_bestFeed_136 7 rfl rfl (by decide) [1, 2, 3, 4, 5, 6, 7, 0, 8] (L' := [(0, .ref (a 0)), (1, .int _), (2, .int _), (3, .int _), (4, .int _), (5, .int _), (6, .int _), (7, .int _), (9, .int _)]) rfl rfl ?_
      refine x_goto (tgt := 38) K dX7_bestFeed_139 rfl ?_
      refine x_locals [0, 1, 2, 3, 4, 5, 6, 7] (L' := [(0, .ref (a 0)), (1, .int _), (2, .int _), (3, .int _), (4, .int _), (5, .int _), (6, .int _), (7, .int _)]) rfl ?_
      exact hk38 _ _ _ _ _ _ _ _ _ h
set_option maxHeartbeats 4000000 in
set_option maxRecDepth 100000 in
theorem tX7_bestFeed_38 (K : XK p m c cX7_bestFeed 10 s args wsX7_bestFeed RX7 D (xtys cI cO) A meth (some .int)) {Q : Int32 → xF → xA → Prop} : ∀ (n : Nat), ∀ (x1 : Int32) (x2 : Int32) (x3 : Int32) (x4 : Int32) (x5 : Int32) (x6 : Int32) (x7 : Int32) (F : xF) (G : xA), qX7_bestFeed_38 Q n x1 x2 x3 x4 x5 x6 x7 F G → XJ p l e rmX7_bestFeed s m args below meth c 0 0 (MQ below (xQi D (w7 cI a) A Q) args s 0 0 A) D (xtys cI cO) A 10 (w7 cI a F G) 38 [(0, .ref (a 0)), (1, .int x1), (2, .int x2), (3, .int x3), (4, .int x4), (5, .int x5), (6, .int x6), (7, .int x7)] [] := by
  intro n
  induction n with
  | zero =>
    intro x1 x2 x3 x4 x5 x6 x7 F G h
    exact False.elim h
  | succ n ih =>
    intro x1 x2 x3 x4 x5 x6 x7 F G h
    refine x_iload (pc' := 40) K dX7_bestFeed_38 7 rfl rfl ?_
    refine x_bipush (pc' := 42) (v := 10) K dX7_bestFeed_40 (by decide) rfl ?_
    refine x_icmp_ge (tgt := 142) (pc' := 45) K dX7_bestFeed_42 rfl rfl (fun c42 => ?_) (fun c42 => ?_)
    · replace h := h.1 c42
      refine x_iload_n (pc' := 143) K dX7_bestFeed_142 1 rfl rfl ?_
      refine x_if_ne (tgt := 150) (pc' := 146) K dX7_bestFeed_143 rfl rfl (fun c143 => ?_) (fun c143 => ?_)
      · replace h := h.1 c143
        refine x_iload_n (pc' := 151) K dX7_bestFeed_150 1 rfl rfl ?_
        refine x_iconst (pc' := 152) (v := 1) K dX7_bestFeed_151 (by decide) rfl ?_
        refine x_icmp_ne (tgt := 160) (pc' := 155) K dX7_bestFeed_152 rfl rfl (fun c152 => ?_) (fun c152 => ?_)
        · replace h := h.1 c152
          refine x_iload (pc' := 162) K dX7_bestFeed_160 6 rfl rfl ?_
          refine x_iload (pc' := 164) K dX7_bestFeed_162 5 rfl rfl ?_
          refine x_isub (pc' := 165) K dX7_bestFeed_164 rfl ?_
          exact x_iret (wf := w7 cI a) K h dX7_bestFeed_165
        · replace h := h.2 c152
          refine x_iload (pc' := 157) K dX7_bestFeed_155 4 rfl rfl ?_
          refine x_goto (tgt := 165) K dX7_bestFeed_157 rfl ?_
          exact x_iret (wf := w7 cI a) K h dX7_bestFeed_165
      · replace h := h.2 c143
        refine x_iload_n (pc' := 147) K dX7_bestFeed_146 3 rfl rfl ?_
        refine x_goto (tgt := 165) K dX7_bestFeed_147 rfl ?_
        exact x_iret (wf := w7 cI a) K h dX7_bestFeed_165
    · replace h := h.2 c42
      refine x_aload_n (pc' := 46) K dX7_bestFeed_45 0 rfl rfl ?_
      refine x_iload (pc' := 48) K dX7_bestFeed_46 7 rfl rfl ?_
      refine xw7_0p_fedToday (pc' := 51) K hinX7_bestFeed_X7 uX7_bestFeed_f34 dX7_bestFeed_48 rfl (fun F48 eF48 => ?_)
      replace h := h F48 eF48
      refine x_aload_n (pc' := 52) K dX7_bestFeed_51 0 rfl rfl ?_
      refine x_callI (pc' := 55) K (mX7_day l D cI cO a) rfl gX7_bestFeed_X7_day rfl dsX7_day ⟨rfl, rfl, ⟨Nat.le_of_ble_eq_true rfl, Nat.le_of_ble_eq_true rfl⟩, Nat.le_of_ble_eq_true rfl, Nat.le_of_ble_eq_true rfl⟩ h 7 0 rfl rfl (st := []) rfl rfl (Nat.le_of_ble_eq_true rfl) dX7_bestFeed_52 rfl (fun r52 F52 G52 h => ?_)
      refine x_istore (pc' := 57) (i := 8) K dX7_bestFeed_55 (by decide) [1, 2, 3, 4, 5, 6, 7, 8, 0] (L' := [(0, .ref (a 0)), (1, .int _), (2, .int _), (3, .int _), (4, .int _), (5, .int _), (6, .int _), (7, .int _), (8, .int _)]) rfl rfl ?_
      refine x_aload_n (pc' := 58) K dX7_bestFeed_57 0 rfl rfl ?_
      refine x_iconst (pc' := 59) (v := -1) K dX7_bestFeed_58 (by decide) rfl ?_
      refine xw7_0p_fedToday (pc' := 62) K hinX7_bestFeed_X7 uX7_bestFeed_f34 dX7_bestFeed_59 rfl (fun F59 eF59 => ?_)
      replace h := h F59 eF59
      refine x_iload (pc' := 64) K dX7_bestFeed_62 8 rfl rfl ?_
      refine x_aload_n (pc' := 65) K dX7_bestFeed_64 0 rfl rfl ?_
      refine x_bipush (pc' := 67) (v := 9) K dX7_bestFeed_65 (by decide) rfl ?_
      refine x_callI (pc' := 70) K (mX7_go l D cI cO a _) rfl gX7_bestFeed_X7_go rfl dsX7_go ⟨rfl, rfl, ⟨Nat.le_of_ble_eq_true rfl, Nat.le_of_ble_eq_true rfl⟩, Nat.le_of_ble_eq_true rfl, Nat.le_of_ble_eq_true rfl⟩ h 7 0 rfl rfl (st := [.int _]) rfl rfl (Nat.le_of_ble_eq_true rfl) dX7_bestFeed_67 rfl (fun r67 F67 G67 h => ?_)
      refine x_iadd (pc' := 71) K dX7_bestFeed_70 rfl ?_
      refine x_istore (pc' := 73) (i := 8) K dX7_bestFeed_71 (by decide) [1, 2, 3, 4, 5, 6, 7, 8, 0] (L' := [(0, .ref (a 0)), (1, .int _), (2, .int _), (3, .int _), (4, .int _), (5, .int _), (6, .int _), (7, .int _), (8, .int _)]) rfl rfl ?_
      refine x_aload_n (pc' := 74) K dX7_bestFeed_73 0 rfl rfl ?_
      refine x_iconst (pc' := 75) (v := 2) K dX7_bestFeed_74 (by decide) rfl ?_
      refine x_callI (pc' := 78) K (mX7_allOf l D cI cO a _) rfl gX7_bestFeed_X7_allOf rfl dsX7_allOf ⟨rfl, rfl, ⟨Nat.le_of_ble_eq_true rfl, Nat.le_of_ble_eq_true rfl⟩, Nat.le_of_ble_eq_true rfl, Nat.le_of_ble_eq_true rfl⟩ h 7 0 rfl rfl (st := []) rfl rfl (Nat.le_of_ble_eq_true rfl) dX7_bestFeed_75 rfl (fun r75 F75 G75 h => ?_)
      refine x_istore (pc' := 80) (i := 9) K dX7_bestFeed_78 (by decide) [1, 2, 3, 4, 5, 6, 7, 8, 9, 0] (L' := [(0, .ref (a 0)), (1, .int _), (2, .int _), (3, .int _), (4, .int _), (5, .int _), (6, .int _), (7, .int _), (8, .int _), (9, .int _)]) rfl rfl ?_
      refine x_iload_n (pc' := 81) K dX7_bestFeed_80 3 rfl rfl ?_
      refine x_iconst (pc' := 82) (v := -1) K dX7_bestFeed_81 (by decide) rfl ?_
      refine x_icmp_eq (tgt := 96) (pc' := 85) K dX7_bestFeed_82 rfl rfl (fun c82 => ?_) (fun c82 => ?_)
      · replace h := h.1 c82
        refine x_iload (pc' := 98) K dX7_bestFeed_96 7 rfl rfl ?_
        refine x_istore_n (pc' := 99) (i := 3) K dX7_bestFeed_98 rfl (by decide) [1, 2, 3, 0, 4, 5, 6, 7, 8, 9] (L' := [(0, .ref (a 0)), (1, .int _), (2, .int _), (3, .int _), (4, .int _), (5, .int _), (6, .int _), (7, .int _), (8, .int _), (9, .int _)]) rfl rfl ?_
        refine x_aload_n (pc' := 100) K dX7_bestFeed_99 0 rfl rfl ?_
        refine x_iload_n (pc' := 101) K dX7_bestFeed_100 2 rfl rfl ?_
        refine x_iconst (pc' := 102) (v := 2) K dX7_bestFeed_101 (by decide) rfl ?_
        refine x_callI (pc' := 105) K (mX7_its l D cI cO a _ _) rfl gX7_bestFeed_X7_its rfl dsX7_its ⟨rfl, rfl, ⟨Nat.le_of_ble_eq_true rfl, Nat.le_of_ble_eq_true rfl⟩, Nat.le_of_ble_eq_true rfl, Nat.le_of_ble_eq_true rfl⟩ h 7 0 rfl rfl (st := []) rfl rfl (Nat.le_of_ble_eq_true rfl) dX7_bestFeed_102 rfl (fun r102 F102 G102 h => ?_)
        refine x_istore (pc' := 107) (i := 4) K dX7_bestFeed_105 (by decide) [1, 2, 3, 4, 0, 5, 6, 7, 8, 9] (L' := [(0, .ref (a 0)), (1, .int _), (2, .int _), (3, .int _), (4, .int _), (5, .int _), (6, .int _), (7, .int _), (8, .int _), (9, .int _)]) rfl rfl ?_
        refine x_iload (pc' := 109) K dX7_bestFeed_107 9 rfl rfl ?_
        refine x_istore (pc' := 111) (i := 5) K dX7_bestFeed_109 (by decide) [1, 2, 3, 4, 5, 0, 6, 7, 8, 9] (L' := [(0, .ref (a 0)), (1, .int _), (2, .int _), (3, .int _), (4, .int _), (5, .int _), (6, .int _), (7, .int _), (8, .int _), (9, .int _)]) rfl rfl ?_
        refine x_locals [0, 1, 2, 3, 4, 5, 6, 7, 9] (L' := [(0, .ref (a 0)), (1, .int _), (2, .int _), (3, .int _), (4, .int _), (5, .int _), (6, .int _), (7, .int _), (9, .int _)]) rfl ?_
        exact tX7_bestFeed_111 K (fun x1 x2 x3 x4 x5 x6 x7 F G h => ih x1 x2 x3 x4 x5 x6 x7 F G h) _ _ _ _ _ _ _ _ _ _ h
      · replace h := h.2 c82
        refine x_aload_n (pc' := 86) K dX7_bestFeed_85 0 rfl rfl ?_
        refine x_iload_n (pc' := 87) K dX7_bestFeed_86 2 rfl rfl ?_
        refine x_iconst (pc' := 88) (v := 2) K dX7_bestFeed_87 (by decide) rfl ?_
        refine x_callI (pc' := 91) K (mX7_its l D cI cO a _ _) rfl gX7_bestFeed_X7_its rfl dsX7_its ⟨rfl, rfl, ⟨Nat.le_of_ble_eq_true rfl, Nat.le_of_ble_eq_true rfl⟩, Nat.le_of_ble_eq_true rfl, Nat.le_of_ble_eq_true rfl⟩ h 7 0 rfl rfl (st := []) rfl rfl (Nat.le_of_ble_eq_true rfl) dX7_bestFeed_88 rfl (fun r88 F88 G88 h => ?_)
        refine x_iload (pc' := 93) K dX7_bestFeed_91 4 rfl rfl ?_
        refine x_icmp_le (tgt := 111) (pc' := 96) K dX7_bestFeed_93 rfl rfl (fun c93 => ?_) (fun c93 => ?_)
        · replace h := h.1 c93
          refine x_locals [0, 1, 2, 3, 4, 5, 6, 7, 9] (L' := [(0, .ref (a 0)), (1, .int _), (2, .int _), (3, .int _), (4, .int _), (5, .int _), (6, .int _), (7, .int _), (9, .int _)]) rfl ?_
          exact tX7_bestFeed_111 K (fun x1 x2 x3 x4 x5 x6 x7 F G h => ih x1 x2 x3 x4 x5 x6 x7 F G h) _ _ _ _ _ _ _ _ _ _ h
        · replace h := h.2 c93
          refine x_iload (pc' := 98) K dX7_bestFeed_96 7 rfl rfl ?_
          refine x_istore_n (pc' := 99) (i := 3) K dX7_bestFeed_98 rfl (by decide) [1, 2, 3, 0, 4, 5, 6, 7, 8, 9] (L' := [(0, .ref (a 0)), (1, .int _), (2, .int _), (3, .int _), (4, .int _), (5, .int _), (6, .int _), (7, .int _), (8, .int _), (9, .int _)]) rfl rfl ?_
          refine x_aload_n (pc' := 100) K dX7_bestFeed_99 0 rfl rfl ?_
          refine x_iload_n (pc' := 101) K dX7_bestFeed_100 2 rfl rfl ?_
          refine x_iconst (pc' := 102) (v := 2) K dX7_bestFeed_101 (by decide) rfl ?_
          refine x_callI (pc' := 105) K (mX7_its l D cI cO a _ _) rfl gX7_bestFeed_X7_its rfl dsX7_its ⟨rfl, rfl, ⟨Nat.le_of_ble_eq_true rfl, Nat.le_of_ble_eq_true rfl⟩, Nat.le_of_ble_eq_true rfl, Nat.le_of_ble_eq_true rfl⟩ h 7 0 rfl rfl (st := []) rfl rfl (Nat.le_of_ble_eq_true rfl) dX7_bestFeed_102 rfl (fun r102 F102 G102 h => ?_)
          refine x_istore (pc' := 107) (i := 4) K dX7_bestFeed_105 (by decide) [1, 2, 3, 4, 0, 5, 6, 7, 8, 9] (L' := [(0, .ref (a 0)), (1, .int _), (2, .int _), (3, .int _), (4, .int _), (5, .int _), (6, .int _), (7, .int _), (8, .int _), (9, .int _)]) rfl rfl ?_
          refine x_iload (pc' := 109) K dX7_bestFeed_107 9 rfl rfl ?_
          refine x_istore (pc' := 111) (i := 5) K dX7_bestFeed_109 (by decide) [1, 2, 3, 4, 5, 0, 6, 7, 8, 9] (L' := [(0, .ref (a 0)), (1, .int _), (2, .int _), (3, .int _), (4, .int _), (5, .int _), (6, .int _), (7, .int _), (8, .int _), (9, .int _)]) rfl rfl ?_
          refine x_locals [0, 1, 2, 3, 4, 5, 6, 7, 9] (L' := [(0, .ref (a 0)), (1, .int _), (2, .int _), (3, .int _), (4, .int _), (5, .int _), (6, .int _), (7, .int _), (9, .int _)]) rfl ?_
          exact tX7_bestFeed_111 K (fun x1 x2 x3 x4 x5 x6 x7 F G h => ih x1 x2 x3 x4 x5 x6 x7 F G h) _ _ _ _ _ _ _ _ _ _ h
set_option maxHeartbeats 4000000 in
set_option maxRecDepth 100000 in
theorem mX7_bestFeed (l : Launch) (D : va_G) (cI cO : ClassId) (a : Nat → Nat)  (x1 : Int32) : MI l yX7_bestFeed wsX7_bestFeed rmX7_bestFeed D (xtys cI cO) [.ref (a 0), .int x1] (w7 cI a) (qX7_bestFeed x1) := by
  refine MI_of (cc := cX7_bestFeed) (maxL := 10) (own := RX7) (by decide) rfl rfl (Nat.le_of_ble_eq_true rfl) ?_
  intro p e s m args below meth c A F G Q h K
  refine x_locals [0, 1] (L' := [(0, .ref (a 0)), (1, .int _)]) rfl ?_
  refine x_iload_n (pc' := 1) K dX7_bestFeed_0 1 rfl rfl ?_
  refine x_iconst (pc' := 2) (v := 0) K dX7_bestFeed_1 (by decide) rfl ?_
  refine x_iconst (pc' := 3) (v := 2) K dX7_bestFeed_2 (by decide) rfl ?_
  refine x_callS (pc' := 6) K (mX7_in l D cI cO a _ _ _) rfl gX7_bestFeed_X7_in dsX7_in ⟨rfl, rfl, ⟨Nat.le_of_ble_eq_true rfl, Nat.le_of_ble_eq_true rfl⟩, Nat.le_of_ble_eq_true rfl, Nat.le_of_ble_eq_true rfl⟩ h (st := []) rfl rfl (Nat.le_of_ble_eq_true rfl) dX7_bestFeed_3 rfl (fun r3 h => ?_)
  refine x_if_ne (tgt := 15) (pc' := 9) K dX7_bestFeed_6 rfl rfl (fun c6 => ?_) (fun c6 => ?_)
  · replace h := h.1 c6
    refine x_aload_n (pc' := 16) K dX7_bestFeed_15 0 rfl rfl ?_
    refine x_callI (pc' := 19) K (mX7_whoHas l D cI cO a) rfl gX7_bestFeed_X7_whoHas rfl dsX7_whoHas ⟨rfl, rfl, ⟨Nat.le_of_ble_eq_true rfl, Nat.le_of_ble_eq_true rfl⟩, Nat.le_of_ble_eq_true rfl, Nat.le_of_ble_eq_true rfl⟩ h 7 0 rfl rfl (st := []) rfl rfl (Nat.le_of_ble_eq_true rfl) dX7_bestFeed_16 rfl (fun r16 F16 G16 h => ?_)
    refine x_istore_n (pc' := 20) (i := 2) K dX7_bestFeed_19 rfl (by decide) [1, 2, 0] (L' := [(0, .ref (a 0)), (1, .int _), (2, .int _)]) rfl rfl ?_
    refine x_iconst (pc' := 21) (v := -1) K dX7_bestFeed_20 (by decide) rfl ?_
    refine x_istore_n (pc' := 22) (i := 3) K dX7_bestFeed_21 rfl (by decide) [1, 2, 3, 0] (L' := [(0, .ref (a 0)), (1, .int _), (2, .int _), (3, .int _)]) rfl rfl ?_
    refine x_iconst (pc' := 23) (v := 0) K dX7_bestFeed_22 (by decide) rfl ?_
    refine x_istore (pc' := 25) (i := 4) K dX7_bestFeed_23 (by decide) [1, 2, 3, 4, 0] (L' := [(0, .ref (a 0)), (1, .int _), (2, .int _), (3, .int _), (4, .int _)]) rfl rfl ?_
    refine x_iconst (pc' := 26) (v := 0) K dX7_bestFeed_25 (by decide) rfl ?_
    refine x_istore (pc' := 28) (i := 5) K dX7_bestFeed_26 (by decide) [1, 2, 3, 4, 5, 0] (L' := [(0, .ref (a 0)), (1, .int _), (2, .int _), (3, .int _), (4, .int _), (5, .int _)]) rfl rfl ?_
    refine x_iconst (pc' := 29) (v := 0) K dX7_bestFeed_28 (by decide) rfl ?_
    refine x_istore (pc' := 31) (i := 6) K dX7_bestFeed_29 (by decide) [1, 2, 3, 4, 5, 6, 0] (L' := [(0, .ref (a 0)), (1, .int _), (2, .int _), (3, .int _), (4, .int _), (5, .int _), (6, .int _)]) rfl rfl ?_
    refine x_aload_n (pc' := 32) K dX7_bestFeed_31 0 rfl rfl ?_
    refine x_callV (pc' := 35) K (mX7_layDown l D cI cO a) rfl gX7_bestFeed_X7_layDown rfl dsX7_layDown ⟨rfl, rfl, ⟨Nat.le_of_ble_eq_true rfl, Nat.le_of_ble_eq_true rfl⟩, Nat.le_of_ble_eq_true rfl, Nat.le_of_ble_eq_true rfl⟩ h 7 0 rfl rfl (st := []) rfl rfl (Nat.le_of_ble_eq_true rfl) dX7_bestFeed_32 rfl (fun F32 G32 h => ?_)
    refine x_iconst (pc' := 36) (v := 0) K dX7_bestFeed_35 (by decide) rfl ?_
    refine x_istore (pc' := 38) (i := 7) K dX7_bestFeed_36 (by decide) [1, 2, 3, 4, 5, 6, 7, 0] (L' := [(0, .ref (a 0)), (1, .int _), (2, .int _), (3, .int _), (4, .int _), (5, .int _), (6, .int _), (7, .int _)]) rfl rfl ?_
    obtain ⟨n38, h⟩ := h
    exact tX7_bestFeed_38 K n38 _ _ _ _ _ _ _ _ _ h
  · replace h := h.2 c6
    refine x_aload_n (pc' := 10) K dX7_bestFeed_9 0 rfl rfl ?_
    refine x_iconst (pc' := 11) (v := 1) K dX7_bestFeed_10 (by decide) rfl ?_
    refine x_callI (pc' := 14) K (mX7_error l D cI cO a _) rfl gX7_bestFeed_X7_error rfl dsX7_error ⟨rfl, rfl, ⟨Nat.le_of_ble_eq_true rfl, Nat.le_of_ble_eq_true rfl⟩, Nat.le_of_ble_eq_true rfl, Nat.le_of_ble_eq_true rfl⟩ h 7 0 rfl rfl (st := []) rfl rfl (Nat.le_of_ble_eq_true rfl) dX7_bestFeed_11 rfl (fun r11 F11 G11 h => ?_)
    exact x_iret (wf := w7 cI a) K h dX7_bestFeed_14
end
