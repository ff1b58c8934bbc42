/-! calls: what waits is checked; draws -/
theorem jo_wait0 {F F' : xF} {G G' : xA} (hI : jo_I F G F' G') : jo_I (va_up F 30 0) G F' (xst G' 0 5 0) := by
  obtain ⟨⟨w, t0, t1, hw, hd, h0, h1, r5, r7, hz⟩, hTp, hWt⟩ := hI.1
  refine jo_of hI ⟨fun k hk => vu_ne (by omega), fun _ _ => rfl⟩ ⟨⟨rfl, rfl, rfl⟩, fun k hk => xst_ne (by omega)⟩ ⟨⟨w, t0, t1, hw, hd, h0, h1, R5_c r5 (fun k hk _ => vu_ne (by omega)) (fun _ _ => rfl), ?_, ?_⟩, ?_, ?_⟩
  · rw [xst_at]
    refine ⟨fun k a b => by rw [upd_ne (by omega)]; exact r7.1 k a b, tkS_congr (by omega) (fun k a b => upd_ne (by omega)) (by omega) r7.2.1, tkS_congr (by omega) (fun k a b => upd_ne (by omega)) (by omega) r7.2.2⟩
  · rw [vu_ne (by omega), xst_at, upd_ne (by omega)]; exact hz
  · obtain ⟨n, a, b, c, d⟩ := hTp
    rw [xst_at]
    exact ⟨n, a, by rw [vu_ne (by omega)]; exact b, by rw [upd_ne (by omega)]; exact c, fun i hi => by rw [upd_ne (by omega)]; exact d i hi⟩
  · rw [xst_at]
    exact ⟨0, by omega, vu_at _ _ _, upd_at _ _ _, fun i hi => by omega⟩
def chk (t0 t1 : wT) (w : wW) (g : Nat → Int32) : Nat → Nat → Int32
  | 0, _ => 0
  | m + 1, i => if g i = nI (dayF t1 (goW t0 t1 w i)) then chk t0 t1 w g m (i + 1) else nI (1 + i)
theorem chk_s {t0 t1 : wT} {w : wW} {g : Nat → Int32} {m i : Nat} : chk t0 t1 w g (m + 1) i = if g i = nI (dayF t1 (goW t0 t1 w i)) then chk t0 t1 w g m (i + 1) else nI (1 + i) := rfl
theorem c_check : oX_check jo_I := by
  intro F G F' G' hI
  obtain ⟨⟨⟨w, t0, t1, hw, hd, h0, h1, r5, r7, hz⟩, hTp, N, hN, e1, e2, hc⟩, _, _, _, _, h5⟩ := id hI
  have hI2 := jo_wait0 hI
  intro F13 eF
  rw [← eF] at hI2
  have r5' : R5 w t0 t1 F13 G := R5_c r5 (fun k hk _ => by rw [eF, vu_ne (by omega)]) (fun _ _ => rfl)
  refine s6_take (o := 14) (p := 0) (o2 := 28) (p2 := 0) (R5_z r5') (by omega) (by omega) (fun E H rE _ _ fE fH => ⟨N + 1, ?_⟩)
  rw [e1]
  have keyC : ∀ (Q : Int32 → xF → xA → Prop), (∀ E1 H1, side6 F13 E1 G H1 → Q (chk t0 t1 w (G 57) N 0) E1 H1) → ∀ (m i : Nat) (E1 : xF) (H1 : xA), i + m = N → chk t0 t1 w (G 57) m i = chk t0 t1 w (G 57) N 0 → side6 F13 E1 G H1 → R5 (goW t0 t1 w i) t0 t1 (xsub E1 14) (xsub H1 28) → qX6_check_29 Q (m + 1) (nI N) (nI i) E1 H1 := by
    intro Q hQ m
    induction m with
    | zero =>
      intro i E1 H1 hi hx hs r
      obtain rfl : i = N := by omega
      have hx : (0 : Int32) = chk t0 t1 w (G 57) i 0 := hx
      exact ⟨fun _ => by rw [hx]; exact hQ E1 H1 hs, fun c => absurd (nI_le (Nat.le_refl _) (by omega)) c⟩
    | succ m ih =>
      intro i E1 H1 hi hx hs r
      obtain ⟨ok, dk⟩ := goW_ok (t0 := t0) (t1 := t1) hw i
      rw [chk_s] at hx
      refine ⟨fun c => absurd c (nI_ge (by omega) (by omega)), fun _ => ⟨xvin (by omega) (by omega), s6_day (o := 14) (o2 := 28) ok (by omega) h0 h1 r (Or.inl ⟨rfl, rfl⟩) (fun E2 H2 r2 _ d2 fE2 fH2 => ?_)⟩⟩
      have hs2 : side6 F13 E2 G H2 := side6_tr hs (side6_b (by omega) (by omega) fE2 fH2)
      rw [nI_clamp (show i < 2 ^ 31 by omega), show H1 57 = G 57 from hs.2 57 (by omega), show nI i + (1 : Int32) = nI (i + 1) from nI_1 i, show (1 : Int32) + nI i = nI (1 + i) from nI_add 1 i]
      refine ⟨fun c => ?_, fun c => ?_⟩
      · rw [if_pos c] at hx
        exact ih (i + 1) E2 H2 (by omega) hx hs2 r2
      · rw [if_neg c] at hx
        rw [hx]; exact hQ E2 H2 hs2
  have seven : ∀ {Q : Int32 → xF → xA → Prop}, (∀ G3, G3 0 = xst G' 0 5 0 0 → (∀ k, k = 1 ∨ k = 3 ∨ (10 ≤ k ∧ k < 14) → G3 k = xst G' 0 5 0 k) → Q (chk t0 t1 w (G 57) N 0) F' G3) → qX7_check F' G' Q := by
    intro Q hQ G13 eG
    rw [← eG] at hQ
    have r7' : R7 w t0 t1 (G13 0) := by
      rw [eG, xst_at]
      exact ⟨fun k a b => by rw [upd_ne (by omega)]; exact r7.1 k a b, tkS_congr (by omega) (fun k a b => upd_ne (by omega)) (by omega) r7.2.1, tkS_congr (by omega) (fun k a b => upd_ne (by omega)) (by omega) r7.2.2⟩
    have hc' : ∀ i, i < N → G13 0 (431 + i) = G 57 i := fun i hi => by rw [eG, xst_at, upd_ne (by omega)]; exact (hc i hi).symm
    refine s7_down (fun G1 d1 k1 => ⟨N + 2, ?_⟩)
    rw [e2]
    have fin : ∀ (x : Int32) (G2 : xA), dur7 G13 G2 → x = chk t0 t1 w (G 57) N 0 → qX7_layBack F' G2 (fun F70 G70 => Q x F70 G70) := fun x G2 d2 e => s7_back d2 (fun G3 e3 _ k3 => by rw [e]; exact hQ G3 e3 k3)
    have st : ∀ (m i : Nat) (G2 : xA), i + m = N → chk t0 t1 w (G 57) m i = chk t0 t1 w (G 57) N 0 → dur7 G13 G2 → R7 (goW t0 t1 w i) t0 t1 (G2 0) → qX7_check_22 Q (m + 2) (nI N) (nI i) (1 : Int32) F' G2 := by
      intro m
      induction m with
      | zero =>
        intro i G2 hi hx d2 r2
        obtain rfl : i = N := by omega
        have hx : (0 : Int32) = chk t0 t1 w (G 57) i 0 := hx
        refine ⟨fun _ => s7_back d2 (fun G3 e3 _ k3 => ⟨fun c => absurd c (by decide), fun _ => ?_⟩), fun c => absurd (nI_le (Nat.le_refl _) (by omega)) c⟩
        rw [hx]; exact hQ G3 e3 k3
      | succ m ih =>
        intro i G2 hi hx d2 r2
        obtain ⟨ok, dk⟩ := goW_ok (t0 := t0) (t1 := t1) hw i
        rw [chk_s] at hx
        have eL : (431 : Int32) + nI i = nI (431 + i) := nI_add 431 i
        rw [qX7_check_22, eL, nI_clamp (show 431 + i < 2 ^ 31 by omega), show G2 0 (431 + i) = G13 0 (431 + i) from d2.2.2 _ (by omega), hc' i (by omega)]
        refine ⟨fun c => absurd c (nI_ge (by omega) (by omega)), fun _ => ⟨fun c => absurd c (by decide), fun _ => ⟨xvin (by omega) (by omega), s7_day ok (by omega) h0 h1 r2 h5 (fun G3 f3 r3 _ => ?_)⟩⟩⟩
        refine ⟨fun c => ?_, fun c => ?_⟩
        · rw [if_neg c] at hx
          refine ⟨fun _ => ?_, fun q => absurd rfl q⟩
          rw [show nI i + (0 : Int32) = nI i from nI_add i 0]
          refine ⟨fun q => absurd q (nI_ge (by omega) (by omega)), fun _ => ⟨fun _ => s7_back (dur_fr d2 f3) (fun G4 e4 _ k4 => ⟨fun _ => ?_, fun q => absurd rfl q⟩), fun q => absurd rfl q⟩⟩
          rw [show (1 : Int32) + nI i = nI (1 + i) from nI_add 1 i, hx]
          exact hQ G4 e4 k4
        · rw [if_pos c] at hx
          refine ⟨fun q => absurd q (by decide), fun _ => ?_⟩
          rw [show nI i + (1 : Int32) = nI (i + 1) from nI_1 i]
          exact ih (i + 1) G3 (by omega) hx (dur_fr d2 f3) r3
    exact st N 0 G1 (by omega) rfl d1 (by rw [k1 0 (by omega)]; exact r7')
  exact keyC _ (fun E1 H1 hs => seven (fun G3 e3 k3 => ⟨rfl, jo_ahead hI2 hs e3 k3⟩)) N 0 E H (by omega) rfl (side6_b (by omega) (by omega) fE fH) rE
/-! draws -/
def zS (z : Int32) : Int32 := z * (1103515245 : Int32) + (12345 : Int32)
def zR (z : Int32) : Nat := (zS z).toBitVec.toNat / 256 % 10
theorem zU (z : Int32) : (z.toUInt32 >>> ((8 : Int32).toUInt32 &&& Int32.toUInt32 31)).toInt32 = nI (z.toBitVec.toNat / 256) := by
  have h := pk_ushr z 8 8 (by decide)
  have hb : z.toBitVec.toNat / 256 < 2 ^ 32 := by have := z.toBitVec.isLt; omega
  rw [← Int32.toBitVec_inj]
  apply BitVec.eq_of_toNat_eq
  rw [h, pk_tn hb]
theorem zU10 (z : Int32) : ((zS z).toUInt32 >>> ((8 : Int32).toUInt32 &&& Int32.toUInt32 31)).toInt32 - ((zS z).toUInt32 >>> ((8 : Int32).toUInt32 &&& Int32.toUInt32 31)).toInt32 / (10 : Int32) * (10 : Int32) = nI (zR z) := by
  have := (zS z).toBitVec.isLt
  rw [zU]
  exact pk_rem (d := 10) (by omega) (by omega) (by omega)
theorem zR_le (z : Int32) : zR z ≤ 9 := by
  have : zR z < 10 := Nat.mod_lt _ (by omega)
  omega
def drN (t0 t1 : wT) (w : wW) (z : Int32) : Nat → wW × Int32
  | 0 => (w, z)
  | k + 1 => (dayW t0 t1 (wU (drN t0 t1 w z k).1 1 (zR (drN t0 t1 w z k).2)), zS (drN t0 t1 w z k).2)
def drS (t0 t1 : wT) (w : wW) (z : Int32) : Nat → Nat
  | 0 => 0
  | k + 1 => drS t0 t1 w z k + dayF t1 (wU (drN t0 t1 w z k).1 1 (zR (drN t0 t1 w z k).2))
theorem drN_ok {t0 t1 : wT} {w : wW} {z : Int32} (hw : Wok w) : ∀ k, Wok (drN t0 t1 w z k).1 ∧ (drN t0 t1 w z k).1 0 = w 0 + k
  | 0 => ⟨hw, rfl⟩
  | k + 1 => by
    obtain ⟨a, b⟩ := drN_ok (t0 := t0) (t1 := t1) (z := z) hw k
    have c := Wok_s_rain (v := zR (drN t0 t1 w z k).2) a (zR_le _)
    refine ⟨Wok_dayW c, ?_⟩
    show dayW t0 t1 _ 0 = _
    rw [dayW_0 c, wU_ne (by omega), b]; omega
theorem c_draws : oX_draws jo_I := by
  intro x1 F G F' G' hI
  obtain ⟨⟨⟨w, t0, t1, hw, hd, h0, h1, r5, r7, hz⟩, hTp, hWt⟩, _, _, _, _, h5⟩ := id hI
  unfold qX6_draws
  rcases xrng1 x1 1 45 (by decide) (by decide) with h | ⟨n, hl, hn, rfl⟩
  · refine s6_inG_no (l := 1) (n := 45) h ?_; (first | refine pN1 ?_ | refine pN2 ?_); refine s6_error (k := 1) (by decide) ?_; unfold qX7_draws qX7_whyNotDays; refine s7_inG_no (l := 1) (n := 45) h ?_; (first | refine pN1 ?_ | refine pN2 ?_); refine ⟨fun c => absurd c (by decide), fun _ => ?_⟩; exact c_err (k := 1) (by decide) hI
  refine s6_inG (l := 1) (n := 45) hl hn (by decide) ?_; (first | refine pY1 ?_ | refine pY2 ?_)
  rw [r5.1.2.2.2, nI_add]
  have e0 : G' 0 0 = nI (w 0) := r7.1 0 (by omega) (by omega)
  refine le_dec (b := 9999) (by omega) (by decide) (fun c => ⟨n + 1, ?_⟩) (fun c => ?_)
  · have keyC : ∀ (Q : Int32 → xF → xA → Prop), (∀ E1 H1, R5 (drN t0 t1 w (F 4) n).1 t0 t1 E1 H1 → E1 4 = (drN t0 t1 w (F 4) n).2 → (∀ k, 7 ≤ k → E1 k = F k) → (∀ k, 14 ≤ k → H1 k = G k) → Q (nI (drS t0 t1 w (F 4) n)) E1 H1) → ∀ (m k : Nat) (E1 : xF) (H1 : xA), k + m = n → R5 (drN t0 t1 w (F 4) k).1 t0 t1 E1 H1 → E1 4 = (drN t0 t1 w (F 4) k).2 → (∀ k, 7 ≤ k → E1 k = F k) → (∀ k, 14 ≤ k → H1 k = G k) → qX6_draws_41 Q (m + 1) (nI n) (nI (drS t0 t1 w (F 4) k)) (nI k) E1 H1 := by
      intro Q hQ m
      induction m with
      | zero =>
        intro k E1 H1 hk r z fE fH
        obtain rfl : k = n := by omega
        exact ⟨fun _ => hQ E1 H1 r z fE fH, fun c => absurd (nI_le (Nat.le_refl _) (by omega)) c⟩
      | succ m ih =>
        intro k E1 H1 hk r z fE fH
        obtain ⟨ok, dk⟩ := drN_ok (t0 := t0) (t1 := t1) (z := F 4) hw k
        refine ⟨fun c => absurd c (nI_ge (by omega) (by omega)), fun _ => ?_⟩
        rw [xsub_0, xsub_0]
        intro F1 eF1 F2 eF2 E2 eE2 H2 eH2
        have z1 : F1 4 = zS (drN t0 t1 w (F 4) k).2 := by rw [eF1, vu_at, z]; rfl
        rw [z1, zU10] at eF2
        have q1 : R5 (drN t0 t1 w (F 4) k).1 t0 t1 F1 H1 := R5_c r (fun j hj h4 => by rw [eF1, vu_ne h4]) (fun _ _ => rfl)
        have q2 : R5 (wU (drN t0 t1 w (F 4) k).1 1 (zR (drN t0 t1 w (F 4) k).2)) t0 t1 F2 H1 := by rw [eF2]; exact R5_s_rain q1
        have q3 : R5 (wU (drN t0 t1 w (F 4) k).1 1 (zR (drN t0 t1 w (F 4) k).2)) t0 t1 E2 H2 := by rw [eE2, eH2]; exact R5_now q2
        have z3 : E2 4 = zS (drN t0 t1 w (F 4) k).2 := by rw [eE2, xspl_now (by omega), eF2, vu_ne (by omega), z1]
        refine s6_day (o := 0) (o2 := 0) (Wok_s_rain (v := zR (drN t0 t1 w (F 4) k).2) ok (zR_le _)) (by rw [wU_ne (by omega)]; omega) h0 h1 (R5_z q3) (Or.inl ⟨rfl, rfl⟩) (fun E3 H3 r3 z4 _ fE3 fH3 => ?_)
        rw [xsub_0, xsub_0] at r3
        rw [nI_add, show nI k + (1 : Int32) = nI (k + 1) from nI_1 k]
        exact ih (k + 1) E3 H3 (by omega) r3 (by rw [show E3 4 = E2 4 by simpa using z4, z3]; rfl) (fun j hj => by rw [fE3 j (by omega), eE2, xspl_out (by omega)]; exact fE j hj) (fun j hj => by rw [fH3 j (by omega), eH2, xspl_out (by omega)]; exact fH j hj)
    have seven : ∀ {Q : Int32 → xF → xA → Prop}, (∀ G3, R7 (drN t0 t1 w (F 4) n).1 t0 t1 (G3 0) → G3 0 6 = (drN t0 t1 w (F 4) n).2 → (∀ j, (j = 4 ∨ j = 5 ∨ 121 ≤ j) → G3 0 j = G' 0 j) → (∀ k, k ≠ 0 → k ≠ 5 → k ≠ 6 → k ≠ 7 → G3 k = G' k) → Q (nI (drS t0 t1 w (F 4) n)) F' G3) → qX7_draws (nI n) F' G' Q := by
      intro Q hQ
      unfold qX7_draws qX7_whyNotDays
      refine s7_inG (l := 1) (n := 45) hl hn (by decide) ?_; (first | refine pY1 ?_ | refine pY2 ?_)
      rw [e0, nI_add]
      refine le_dec (b := 9999) (by omega) (by decide) (fun _ => ⟨fun _ => ⟨n + 1, ?_⟩, fun q => absurd (by decide) q⟩) (fun q => absurd q (by omega))
      have st : ∀ (m k : Nat) (G2 : xA), k + m = n → R7 (drN t0 t1 w (F 4) k).1 t0 t1 (G2 0) → G2 0 6 = (drN t0 t1 w (F 4) k).2 → (∀ j, (j = 4 ∨ j = 5 ∨ 121 ≤ j) → G2 0 j = G' 0 j) → (∀ k, k ≠ 0 → k ≠ 5 → k ≠ 6 → k ≠ 7 → G2 k = G' k) → qX7_draws_21 Q (m + 1) (nI n) (nI (drS t0 t1 w (F 4) k)) (nI k) F' G2 := by
        intro m
        induction m with
        | zero =>
          intro k G2 hk r z fs fG
          obtain rfl : k = n := by omega
          exact ⟨fun _ => hQ G2 r z fs fG, fun c => absurd (nI_le (Nat.le_refl _) (by omega)) c⟩
        | succ m ih =>
          intro k G2 hk r z fs fG
          obtain ⟨ok, dk⟩ := drN_ok (t0 := t0) (t1 := t1) (z := F 4) hw k
          refine ⟨fun c => absurd c (nI_ge (by omega) (by omega)), fun _ G3 e3 G4 e4 => ?_⟩
          have z1 : G3 0 6 = zS (drN t0 t1 w (F 4) k).2 := by rw [e3, xst_at, upd_at, z]; rfl
          rw [z1, zU10] at e4
          have q1 : R7 (drN t0 t1 w (F 4) k).1 t0 t1 (G3 0) := by
            rw [e3, xst_at]
            exact ⟨fun k a b => by rw [upd_ne (by omega)]; exact r.1 k a b, tkS_congr (by omega) (fun k a b => upd_ne (by omega)) (by omega) r.2.1, tkS_congr (by omega) (fun k a b => upd_ne (by omega)) (by omega) r.2.2⟩
          have q2 : R7 (wU (drN t0 t1 w (F 4) k).1 1 (zR (drN t0 t1 w (F 4) k).2)) t0 t1 (G4 0) := by rw [e4, xst_at]; exact R7_upd q1 (by omega)
          refine s7_day (Wok_s_rain (v := zR (drN t0 t1 w (F 4) k).2) ok (zR_le _)) (by rw [wU_ne (by omega)]; omega) h0 h1 q2 h5 (fun G5 f5 r5' _ => ?_)
          rw [nI_add, show nI k + (1 : Int32) = nI (k + 1) from nI_1 k]
          refine ih (k + 1) G5 (by omega) r5' ?_ (fun j hj => ?_) (fun j a b c d => ?_)
          · rw [f5.2 6 (by omega), e4, xst_at, upd_ne (by omega), z1]; rfl
          · rw [f5.2 j (by omega), e4, xst_at, upd_ne (by omega), e3, xst_at, upd_ne (by omega)]; exact fs j hj
          · rw [f5.1 j a b c d, e4, xst_ne a, e3, xst_ne a]; exact fG j a b c d
      exact st n 0 G' (by omega) r7 hz.symm (fun _ _ => rfl) (fun _ _ _ _ _ => rfl)
    refine keyC _ (fun E1 H1 rE zE fE fH => seven (fun G3 r3 z3 s3 f3 => ⟨rfl, ?_⟩)) n 0 F G (by omega) r5 rfl (fun _ _ => rfl) (fun _ _ => rfl)
    obtain ⟨ok, dk⟩ := drN_ok (t0 := t0) (t1 := t1) (z := F 4) hw n
    refine jo_of hI ⟨fun k hk => fE k (by omega), fun k hk => fH k (by omega)⟩ ⟨⟨rfl, rfl, rfl⟩, fun k hk => f3 k (by omega) (by omega) (by omega) (by omega)⟩ ⟨⟨_, t0, t1, ok, by rw [dk]; exact c, h0, h1, rE, r3, by rw [zE, z3]⟩, ?_, ?_⟩
    · obtain ⟨m, a, b, d, e⟩ := hTp
      exact ⟨m, a, by rw [fE 29 (by omega)]; exact b, by rw [s3 4 (by omega)]; exact d, fun i hi => by rw [fH 56 (by omega), s3 (371 + i) (by omega)]; exact e i hi⟩
    · obtain ⟨m, a, b, d, e⟩ := hWt
      exact ⟨m, a, by rw [fE 30 (by omega)]; exact b, by rw [s3 5 (by omega)]; exact d, fun i hi => by rw [fH 57 (by omega), s3 (431 + i) (by omega)]; exact e i hi⟩
  · refine s6_error (k := 3) (by decide) ?_; unfold qX7_draws qX7_whyNotDays; refine s7_inG (l := 1) (n := 45) hl hn (by decide) ?_; (first | refine pY1 ?_ | refine pY2 ?_); rw [e0, nI_add]; refine le_dec (b := 9999) (by omega) (by decide) (fun q => absurd q (by omega)) (fun _ => ⟨fun q => absurd q (by decide), fun _ => ?_⟩); exact c_err (k := 3) (by decide) hI
