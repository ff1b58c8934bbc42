/-! calls: the best feed, shares -/
def smN (f : Nat → Nat) : Nat → Nat
  | 0 => 0
  | n + 1 => smN f n + f n
theorem sumN_nI (f : Nat → Nat) : ∀ n, sumN (fun i => nI (f i)) n = nI (smN f n)
  | 0 => rfl
  | n + 1 => by
    show sumN (fun i => nI (f i)) n + nI (f n) = _
    rw [sumN_nI f n, nI_add]; rfl
theorem smN_le {f : Nat → Nat} {M : Nat} : ∀ n, (∀ i, i < n → f i ≤ M) → smN f n ≤ M * n
  | 0, _ => Nat.zero_le _
  | n + 1, h => by
    have := smN_le (f := f) (M := M) n (fun i hi => h i (by omega))
    have := h n (by omega)
    show smN f n + f n ≤ _
    rw [Nat.mul_succ]; omega
def fbW (t0 t1 : wT) (w : wW) (v : Nat) : wW := goW t0 t1 (dayX v (dayP t1 w)) 9
def fbA (t0 t1 : wT) (w : wW) (v : Nat) : Nat := smN (fun g => wF (fbW t0 t1 w v) g 2) 9
def fbT (v p a : Int32) (s : Int32 × Int32 × Int32 × Int32) : Int32 × Int32 × Int32 × Int32 := if p ≤ s.2.1 then (s.1, s.2.1, s.2.2.1, if s.2.2.2 < a then a else s.2.2.2) else (v, p, a, if s.2.2.2 < a then a else s.2.2.2)
theorem fbT_le {v p a : Int32} {s : Int32 × Int32 × Int32 × Int32} (h : p ≤ s.2.1) : fbT v p a s = (s.1, s.2.1, s.2.2.1, if s.2.2.2 < a then a else s.2.2.2) := if_pos h
theorem fbT_gt {v p a : Int32} {s : Int32 × Int32 × Int32 × Int32} (h : ¬ p ≤ s.2.1) : fbT v p a s = (v, p, a, if s.2.2.2 < a then a else s.2.2.2) := if_neg h
def fbS (t0 t1 : wT) (w : wW) (f : Nat) : Nat → Int32 × Int32 × Int32 × Int32
  | 0 => (0, -1, 0, 0)
  | v + 1 => fbT (nI v) (nI (wF (fbW t0 t1 w v) f 2)) (nI (fbA t0 t1 w v)) (fbS t0 t1 w f v)
theorem fbW_ok {t0 t1 : wT} {w : wW} (hw : Wok w) (v : Nat) : Wok (fbW t0 t1 w v) := (goW_ok (Wok_dayX (Wok_dayP hw)) 9).1
theorem fbA_le {t0 t1 : wT} {w : wW} (hw : Wok w) (v : Nat) : fbA t0 t1 w v ≤ 99999999 * 9 := smN_le 9 (fun i hi => ((fbW_ok hw v).2.2.2.2.1 i hi).2.2.1)
theorem fbS_1 {t0 t1 : wT} {w : wW} {f : Nat} (hw : Wok w) (hf : f < 9) : fbS t0 t1 w f 1 = (nI 0, nI (wF (fbW t0 t1 w 0) f 2), nI (fbA t0 t1 w 0), nI (fbA t0 t1 w 0)) := by
  have hp := ((fbW_ok (t0 := t0) (t1 := t1) hw 0).2.2.2.2.1 f hf).2.2.1
  have ha := fbA_le (t0 := t0) (t1 := t1) hw 0
  have c : ¬ nI (wF (fbW t0 t1 w 0) f 2) ≤ ((0, -1, 0, 0) : Int32 × Int32 × Int32 × Int32).2.1 := fun c => by
    have := Int32.le_trans (nI_pos' (show wF (fbW t0 t1 w 0) f 2 < 2 ^ 31 by omega)) c
    exact absurd this (by decide)
  have e : (if (0 : Int32) < nI (fbA t0 t1 w 0) then nI (fbA t0 t1 w 0) else (0 : Int32)) = nI (fbA t0 t1 w 0) := by
    by_cases c : 0 < fbA t0 t1 w 0
    · exact if_pos (show nI 0 < nI (fbA t0 t1 w 0) from nI_lt c (by omega))
    · have : fbA t0 t1 w 0 = 0 := by omega
      rw [this, if_neg (by decide)]; rfl
  show fbT (nI 0) (nI (wF (fbW t0 t1 w 0) f 2)) (nI (fbA t0 t1 w 0)) (0, -1, 0, 0) = _
  rw [fbT_gt c]
  show (nI 0, nI (wF (fbW t0 t1 w 0) f 2), nI (fbA t0 t1 w 0), if (0 : Int32) < nI (fbA t0 t1 w 0) then nI (fbA t0 t1 w 0) else (0 : Int32)) = _
  rw [e]
theorem fbS_best {t0 t1 : wT} {w : wW} {f : Nat} (hw : Wok w) (hf : f < 9) : ∀ v, v < 2 ^ 20 → ∃ j, j < 2 ^ 20 ∧ (fbS t0 t1 w f (v + 1)).1 = nI j
  | 0, _ => ⟨0, by omega, by rw [fbS_1 hw hf]⟩
  | v + 1, hv => by
    obtain ⟨j, hj, e⟩ := fbS_best (t0 := t0) (t1 := t1) (f := f) hw hf v (by omega)
    have es : fbS t0 t1 w f (v + 1 + 1) = fbT (nI (v + 1)) (nI (wF (fbW t0 t1 w (v + 1)) f 2)) (nI (fbA t0 t1 w (v + 1))) (fbS t0 t1 w f (v + 1)) := rfl
    rw [es]
    by_cases c : nI (wF (fbW t0 t1 w (v + 1)) f 2) ≤ (fbS t0 t1 w f (v + 1)).2.1
    · rw [fbT_le c]; exact ⟨j, hj, e⟩
    · rw [fbT_gt c]; exact ⟨v + 1, hv, rfl⟩
theorem vu_back {F : xF} {k : Nat} {x y : Int32} (h : F k = y) : va_up (va_up F k x) k y = F := by
  funext j
  by_cases c : j = k
  · subst c; rw [vu_at, h]
  · rw [vu_ne c, vu_ne c]
/-- the answer by what is asked -/
def fbQ (b : Nat) (s : Int32 × Int32 × Int32 × Int32) : Int32 := if b = 0 then s.1 else if b = 1 then s.2.1 else s.2.2.2 - s.2.2.1
theorem fb_fin {b : Nat} (hb : b ≤ 2) {s : Int32 × Int32 × Int32 × Int32} {P : Int32 → Prop} (h : P (fbQ b s)) : ((¬ nI b = 0 → ((¬ nI b = (1 : Int32) → P (s.2.2.2 - s.2.2.1)) ∧ (nI b = (1 : Int32) → P s.2.1))) ∧ (nI b = 0 → P s.1)) := by
  unfold fbQ at h
  refine eq_dec' (b := 0) (by omega) (by decide) (fun e => ?_) (fun e => eq_dec' (b := 1) (by omega) (by decide) (fun e1 => ?_) (fun e1 => ?_))
  · rw [if_pos e] at h; exact h
  · rw [if_neg e, if_pos e1] at h; exact h
  · rw [if_neg e, if_neg e1] at h; exact h
theorem c_bestFeed : oX_bestFeed jo_I := by
  intro x1 F G F' G' hI
  obtain ⟨⟨⟨w, t0, t1, hw, hd, h0, h1, r5, r7, hz⟩, _⟩, _, _, _, _, h5⟩ := id hI
  unfold qX6_bestFeed
  rcases xrng x1 2 (by decide) with h | ⟨b, hb, rfl⟩
  · refine s6_inG_no (l := 0) (n := 2) h ?_; (first | refine pN1 ?_ | refine pN2 ?_); refine s6_error (k := 1) (by decide) ?_; unfold qX7_bestFeed; refine s7_inG_no (l := 0) (n := 2) h ?_; (first | refine pN1 ?_ | refine pN2 ?_); exact c_err (k := 1) (by decide) hI
  refine s6_inG (l := 0) (n := 2) (by omega) hb (by decide) ?_; (first | refine pY1 ?_ | refine pY2 ?_)
  obtain ⟨hf, _, _⟩ := whoW_ok hw
  have okX : ∀ v, Wok (dayX v (dayP t1 w)) := fun v => Wok_dayX (Wok_dayP hw)
  have dX : ∀ v, dayX v (dayP t1 w) 0 = w 0 + 1 := fun v => by rw [dayX_0, dayP_hi hw (by omega)]
  refine s6_who (o := 0) (o2 := 0) hw (by omega) (R5_z r5) ⟨11, ?_⟩
  have keyC : ∀ (Q : Int32 → xF → xA → Prop), (∀ E H, side6 F E G H → Q (fbQ b (fbS t0 t1 w (whoW w) 10)) E H) → ∀ (n v : Nat) (s : Int32 × Int32 × Int32 × Int32) (E : xF) (H : xA), v + n = 10 → s = fbS t0 t1 w (whoW w) v → side6 F E G H → qX6_bestFeed_37 Q (n + 1) (nI b) (nI (whoW w)) s.1 s.2.1 s.2.2.1 s.2.2.2 (nI v) E H := by
    intro Q hQ n
    induction n with
    | zero =>
      intro v s E H hv es hs
      obtain rfl : v = 10 := by omega
      exact ⟨fun _ => fb_fin hb (P := fun x => Q x E H) (by rw [es]; exact hQ E H hs), fun c => absurd (show nI 9 < nI 10 from nI_lt (by omega) (by omega)) c⟩
    | succ n ih =>
      intro v s E H hv es hs
      refine ⟨fun c => absurd (show nI 9 < nI v from c) (nI_nlt (by omega) (by omega)), fun _ => ?_⟩
      refine s6_take (o := 14) (p := 0) (o2 := 28) (p2 := 0) (R5_z (R5_side r5 hs)) (by omega) (by omega) (fun E1 H1 rE1 _ _ fE1 fH1 => ?_)
      refine s6_day (o := 14) (o2 := 28) (v := v) hw (by omega) h0 h1 rE1 (Or.inr ⟨nI_nem1 (by omega), by omega, rfl⟩) (fun E2 H2 rE2 _ _ fE2 fH2 => ?_)
      refine s6_go (o := 14) (o2 := 28) (N := 9) (by omega) (okX v) (by rw [dX]; omega) h0 h1 rE2 (fun E3 H3 rE3 _ fE3 fH3 => s6_sum5 (o := 14) (o2 := 28) ?_)
      have hs3 : side6 F E3 G H3 := side6_tr hs (side6_tr (side6_b (by omega) (by omega) fE1 fH1) (side6_tr (side6_b (by omega) (by omega) fE2 fH2) (side6_b (by omega) (by omega) fE3 fH3)))
      have pu : ∀ f, f < 9 → H3 32 f = nI (wF (fbW t0 t1 w v) f 2) := fun f hf => rE3.2.2.2.2.2.1 f hf
      have al : sumN (H3 (28 + 4)) 9 = nI (fbA t0 t1 w v) := by
        rw [show fbA t0 t1 w v = smN (fun g => wF (fbW t0 t1 w v) g 2) 9 from rfl, ← sumN_nI]
        exact sumN_congr (fun g hg => pu g hg)
      rw [al, nI_clamp (show whoW w < 2 ^ 31 by omega), pu _ hf, show nI v + (1 : Int32) = nI (v + 1) from nI_1 v]
      have ih' := ih (v + 1) (fbT (nI v) (nI (wF (fbW t0 t1 w v) (whoW w) 2)) (nI (fbA t0 t1 w v)) s) E3 H3 (by omega) (by rw [es]; rfl) hs3
      refine ⟨xvin hf (by omega), fun c => ?_, fun c => ⟨xvin hf (by omega), ?_⟩⟩
      · rw [fbT_le c] at ih'; dsimp only at ih'; exact ih'
      · rw [fbT_gt c] at ih'; dsimp only at ih'; exact ih'
  have seven : ∀ {Q : Int32 → xF → xA → Prop}, (∀ G3, G3 0 = G' 0 → (∀ k, k = 1 ∨ k = 3 ∨ (10 ≤ k ∧ k < 14) → G3 k = G' k) → Q (fbQ b (fbS t0 t1 w (whoW w) 10)) F' G3) → qX7_bestFeed (nI b) F' G' Q := by
    intro Q hQ
    unfold qX7_bestFeed
    refine s7_inG (l := 0) (n := 2) (by omega) hb (by decide) ?_; (first | refine pY1 ?_ | refine pY2 ?_)
    refine s7_who hw (by omega) r7 (s7_down (fun G1 d1 k1 => ⟨11, ?_⟩))
    have st : ∀ (n v : Nat) (x3 x4 x5 x6 : Int32) (G2 : xA), v + n = 10 → dur7 G' G2 → G2 0 = G' 0 → ((v = 0 ∧ x3 = -1) ∨ (∃ u, v = u + 1) ∧ (x3, x4, x5, x6) = fbS t0 t1 w (whoW w) v) → qX7_bestFeed_38 Q (n + 1) (nI b) (nI (whoW w)) x3 x4 x5 x6 (nI v) F' G2 := by
      intro n
      induction n with
      | zero =>
        intro v x3 x4 x5 x6 G2 hv d2 e2 hx
        obtain rfl : v = 10 := by omega
        rcases hx with ⟨q, _⟩ | ⟨_, q⟩
        · exact absurd q (by decide)
        refine ⟨fun _ => fb_fin hb (s := (x3, x4, x5, x6)) (P := fun x => Q x F' G2) ?_, fun c => absurd (nI_le (a := 10) (b := 10) (Nat.le_refl _) (by decide)) c⟩
        rw [q]
        exact hQ G2 e2 (fun k hk => d2.1 k hk)
      | succ n ih =>
        intro v x3 x4 x5 x6 G2 hv d2 e2 hx
        refine ⟨fun c => absurd (show nI 10 ≤ nI v from c) (nI_ge (by omega) (by omega)), fun _ F48 eF => ?_⟩
        refine s7_day_g (v := v) hw (by omega) h0 h1 (by rw [e2]; exact r7) (Or.inr ⟨by rw [eF, vu_at]; exact nI_nem1 (by omega), by omega, by rw [eF, vu_at]⟩) (fun G3 f3 r3 _ => ?_)
        intro F59 eF2
        have eFF : F59 = F' := by rw [eF2, eF]; exact vu_back h5
        rw [eFF]
        refine s7_go (N := 9) (by omega) (okX v) (by rw [dX]; omega) h0 h1 r3 h5 (fun G4 f4 r4 => s7_allOf (what := 2) (by omega) ?_)
        have d4 : dur7 G' G4 := dur_fr (dur_fr d2 f3) f4
        have al : sumN (fun f => G4 0 (40 + 9 * f + 2)) 9 = nI (fbA t0 t1 w v) := by
          rw [show fbA t0 t1 w v = smN (fun g => wF (fbW t0 t1 w v) g 2) 9 from rfl, ← sumN_nI]
          exact sumN_congr (fun g hg => R7_f r4 hg (by omega))
        rw [al]
        have fin : ∀ (y3 y4 y5 y6 x6' : Int32), ((v = 0 → y6 = nI (fbA t0 t1 w v)) ∧ (v ≠ 0 → y6 = if x6' < nI (fbA t0 t1 w v) then nI (fbA t0 t1 w v) else x6')) → (y3, y4, y5, y6) = fbS t0 t1 w (whoW w) (v + 1) → qX7_bestFeed_111 Q (fun x1 x2 x3 x4 x5 x6 x7 F G => qX7_bestFeed_38 Q (n + 1) x1 x2 x3 x4 x5 x6 x7 F G) (nI b) (nI (whoW w)) y3 y4 y5 x6' (nI v) (nI (fbA t0 t1 w v)) F' G4 := by
          intro y3 y4 y5 y6 x6' hy e
          have back : ∀ z, z = y6 → qX7_layBack F' G4 (fun F133 G133 => qX7_bestFeed_38 Q (n + 1) (nI b) (nI (whoW w)) y3 y4 y5 z (nI v + 1) F133 G133) := fun z ez => s7_back d4 (fun G5 e5 o5 k5 => by
            rw [ez, show nI v + (1 : Int32) = nI (v + 1) from nI_1 v]
            exact ih (v + 1) y3 y4 y5 y6 G5 (by omega) ⟨k5, fun k hk => by rw [o5 2 (by omega)]; exact d4.2.1 k hk, fun j _ => by rw [e5]⟩ e5 (Or.inr ⟨⟨v, rfl⟩, e⟩))
          unfold qX7_bestFeed_111
          refine eq_dec (b := 0) (by omega) (by decide) (fun e0 => back _ (hy.1 e0).symm) (fun e0 => ⟨fun c => back _ ?_, fun c => back _ ?_⟩)
          · rw [hy.2 e0, if_neg (Int32.not_lt.mpr c)]
          · rw [hy.2 e0, if_pos (Int32.not_le.mp c)]
        rcases hx with ⟨q, q3⟩ | ⟨⟨u, hu⟩, q⟩
        · subst q
          refine ⟨fun _ => s7_itsW (i := 2) hf (by omega) r4 (fin _ _ _ (nI (fbA t0 t1 w 0)) _ ⟨fun _ => rfl, fun c => absurd rfl c⟩ (fbS_1 hw hf).symm), fun c => absurd q3 c⟩
        · obtain ⟨j, hj, ej⟩ := fbS_best (t0 := t0) (t1 := t1) hw hf u (by omega)
          rw [← hu, ← q] at ej
          have q1 : x4 = (fbS t0 t1 w (whoW w) v).2.1 := by rw [← q]
          have q0 : x3 = (fbS t0 t1 w (whoW w) v).1 := by rw [← q]
          have q2 : x5 = (fbS t0 t1 w (whoW w) v).2.2.1 := by rw [← q]
          have q3 : x6 = (fbS t0 t1 w (whoW w) v).2.2.2 := by rw [← q]
          have ej : x3 = nI j := ej
          refine ⟨fun c => absurd c (by rw [ej]; exact nI_nem1 (by omega)), fun _ => s7_itsW (i := 2) hf (by omega) r4 ⟨fun c => ?_, fun c => s7_itsW (i := 2) hf (by omega) r4 ?_⟩⟩
          · refine fin x3 x4 x5 _ x6 ⟨fun z => by omega, fun _ => rfl⟩ ?_
            have c' : nI (wF (fbW t0 t1 w v) (whoW w) 2) ≤ (fbS t0 t1 w (whoW w) v).2.1 := by rw [← q1]; exact c
            rw [show fbS t0 t1 w (whoW w) (v + 1) = fbT (nI v) (nI (wF (fbW t0 t1 w v) (whoW w) 2)) (nI (fbA t0 t1 w v)) (fbS t0 t1 w (whoW w) v) from rfl, fbT_le c', q0, q1, q2, q3]
          · refine fin (nI v) _ _ _ x6 ⟨fun z => by omega, fun _ => rfl⟩ ?_
            have c' : ¬ nI (wF (fbW t0 t1 w v) (whoW w) 2) ≤ (fbS t0 t1 w (whoW w) v).2.1 := by rw [← q1]; exact c
            rw [show fbS t0 t1 w (whoW w) (v + 1) = fbT (nI v) (nI (wF (fbW t0 t1 w v) (whoW w) 2)) (nI (fbA t0 t1 w v)) (fbS t0 t1 w (whoW w) v) from rfl, fbT_gt c', q3]; rfl
    exact st 10 0 (-1) 0 0 0 G1 (by omega) d1 (k1 0 (by omega)) (Or.inl ⟨rfl, rfl⟩)
  exact keyC _ (fun E H hs => seven (fun G3 e3 k3 => ⟨rfl, jo_ahead hI hs e3 k3⟩)) 10 0 (0, -1, 0, 0) F G (by omega) rfl side6_rfl
