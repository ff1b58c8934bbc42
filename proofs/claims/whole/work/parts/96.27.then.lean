/-! calls that look ahead: the small ones -/
def side6 (F E : xF) (G H : xA) : Prop := (∀ k, (k < 14 ∨ 28 ≤ k) → E k = F k) ∧ ∀ k, (k < 28 ∨ (56 ≤ k ∧ k ≠ 60 ∧ k ≠ 61)) → H k = G k
theorem side6_rfl {F : xF} {G : xA} : side6 F F G G := ⟨fun _ _ => rfl, fun _ _ => rfl⟩
theorem side6_tr {F E E' : xF} {G H H' : xA} (h : side6 F E G H) (h' : side6 E E' H H') : side6 F E' G H' := ⟨fun k q => by rw [h'.1 k q, h.1 k q], fun k q => by rw [h'.2 k q, h.2 k q]⟩
theorem side6_b {F E : xF} {G H : xA} {o o2 : Nat} (ho : 14 ≤ o ∧ o + 7 ≤ 28) (ho2 : 28 ≤ o2 ∧ o2 + 14 ≤ 56) (hE : ∀ k, (k < o ∨ o + 7 ≤ k) → E k = F k) (hH : ∀ k, (k < o2 ∨ o2 + 14 ≤ k) → H k = G k) : side6 F E G H := ⟨fun k q => hE k (by omega), fun k q => hH k (by omega)⟩
theorem side6_frN {F E : xF} {G H : xA} (h : side6 F E G H) : frN F E G H := ⟨⟨fun k q => h.1 k (by omega), fun k q => h.2 k (by omega)⟩, fun k q => h.1 k (by omega), fun k q => h.2 k (by omega)⟩
theorem jo_ahead {F E F' : xF} {G H G' G2 : xA} (hI : jo_I F G F' G') (hs : side6 F E G H) (e0 : G2 0 = G' 0) (hk : ∀ k, k = 1 ∨ k = 3 ∨ (10 ≤ k ∧ k < 14) → G2 k = G' k) : jo_I E H F' G2 := jo_same hI (side6_frN hs) ⟨⟨rfl, rfl, rfl⟩, fun k q => hk k (by omega)⟩ e0
theorem R5_side {w : wW} {t0 t1 : wT} {F E : xF} {G H : xA} (h : R5 w t0 t1 F G) (hs : side6 F E G H) : R5 w t0 t1 E H := R5_c h (fun k hk _ => hs.1 k (by omega)) (fun k hk => hs.2 k (by omega))
theorem R5_z {w : wW} {t0 t1 : wT} {F : xF} {G : xA} (h : R5 w t0 t1 F G) : R5 w t0 t1 (xsub F 0) (xsub G 0) := by
  rw [xsub_0, xsub_0]; exact h
theorem c_then : oX_then jo_I := by
  intro x1 x2 x3 F G F' G' hI
  obtain ⟨⟨⟨w, t0, t1, hw, hd, h0, h1, r5, r7, hz⟩, _⟩, _, _, _, _, h5⟩ := id hI
  unfold qX6_then
  rcases xrng x1 45 (by decide) with h | ⟨n, hn, rfl⟩
  · refine s6_inG_no (l := 0) (n := 45) h ?_; (first | refine pN1 ?_ | refine pN2 ?_); refine s6_error (k := 1) (by decide) ?_; unfold qX7_then; refine s7_inG_no (l := 0) (n := 45) h ?_; (first | refine pN1 ?_ | refine pN2 ?_); exact c_err (k := 1) (by decide) hI
  refine s6_inG (l := 0) (n := 45) (by omega) hn (by decide) ?_; (first | refine pY1 ?_ | refine pY2 ?_)
  rcases xrng x2 8 (by decide) with h | ⟨f, hf, rfl⟩
  · refine s6_isFarmer_no h ?_; (first | refine pN1 ?_ | refine pN2 ?_); refine s6_error (k := 1) (by decide) ?_; unfold qX7_then; refine s7_inG (l := 0) (n := 45) (by omega) hn (by decide) ?_; (first | refine pY1 ?_ | refine pY2 ?_); refine s7_isFarmer_no h ?_; (first | refine pN1 ?_ | refine pN2 ?_); exact c_err (k := 1) (by decide) hI
  refine s6_isFarmer hf ?_; (first | refine pY1 ?_ | refine pY2 ?_)
  rcases xrng x3 8 (by decide) with h | ⟨i, hi, rfl⟩
  · refine s6_inG_no (l := 0) (n := 8) h ?_; (first | refine pN1 ?_ | refine pN2 ?_); refine s6_error (k := 1) (by decide) ?_; unfold qX7_then; refine s7_inG (l := 0) (n := 45) (by omega) hn (by decide) ?_; (first | refine pY1 ?_ | refine pY2 ?_); refine s7_isFarmer hf ?_; (first | refine pY1 ?_ | refine pY2 ?_); refine s7_inG_no (l := 0) (n := 8) h ?_; (first | refine pN1 ?_ | refine pN2 ?_); exact c_err (k := 1) (by decide) hI
  refine s6_inG (l := 0) (n := 8) (by omega) hi (by decide) ?_; (first | refine pY1 ?_ | refine pY2 ?_)
  refine s6_take (o := 14) (p := 0) (o2 := 28) (p2 := 0) (R5_z r5) (by omega) (by omega) (fun E H rE _ _ fE fH => ?_)
  refine s6_go (o := 14) (o2 := 28) (by omega) hw (by omega) h0 h1 rE (fun E1 H1 rE1 _ fE1 fH1 => s6_of (o := 14) (o2 := 28) (by omega) (by omega) rE1 ?_)
  unfold qX7_then
  refine s7_inG (l := 0) (n := 45) (by omega) hn (by decide) ?_; (first | refine pY1 ?_ | refine pY2 ?_)
  refine s7_isFarmer hf ?_; (first | refine pY1 ?_ | refine pY2 ?_)
  refine s7_inG (l := 0) (n := 8) (by omega) hi (by decide) ?_; (first | refine pY1 ?_ | refine pY2 ?_)
  refine s7_down (fun G1 d1 k1 => s7_go (N := n) (by omega) hw (by omega) h0 h1 (by rw [k1 0 (by omega)]; exact r7) h5 (fun G2 f2 r2 => s7_itsW (by omega) (by omega) r2 (s7_back (dur_fr d1 f2) (fun G3 e3 _ k3 => ⟨rfl, ?_⟩))))
  exact jo_ahead hI (side6_tr (side6_b (by omega) (by omega) fE fH) (side6_b (by omega) (by omega) fE1 fH1)) e3 k3
/-- the oak by what lies under it -/
def riN (w : wW) : Nat → Nat
  | 0 => 0
  | k + 1 => if wD w (k + 1) ≤ wD w (riN w k) then riN w k else k + 1
theorem riN_le (w : wW) : ∀ k, riN w k ≤ k
  | 0 => Nat.le_refl 0
  | k + 1 => by
    have := riN_le w k
    unfold riN
    split <;> omega
theorem s5_rich {w : wW} {F : xF} {G : xA} {Q : Int32 → xF → xA → Prop} (hw : Wok w) (e : ∀ a, a < 16 → G 1 a = nI (wD w a)) (h : Q (nI (riN w 15)) F G) : qX5_richestOak F G Q := by
  have key : ∀ (n k : Nat), k + n = 15 → qX5_richestOak_4 Q (n + 1) (nI (riN w k)) (nI (k + 1)) F G := by
    intro n
    induction n with
    | zero =>
      intro k hk
      obtain rfl : k = 15 := by omega
      exact ⟨fun _ => h, fun c => absurd (nI_le (a := 16) (b := 16) (Nat.le_refl _) (by decide)) c⟩
    | succ n ih =>
      intro k hk
      have hr := riN_le w k
      have b1 := (hw.2.2.2.1 (k + 1) (by omega)).2
      have b2 := (hw.2.2.2.1 (riN w k) (by omega)).2
      rw [qX5_richestOak_4, nI_clamp (show k + 1 < 2 ^ 31 by omega), nI_clamp (show riN w k < 2 ^ 31 by omega), e _ (by omega), e _ (by omega), show nI (k + 1) + (1 : Int32) = nI (k + 1 + 1) from nI_1 _]
      have ih' := ih (k + 1) (by omega)
      unfold riN at ih'
      refine ⟨fun c => absurd (show nI 16 ≤ nI (k + 1) from c) (nI_ge (by omega) (by omega)), fun _ => ⟨xvin (by omega) (by omega), xvin (by omega) (by omega), le_dec (by omega) (by omega) (fun c => ?_) (fun c => ?_)⟩⟩
      · rw [if_pos c] at ih'; exact ih'
      · rw [if_neg (by omega)] at ih'; exact ih'
  exact ⟨16, key 15 0 (by omega)⟩
theorem s7_rich {w : wW} {t0 t1 : wT} {F : xF} {G : xA} {Q : Int32 → xF → xA → Prop} (hw : Wok w) (r : R7 w t0 t1 (G 0)) (h : Q (nI (riN w 15)) F G) : qX7_map F G Q := by
  have key : ∀ (n k : Nat), k + n = 15 → qX7_map_4 Q (n + 1) (nI (riN w k)) (nI (k + 1)) F G := by
    intro n
    induction n with
    | zero =>
      intro k hk
      obtain rfl : k = 15 := by omega
      exact ⟨fun _ => h, fun c => absurd (nI_le (a := 16) (b := 16) (Nat.le_refl _) (by decide)) c⟩
    | succ n ih =>
      intro k hk
      have hr := riN_le w k
      have b1 := (hw.2.2.2.1 (k + 1) (by omega)).2
      have b2 := (hw.2.2.2.1 (riN w k) (by omega)).2
      rw [qX7_map_4, show (24 : Int32) + nI (k + 1) = nI (24 + (k + 1)) from nI_add 24 _, show (24 : Int32) + nI (riN w k) = nI (24 + riN w k) from nI_add 24 _, nI_clamp (show 24 + (k + 1) < 2 ^ 31 by omega), nI_clamp (show 24 + riN w k < 2 ^ 31 by omega), R7_d r (by omega), R7_d r (by omega), show nI (k + 1) + (1 : Int32) = nI (k + 1 + 1) from nI_1 _]
      have ih' := ih (k + 1) (by omega)
      unfold riN at ih'
      refine ⟨fun c => absurd (show nI 16 ≤ nI (k + 1) from c) (nI_ge (by omega) (by omega)), fun _ => ⟨xvin (by omega) (by omega), xvin (by omega) (by omega), le_dec (by omega) (by omega) (fun c => ?_) (fun c => ?_)⟩⟩
      · rw [if_pos c] at ih'; exact ih'
      · rw [if_neg (by omega)] at ih'; exact ih'
  exact ⟨16, key 15 0 (by omega)⟩
theorem s6_rich {w : wW} {o o2 : Nat} {F : xF} {G : xA} {K : Int32 → xF → xA → Prop} (hw : Wok w) (e : ∀ a, a < 16 → G (o2 + 1) a = nI (wD w a)) (h : K (nI (riN w 15)) F G) : qX5_richestOak (xsub F o) (xsub G o2) (fun r1 F1 G1 => ∀ E : xF, E = xspl F o 7 F1 → ∀ H : xA, H = xspl G o2 14 G1 → K r1 E H) := s5_rich hw e (fun E eE H eH => by
  rw [eE, eH, xspl_sub, xspl_sub]; exact h)
theorem c_ahead : oX_ahead jo_I := by
  intro x1 x2 F G F' G' hI
  obtain ⟨⟨⟨w, t0, t1, hw, hd, h0, h1, r5, r7, hz⟩, _⟩, _, _, _, _, h5⟩ := id hI
  unfold qX6_ahead
  rcases xrng x1 45 (by decide) with h | ⟨n, hn, rfl⟩
  · refine s6_inG_no (l := 0) (n := 45) h ?_; (first | refine pN1 ?_ | refine pN2 ?_); refine s6_error (k := 1) (by decide) ?_; unfold qX7_ahead; refine s7_inG_no (l := 0) (n := 45) h ?_; (first | refine pN1 ?_ | refine pN2 ?_); exact c_err (k := 1) (by decide) hI
  refine s6_inG (l := 0) (n := 45) (by omega) hn (by decide) ?_; (first | refine pY1 ?_ | refine pY2 ?_)
  rcases xrng x2 3 (by decide) with h | ⟨b, hb, rfl⟩
  · refine s6_inG_no (l := 0) (n := 3) h ?_; (first | refine pN1 ?_ | refine pN2 ?_); refine s6_error (k := 1) (by decide) ?_; unfold qX7_ahead; refine s7_inG (l := 0) (n := 45) (by omega) hn (by decide) ?_; (first | refine pY1 ?_ | refine pY2 ?_); refine s7_inG_no (l := 0) (n := 3) h ?_; (first | refine pN1 ?_ | refine pN2 ?_); exact c_err (k := 1) (by decide) hI
  refine s6_inG (l := 0) (n := 3) (by omega) hb (by decide) ?_; (first | refine pY1 ?_ | refine pY2 ?_)
  refine s6_take (o := 14) (p := 0) (o2 := 28) (p2 := 0) (R5_z r5) (by omega) (by omega) (fun E H rE _ _ fE fH => ?_)
  refine s6_go (o := 14) (o2 := 28) (by omega) hw (by omega) h0 h1 rE (fun E1 H1 rE1 _ fE1 fH1 => ?_)
  have hs : side6 F E1 G H1 := side6_tr (side6_b (by omega) (by omega) fE fH) (side6_b (by omega) (by omega) fE1 fH1)
  obtain ⟨okn, _⟩ := goW_ok (t0 := t0) (t1 := t1) hw n
  have seven : ∀ {Q : Int32 → xF → xA → Prop} (v : Int32), (b = 0 → v = nI (goW t0 t1 w n 2)) → (b = 1 → v = nI (goW t0 t1 w n 3)) → (b = 2 → v = sumN (fun a => nI (wD (goW t0 t1 w n) a)) 16) → (b = 3 → v = nI (riN (goW t0 t1 w n) 15)) → (∀ G3, G3 0 = G' 0 → (∀ k, k = 1 ∨ k = 3 ∨ (10 ≤ k ∧ k < 14) → G3 k = G' k) → Q v F' G3) → qX7_ahead (nI n) (nI b) F' G' Q := by
    intro Q v q0 q1 q2 q3 hQ
    unfold qX7_ahead
    refine s7_inG (l := 0) (n := 45) (by omega) hn (by decide) ?_; (first | refine pY1 ?_ | refine pY2 ?_)
    refine s7_inG (l := 0) (n := 3) (by omega) hb (by decide) ?_; (first | refine pY1 ?_ | refine pY2 ?_)
    refine s7_down (fun G1 d1 k1 => s7_go (N := n) (by omega) hw (by omega) h0 h1 (by rw [k1 0 (by omega)]; exact r7) h5 (fun G2 f2 r2 => ?_))
    have back : ∀ x : Int32, x = v → qX7_layBack F' G2 (fun F70 G70 => Q x F70 G70) := fun x e => s7_back (dur_fr d1 f2) (fun G3 e3 _ k3 => by rw [e]; exact hQ G3 e3 k3)
    refine le_dec (a := 2) (b := b) (by decide) (by omega) (fun c => eq_dec' (b := 2) (by omega) (by decide) (fun e => ?_) (fun e => ?_)) (fun c => ⟨?_, ?_⟩)
    · refine s7_allUnder (back _ ?_)
      rw [q2 e]
      exact sumN_congr (fun a ha => R7_d r2 ha)
    · exact s7_rich okn r2 (back _ (q3 (by omega)).symm)
    · rw [show (2 : Int32) + nI b = nI (2 + b) from nI_add 2 b]; exact xvin (by omega) (by omega)
    · rw [show (2 : Int32) + nI b = nI (2 + b) from nI_add 2 b, nI_clamp (by omega)]
      refine back _ ?_
      rcases (by omega : b = 0 ∨ b = 1) with rfl | rfl
      · rw [q0 rfl]; exact r2.1 2 (by omega) (by omega)
      · rw [q1 rfl]; exact r2.1 3 (by omega) (by omega)
  rcases (by omega : b = 0 ∨ b = 1 ∨ b = 2 ∨ b = 3) with rfl | rfl | rfl | rfl
  · refine ⟨fun _ => seven _ (fun _ => rE1.1.2.1) (fun c => absurd c (by decide)) (fun c => absurd c (by decide)) (fun c => absurd c (by decide)) (fun G3 e3 k3 => ⟨rfl, jo_ahead hI hs e3 k3⟩), fun c => absurd rfl c⟩
  · refine ⟨fun c => absurd c (by decide), fun _ => ⟨fun _ => seven _ (fun c => absurd c (by decide)) (fun _ => rE1.1.2.2.1) (fun c => absurd c (by decide)) (fun c => absurd c (by decide)) (fun G3 e3 k3 => ⟨rfl, jo_ahead hI hs e3 k3⟩), fun c => absurd rfl c⟩⟩
  · refine ⟨fun c => absurd c (by decide), fun _ => ⟨fun c => absurd c (by decide), fun _ => ⟨fun _ => s6_sum2 (o := 14) (o2 := 28) ?_, fun c => absurd rfl c⟩⟩⟩
    exact seven _ (fun c => absurd c (by decide)) (fun c => absurd c (by decide)) (fun _ => sumN_congr (fun a ha => rE1.2.2.1 a ha)) (fun c => absurd c (by decide)) (fun G3 e3 k3 => ⟨rfl, jo_ahead hI hs e3 k3⟩)
  · refine ⟨fun c => absurd c (by decide), fun _ => ⟨fun c => absurd c (by decide), fun _ => ⟨fun c => absurd c (by decide), fun _ => s6_rich (o := 14) (o2 := 28) okn (fun a ha => rE1.2.2.1 a ha) ?_⟩⟩⟩
    exact seven _ (fun c => absurd c (by decide)) (fun c => absurd c (by decide)) (fun c => absurd c (by decide)) (fun _ => rfl) (fun G3 e3 k3 => ⟨rfl, jo_ahead hI hs e3 k3⟩)
theorem fr7_tp {x : Int32} {g s s1 : Nat → Int32} (h : jo_tp x g s) (f : ∀ j, ((4 ≤ j ∧ j < 8) ∨ 121 ≤ j) → s1 j = s j) : jo_tp x g s1 := by
  obtain ⟨n, a, b, c, d⟩ := h
  exact ⟨n, a, b, by rw [f 4 (by omega)]; exact c, fun i hi => by rw [f (371 + i) (by omega)]; exact d i hi⟩
theorem c_days : oX_days jo_I := by
  intro x1 F G F' G' hI
  obtain ⟨⟨⟨w, t0, t1, hw, hd, h0, h1, r5, r7, hz⟩, _⟩, _, _, _, _, h5⟩ := id hI
  unfold qX6_days
  rcases xrng1 x1 1 45 (by decide) (by decide) with h | ⟨n, hl, hn, rfl⟩
  · refine s6_inG_no (l := 1) (n := 45) h ?_; (first | refine pN1 ?_ | refine pN2 ?_); refine s6_error (k := 1) (by decide) ?_; unfold qX7_days qX7_whyNotDays; refine s7_inG_no (l := 1) (n := 45) h ?_; (first | refine pN1 ?_ | refine pN2 ?_); refine ⟨fun c => absurd c (by decide), fun _ => ?_⟩; exact c_err (k := 1) (by decide) hI
  refine s6_inG (l := 1) (n := 45) hl hn (by decide) ?_; (first | refine pY1 ?_ | refine pY2 ?_)
  rw [r5.1.2.2.2, nI_add]
  have e0 : G' 0 0 = nI (w 0) := r7.1 0 (by omega) (by omega)
  refine le_dec (b := 9999) (by omega) (by decide) (fun c => ?_) (fun c => ?_)
  · refine s6_go (o := 0) (o2 := 0) (by omega) hw (by omega) h0 h1 (R5_z r5) (fun E H rE zE fE fH => ?_)
    rw [xsub_0, xsub_0] at rE
    unfold qX7_days qX7_whyNotDays
    refine s7_inG (l := 1) (n := 45) hl hn (by decide) ?_; (first | refine pY1 ?_ | refine pY2 ?_)
    rw [e0, nI_add]
    refine le_dec (b := 9999) (by omega) (by decide) (fun _ => ⟨fun _ => ?_, fun q => absurd (by decide) q⟩) (fun q => absurd q (by omega))
    refine s7_go (N := n) (by omega) hw (by omega) h0 h1 r7 h5 (fun G2 f2 r2 => ⟨rfl, ?_⟩)
    obtain ⟨okn, zn⟩ := goW_ok (t0 := t0) (t1 := t1) hw n
    exact jo_now hI ⟨⟨fun k q => fE k (by omega), fun k q => fH k (by omega)⟩, ⟨fE 29 (by omega), fE 30 (by omega), by simpa using zE⟩, fH 56 (by omega), fH 57 (by omega)⟩ f2 okn (by rw [zn]; exact c) h0 h1 rE r2
  · refine s6_error (k := 3) (by decide) ?_; unfold qX7_days qX7_whyNotDays; refine s7_inG (l := 1) (n := 45) hl hn (by decide) ?_; (first | refine pY1 ?_ | refine pY2 ?_); rw [e0, nI_add]; refine le_dec (b := 9999) (by omega) (by decide) (fun q => absurd q (by omega)) (fun _ => ⟨fun q => absurd q (by decide), fun _ => ?_⟩); exact c_err (k := 3) (by decide) hI
