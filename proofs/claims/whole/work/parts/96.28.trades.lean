/-! calls that look ahead: trades, feeds, shares -/
theorem s7_behind_9 {w : wW} {t0 t1 : wT} {F : xF} {G : xA} {Q : xF → xA → Prop} (hw : Wok w) (hd : w 0 < 2 ^ 29) (h0 : wTx t0) (h1 : wTx t1) (r7 : R7 w t0 t1 (G 0)) (h5 : F 5 = -1) (h : ∀ G2, G2 0 = G 0 → (∀ k, k = 1 ∨ k = 3 ∨ (10 ≤ k ∧ k < 14) → G2 k = G k) → (∀ f, f < 9 → G2 8 f = nI (wF (goW t0 t1 w 18) f 2)) → G2 9 = G 9 → Q F G2) : qX7_behind_9 F G Q := by
  unfold qX7_behind_9
  refine s7_down (fun G1 d1 k1 => s7_go (N := 18) (by omega) hw (by omega) h0 h1 (by rw [k1 0 (by omega)]; exact r7) h5 (fun G2 f2 r2 => ?_))
  have key : ∀ (n k : Nat) (G3 : xA), k + n = 9 → (∀ j, j ≠ 8 → G3 j = G2 j) → (∀ f, f < k → G3 8 f = nI (wF (goW t0 t1 w 18) f 2)) → qX7_behind_9_13 Q (n + 1) (nI k) F G3 := by
    intro n
    induction n with
    | zero =>
      intro k G3 hk h3 p3
      obtain rfl : k = 9 := by omega
      refine ⟨fun _ => s7_back (dur_ne (dur_fr d1 f2) (fun j q => h3 j (by omega))) (fun G4 e4 o4 k4 => h G4 e4 k4 (fun f hf => by rw [o4 8 (by omega)]; exact p3 f hf) (by rw [o4 9 (by omega), h3 9 (by omega), f2.1 9 (by omega) (by omega) (by omega) (by omega), k1 9 (by omega)])), fun c => absurd (nI_le (a := 9) (b := 9) (Nat.le_refl _) (by decide)) c⟩
    | succ n ih =>
      intro k G3 hk h3 p3
      refine ⟨fun c => absurd (show nI 9 ≤ nI k from c) (nI_ge (by omega) (by omega)), fun _ => s7_itsW (i := 2) (by omega) (by omega) (by rw [h3 0 (by omega)]; exact r2) ⟨xvin (by omega) (by omega), fun G4 e4 => ?_⟩⟩
      rw [nI_clamp (show k < 2 ^ 31 by omega)] at e4
      rw [show nI k + (1 : Int32) = nI (k + 1) from nI_1 k]
      refine ih (k + 1) G4 (by omega) (fun j hj => by rw [e4, xst_ne hj, h3 j hj]) (fun f hf => ?_)
      rw [e4, xst_at]
      by_cases c : f = k
      · subst c; rw [upd_at]
      · rw [upd_ne c]; exact p3 f (by omega)
  exact ⟨10, key 9 0 G2 (by omega) (fun _ _ => rfl) (fun f hf => by omega)⟩
theorem s7_behind_10 {w : wW} {t0 t1 : wT} {F : xF} {G : xA} {Q : xF → xA → Prop} (hw : Wok w) (hd : w 0 < 2 ^ 29) (h0 : wTx t0) (h1 : wTx t1) (r7 : R7 w t0 t1 (G 0)) (h5 : F 5 = -1) (h : ∀ G2, G2 0 = G 0 → (∀ k, k = 1 ∨ k = 3 ∨ (10 ≤ k ∧ k < 14) → G2 k = G k) → (∀ f, f < 9 → G2 9 f = nI (wF (goW t0 t1 w 18) f 2)) → G2 8 = G 8 → Q F G2) : qX7_behind_10 F G Q := by
  unfold qX7_behind_10
  refine s7_down (fun G1 d1 k1 => s7_go (N := 18) (by omega) hw (by omega) h0 h1 (by rw [k1 0 (by omega)]; exact r7) h5 (fun G2 f2 r2 => ?_))
  have key : ∀ (n k : Nat) (G3 : xA), k + n = 9 → (∀ j, j ≠ 9 → G3 j = G2 j) → (∀ f, f < k → G3 9 f = nI (wF (goW t0 t1 w 18) f 2)) → qX7_behind_10_13 Q (n + 1) (nI k) F G3 := by
    intro n
    induction n with
    | zero =>
      intro k G3 hk h3 p3
      obtain rfl : k = 9 := by omega
      refine ⟨fun _ => s7_back (dur_ne (dur_fr d1 f2) (fun j q => h3 j (by omega))) (fun G4 e4 o4 k4 => h G4 e4 k4 (fun f hf => by rw [o4 9 (by omega)]; exact p3 f hf) (by rw [o4 8 (by omega), h3 8 (by omega), f2.1 8 (by omega) (by omega) (by omega) (by omega), k1 8 (by omega)])), fun c => absurd (nI_le (a := 9) (b := 9) (Nat.le_refl _) (by decide)) c⟩
    | succ n ih =>
      intro k G3 hk h3 p3
      refine ⟨fun c => absurd (show nI 9 ≤ nI k from c) (nI_ge (by omega) (by omega)), fun _ => s7_itsW (i := 2) (by omega) (by omega) (by rw [h3 0 (by omega)]; exact r2) ⟨xvin (by omega) (by omega), fun G4 e4 => ?_⟩⟩
      rw [nI_clamp (show k < 2 ^ 31 by omega)] at e4
      rw [show nI k + (1 : Int32) = nI (k + 1) from nI_1 k]
      refine ih (k + 1) G4 (by omega) (fun j hj => by rw [e4, xst_ne hj, h3 j hj]) (fun f hf => ?_)
      rw [e4, xst_at]
      by_cases c : f = k
      · subst c; rw [upd_at]
      · rw [upd_ne c]; exact p3 f (by omega)
  exact ⟨10, key 9 0 G2 (by omega) (fun _ _ => rfl) (fun f hf => by omega)⟩
theorem s7_behindTrade {w : wW} {t0 t1 : wT} {F : xF} {G : xA} {Q : xF → xA → Prop} {a b : Nat} (hw : Wok w) (hd : w 0 < 2 ^ 29) (h0 : wTx t0) (h1 : wTx t1) (r7 : R7 w t0 t1 (G 0)) (h5 : F 5 = -1) (ha : a < 9) (hb : b < 9) (h : ∀ G2, G2 0 = G 0 → (∀ k, k = 1 ∨ k = 3 ∨ (10 ≤ k ∧ k < 14) → G2 k = G k) → (∀ f, f < 9 → G2 9 f = nI (wF (goW t0 t1 (swW w a b) 18) f 2)) → G2 8 = G 8 → Q F G2) : qX7_behindTrade (nI a) (nI b) F G Q := by
  unfold qX7_behindTrade
  refine s7_trades r7 ha hb (fun G1 q1 e1 k1 => s7_behind_10 (Wok_swW ha hb hw) (by rw [swW_ne (by omega)]; exact hd) h0 h1 q1 h5 (fun G2 e2 k2 p2 z2 => s7_trades (w := swW w a b) (t0 := t0) (t1 := t1) (by rw [e2]; exact q1) ha hb (fun G3 q3 e3 k3 => h G3 ?_ (fun k hk => by rw [k3 k (by omega), k2 k hk, k1 k (by omega)]) (fun f hf => by rw [k3 9 (by omega)]; exact p2 f hf) (by rw [k3 8 (by omega), z2, k1 8 (by omega)]))))
  rw [e3, e2, e1]
  funext j
  by_cases c : j = 40 + 9 * b + 4
  · subst c
    rw [upd_at]
    by_cases d : a = b
    · subst d; rw [upd_at]
    · rw [upd_ne (by omega), upd_at]
  · rw [upd_ne c]
    by_cases d : j = 40 + 9 * a + 4
    · subst d
      rw [upd_at, upd_at]
    · rw [upd_ne d, upd_ne c, upd_ne d]
theorem c_gain : oX_gain jo_I := by
  intro x1 x2 F G F' G' hI
  obtain ⟨⟨⟨w, t0, t1, hw, hd, h0, h1, r5, r7, hz⟩, _⟩, _, _, _, _, h5⟩ := id hI
  unfold qX6_gain
  rcases xrng x1 8 (by decide) with h | ⟨a, ha, rfl⟩
  · refine s6_isFarmer_no h ?_; (first | refine pN1 ?_ | refine pN2 ?_); refine s6_error (k := 1) (by decide) ?_; unfold qX7_gain; refine s7_isFarmer_no h ?_; (first | refine pN1 ?_ | refine pN2 ?_); exact c_err (k := 1) (by decide) hI
  refine s6_isFarmer ha ?_; (first | refine pY1 ?_ | refine pY2 ?_)
  rcases xrng x2 8 (by decide) with h | ⟨b, hb, rfl⟩
  · refine s6_isFarmer_no h ?_; (first | refine pN1 ?_ | refine pN2 ?_); refine s6_error (k := 1) (by decide) ?_; unfold qX7_gain; refine s7_isFarmer ha ?_; (first | refine pY1 ?_ | refine pY2 ?_); refine s7_isFarmer_no h ?_; (first | refine pN1 ?_ | refine pN2 ?_); exact c_err (k := 1) (by decide) hI
  refine s6_isFarmer hb ?_; (first | refine pY1 ?_ | refine pY2 ?_)
  refine eq_dec' (by omega) (by omega) (fun e => ?_) (fun ne => ?_)
  · refine s6_error (k := 1) (by decide) ?_; unfold qX7_gain; refine s7_isFarmer ha ?_; (first | refine pY1 ?_ | refine pY2 ?_); refine s7_isFarmer hb ?_; (first | refine pY1 ?_ | refine pY2 ?_); refine eq_dec' (by omega) (by omega) (fun _ => ?_) (fun q => absurd e q); exact c_err (k := 1) (by decide) hI
  refine s6_take (o := 14) (p := 0) (o2 := 28) (p2 := 0) (R5_z r5) (by omega) (by omega) (fun E H rE _ _ fE fH => ?_)
  refine s6_go (o := 14) (o2 := 28) (N := 18) (by omega) hw (by omega) h0 h1 rE (fun E1 H1 rE1 _ fE1 fH1 => ?_)
  have hs1 : side6 F E1 G H1 := side6_tr (side6_b (by omega) (by omega) fE fH) (side6_b (by omega) (by omega) fE1 fH1)
  refine s6_take (o := 21) (p := 0) (o2 := 42) (p2 := 0) (R5_z (R5_side r5 hs1)) (by omega) (by omega) (fun E2 H2 rE2 _ _ fE2 fH2 => ?_)
  refine s5_changeTurns rE2 (by omega) (by omega) (fun G3 q3 k3 E3 eE3 H3 eH3 => ?_)
  have r3 : R5 (swW w a b) t0 t1 (xsub E3 21) (xsub H3 42) := by rw [eE3, eH3]; exact R5_blk q3
  refine s6_go (o := 21) (o2 := 42) (N := 18) (by omega) (Wok_swW (by omega) (by omega) hw) (by rw [swW_ne (by omega)]; omega) h0 h1 r3 (fun E4 H4 r4 _ fE4 fH4 => ?_)
  have fE3 : ∀ k, (k < 21 ∨ 21 + 7 ≤ k) → E3 k = E2 k := fun k q => by rw [eE3, xspl_out q]
  have fH3 : ∀ k, (k < 42 ∨ 42 + 14 ≤ k) → H3 k = H2 k := fun k q => by rw [eH3, xspl_out q]
  have hs : side6 F E4 G H4 := side6_tr hs1 (side6_tr (side6_b (by omega) (by omega) fE2 fH2) (side6_tr (side6_b (by omega) (by omega) fE3 fH3) (side6_b (by omega) (by omega) fE4 fH4)))
  have p1 : H4 32 = H1 32 := by rw [fH4 32 (by omega), fH3 32 (by omega), fH2 32 (by omega)]
  rw [nI_clamp (show a < 2 ^ 31 by omega), p1, show H4 46 a = nI (wF (goW t0 t1 (swW w a b) 18) a 2) from r4.2.2.2.2.2.1 a (by omega), show H1 32 a = nI (wF (goW t0 t1 w 18) a 2) from rE1.2.2.2.2.2.1 a (by omega)]
  refine ⟨xvin (by omega) (by omega), xvin (by omega) (by omega), ?_⟩
  unfold qX7_gain
  refine s7_isFarmer ha ?_; (first | refine pY1 ?_ | refine pY2 ?_)
  refine s7_isFarmer hb ?_; (first | refine pY1 ?_ | refine pY2 ?_)
  refine eq_dec' (by omega) (by omega) (fun q => absurd q ne) (fun _ => s7_behind_9 hw (by omega) h0 h1 r7 h5 (fun G5 e5 k5 p5 _ => s7_behindTrade hw (by omega) h0 h1 (by rw [e5]; exact r7) h5 (by omega) (by omega) (fun G6 e6 k6 p6 z6 => ⟨xvin (by omega) (by omega), xvin (by omega) (by omega), ?_, ?_⟩)))
  · rw [nI_clamp (show a < 2 ^ 31 by omega), p6 a (by omega), z6, p5 a (by omega)]
  · exact jo_ahead hI hs (by rw [e6, e5]) (fun k hk => by rw [k6 k hk, k5 k hk])
/-! the best trade -/
def trG (t0 t1 : wT) (w : wW) (a b f : Nat) : Int32 := nI (wF (goW t0 t1 (swW w a b) 18) f 2) - nI (wF (goW t0 t1 w 18) f 2)
def trP (t0 t1 : wT) (w : wW) (a b : Nat) (st : Int32 × Int32) : Int32 × Int32 := if trG t0 t1 w a b a ≤ 0 then st else if trG t0 t1 w a b b ≤ 0 then st else if trG t0 t1 w a b a + trG t0 t1 w a b b ≤ st.2 then st else (nI (10 * a + b), trG t0 t1 w a b a + trG t0 t1 w a b b)
def trA (t0 t1 : wT) (w : wW) (a : Nat) : Nat → Nat → Int32 × Int32 → Int32 × Int32
  | 0, _, st => st
  | n + 1, b, st => trA t0 t1 w a n (b + 1) (trP t0 t1 w a b st)
def trB (t0 t1 : wT) (w : wW) : Nat → Nat → Int32 × Int32 → Int32 × Int32
  | 0, _, st => st
  | n + 1, a, st => trB t0 t1 w n (a + 1) (trA t0 t1 w a (8 - a) (a + 1) st)
def trOk (st : Int32 × Int32) : Prop := st.1 = -1 ∨ ∃ j, j < 2 ^ 30 ∧ st.1 = nI j
theorem trP_ok {t0 t1 : wT} {w : wW} {a b : Nat} {st : Int32 × Int32} (ha : a < 9) (hb : b < 9) (h : trOk st) : trOk (trP t0 t1 w a b st) := by
  unfold trP
  split
  · exact h
  · split
    · exact h
    · split
      · exact h
      · exact Or.inr ⟨10 * a + b, by omega, rfl⟩
theorem trA_ok {t0 t1 : wT} {w : wW} {a : Nat} (ha : a < 9) : ∀ (n b : Nat) (st : Int32 × Int32), b + n ≤ 9 → trOk st → trOk (trA t0 t1 w a n b st)
  | 0, _, _, _, h => h
  | n + 1, b, st, hb, h => trA_ok ha n (b + 1) _ (by omega) (trP_ok ha (by omega) h)
theorem trB_ok {t0 t1 : wT} {w : wW} : ∀ (n a : Nat) (st : Int32 × Int32), a + n ≤ 9 → trOk st → trOk (trB t0 t1 w n a st)
  | 0, _, _, _, h => h
  | n + 1, a, st, ha, h => trB_ok n (a + 1) _ (by omega) (trA_ok (by omega) (8 - a) (a + 1) st (by omega) h)
theorem trP_goal {t0 t1 : wT} {w : wW} {a b : Nat} {x1 x2 : Int32} {g1 g2 : Int32} (e1 : g1 = trG t0 t1 w a b a) (e2 : g2 = trG t0 t1 w a b b) {A B C D : Prop} {P : Int32 × Int32 → Prop} (h : P (trP t0 t1 w a b (x1, x2))) (hA : P (x1, x2) → A) (hB : P (x1, x2) → B) (hC : P (x1, x2) → C) (hD : P (nI (10 * a + b), g1 + g2) → D) : ((g1 ≤ 0 → A) ∧ (¬ g1 ≤ 0 → ((g2 ≤ 0 → B) ∧ (¬ g2 ≤ 0 → ((g1 + g2 ≤ x2 → C) ∧ (¬ g1 + g2 ≤ x2 → D)))))) := by
  unfold trP at h
  rw [← e1, ← e2] at h
  refine ⟨fun c => hA ?_, fun c => ⟨fun d => hB ?_, fun d => ⟨fun e => hC ?_, fun e => hD ?_⟩⟩⟩
  · rw [if_pos c] at h; exact h
  · rw [if_neg c, if_pos d] at h; exact h
  · rw [if_neg c, if_neg d, if_pos e] at h; exact h
  · rw [if_neg c, if_neg d, if_neg e] at h; exact h
theorem i10m {a b : Nat} : (10 : Int32) * nI a + nI b = nI (10 * a + b) := by
  rw [show (10 : Int32) = nI 10 from rfl, pk_mul, nI_add]
theorem c_bestTrade : oX_bestTrade jo_I := by
  intro F G F' G' hI
  obtain ⟨⟨⟨w, t0, t1, hw, hd, h0, h1, r5, r7, hz⟩, _⟩, _, _, _, _, h5⟩ := id hI
  unfold qX6_bestTrade
  refine s6_take (o := 14) (p := 0) (o2 := 28) (p2 := 0) (R5_z r5) (by omega) (by omega) (fun E H rE _ _ fE fH => ?_)
  refine s6_go (o := 14) (o2 := 28) (N := 18) (by omega) hw (by omega) h0 h1 rE (fun E1 H1 rE1 _ fE1 fH1 => ?_)
  have hs1 : side6 F E1 G H1 := side6_tr (side6_b (by omega) (by omega) fE fH) (side6_b (by omega) (by omega) fE1 fH1)
  have pl : ∀ f, f < 9 → H1 32 f = nI (wF (goW t0 t1 w 18) f 2) := fun f hf => rE1.2.2.2.2.2.1 f hf
  -- the reference, whatever the class does
  have seven : ∀ {Q : Int32 → xF → xA → Prop}, (∀ G3, G3 0 = G' 0 → (∀ k, k = 1 ∨ k = 3 ∨ (10 ≤ k ∧ k < 14) → G3 k = G' k) → ((¬ (trB t0 t1 w 9 0 (-1, 0)).1 = -1 → Q (trB t0 t1 w 9 0 (-1, 0)).1 F' G3) ∧ ((trB t0 t1 w 9 0 (-1, 0)).1 = -1 → qX7_error (2 : Int32) F' G3 Q))) → qX7_bestTrade F' G' Q := by
    intro Q hQ
    unfold qX7_bestTrade
    refine s7_behind_9 hw (by omega) h0 h1 r7 h5 (fun G5 e5 k5 p5 _ => ⟨10, ?_⟩)
    have inner : ∀ (K : Int32 → Int32 → Int32 → xF → xA → Prop) (a : Nat), a < 9 → ∀ (n b : Nat) (st : Int32 × Int32) (G6 : xA), b + n = 9 → G6 0 = G' 0 → (∀ k, k = 1 ∨ k = 3 ∨ (10 ≤ k ∧ k < 14) → G6 k = G' k) → G6 8 = G5 8 → (∀ G7, G7 0 = G' 0 → (∀ k, k = 1 ∨ k = 3 ∨ (10 ≤ k ∧ k < 14) → G7 k = G' k) → G7 8 = G5 8 → K (trA t0 t1 w a n b st).1 (trA t0 t1 w a n b st).2 (nI (a + 1)) F' G7) → qX7_bestTrade_25 Q K (n + 1) st.1 st.2 (nI a) (nI b) F' G6 := by
      intro K a ha n
      induction n with
      | zero =>
        intro b st G6 hb e6 k6 z6 hK
        obtain rfl : b = 9 := by omega
        exact ⟨fun _ => by rw [show nI a + (1 : Int32) = nI (a + 1) from nI_1 a]; exact hK G6 e6 k6 z6, fun c => absurd (nI_le (a := 9) (b := 9) (Nat.le_refl _) (by decide)) c⟩
      | succ n ih =>
        intro b st G6 hb e6 k6 z6 hK
        refine ⟨fun c => absurd (show nI 9 ≤ nI b from c) (nI_ge (by omega) (by omega)), fun _ => s7_behindTrade hw (by omega) h0 h1 (by rw [e6]; exact r7) h5 ha (by omega) (fun G7 e7 k7 p7 z7 => ?_)⟩
        rw [nI_clamp (show a < 2 ^ 31 by omega), nI_clamp (show b < 2 ^ 31 by omega), p7 a ha, p7 b (by omega), z7, z6, p5 a ha, p5 b (by omega), show nI b + (1 : Int32) = nI (b + 1) from nI_1 b, i10m]
        refine ⟨xvin (by omega) (by omega), xvin (by omega) (by omega), xvin (by omega) (by omega), xvin (by omega) (by omega), ?_⟩
        have next : ∀ st', trP t0 t1 w a b st = st' → qX7_bestTrade_25 Q K (n + 1) st'.1 st'.2 (nI a) (nI (b + 1)) F' G7 := fun st' e => ih (b + 1) st' G7 (by omega) (by rw [e7, e6]) (fun k hk => by rw [k7 k hk, k6 k hk]) (by rw [z7, z6]) (fun G8 e8 k8 z8 => by rw [← e]; exact hK G8 e8 k8 z8)
        exact trP_goal (P := fun st' => qX7_bestTrade_25 Q K (n + 1) st'.1 st'.2 (nI a) (nI (b + 1)) F' G7) rfl rfl (next _ rfl) id id id id
    have outer : ∀ (n a : Nat) (st : Int32 × Int32) (G6 : xA), a + n = 9 → G6 0 = G' 0 → (∀ k, k = 1 ∨ k = 3 ∨ (10 ≤ k ∧ k < 14) → G6 k = G' k) → G6 8 = G5 8 → trB t0 t1 w n a st = trB t0 t1 w 9 0 (-1, 0) → qX7_bestTrade_14 Q (n + 1) st.1 st.2 (nI a) F' G6 := by
      intro n
      induction n with
      | zero =>
        intro a st G6 ha e6 k6 z6 hst
        obtain rfl : a = 9 := by omega
        have : st = trB t0 t1 w 9 0 (-1, 0) := hst
        refine ⟨fun _ => ?_, fun c => absurd (nI_le (a := 9) (b := 9) (Nat.le_refl _) (by decide)) c⟩
        rw [this]
        exact hQ G6 e6 k6
      | succ n ih =>
        intro a st G6 ha e6 k6 z6 hst
        refine ⟨fun c => absurd (show nI 9 ≤ nI a from c) (nI_ge (by omega) (by omega)), fun _ => ⟨8 - a + 1, ?_⟩⟩
        rw [show nI a + (1 : Int32) = nI (a + 1) from nI_1 a]
        exact inner _ a (by omega) (8 - a) (a + 1) st G6 (by omega) e6 k6 z6 (fun G7 e7 k7 z7 => ih (a + 1) _ G7 (by omega) e7 k7 z7 hst)
    exact outer 9 0 (-1, 0) G5 (by omega) e5 k5 rfl rfl
  have innerC : ∀ (Q : Int32 → xF → xA → Prop) (K : Int32 → Int32 → Int32 → xF → xA → Prop) (a : Nat), a < 9 → ∀ (n b : Nat) (st : Int32 × Int32) (E6 : xF) (H6 : xA), b + n = 9 → side6 F E6 G H6 → H6 32 = H1 32 → (∀ E7 H7, side6 F E7 G H7 → H7 32 = H1 32 → K (trA t0 t1 w a n b st).1 (trA t0 t1 w a n b st).2 (nI (a + 1)) E7 H7) → qX6_bestTrade_38 Q K (n + 1) st.1 st.2 (nI a) (nI b) E6 H6 := by
    intro Q K a ha n
    induction n with
    | zero =>
      intro b st E6 H6 hb hs z6 hK
      obtain rfl : b = 9 := by omega
      exact ⟨fun _ => by rw [show nI a + (1 : Int32) = nI (a + 1) from nI_1 a]; exact hK E6 H6 hs z6, fun c => absurd (nI_le (a := 9) (b := 9) (Nat.le_refl _) (by decide)) c⟩
    | succ n ih =>
      intro b st E6 H6 hb hs z6 hK
      refine ⟨fun c => absurd (show nI 9 ≤ nI b from c) (nI_ge (by omega) (by omega)), fun _ => ?_⟩
      refine s6_take (o := 21) (p := 0) (o2 := 42) (p2 := 0) (R5_z (R5_side r5 hs)) (by omega) (by omega) (fun E2 H2 rE2 _ _ fE2 fH2 => ?_)
      refine s5_changeTurns rE2 ha (by omega) (fun G3 q3 k3 E3 eE3 H3 eH3 => ?_)
      have r3 : R5 (swW w a b) t0 t1 (xsub E3 21) (xsub H3 42) := by rw [eE3, eH3]; exact R5_blk q3
      refine s6_go (o := 21) (o2 := 42) (N := 18) (by omega) (Wok_swW ha (by omega) hw) (by rw [swW_ne (by omega)]; omega) h0 h1 r3 (fun E4 H4 r4 _ fE4 fH4 => ?_)
      have fE3 : ∀ k, (k < 21 ∨ 21 + 7 ≤ k) → E3 k = E2 k := fun k q => by rw [eE3, xspl_out q]
      have fH3 : ∀ k, (k < 42 ∨ 42 + 14 ≤ k) → H3 k = H2 k := fun k q => by rw [eH3, xspl_out q]
      have hs4 : side6 F E4 G H4 := side6_tr hs (side6_tr (side6_b (by omega) (by omega) fE2 fH2) (side6_tr (side6_b (by omega) (by omega) fE3 fH3) (side6_b (by omega) (by omega) fE4 fH4)))
      have p1 : H4 32 = H1 32 := by rw [fH4 32 (by omega), fH3 32 (by omega), fH2 32 (by omega), z6]
      have p4 : ∀ f, f < 9 → H4 46 f = nI (wF (goW t0 t1 (swW w a b) 18) f 2) := fun f hf => r4.2.2.2.2.2.1 f hf
      rw [nI_clamp (show a < 2 ^ 31 by omega), nI_clamp (show b < 2 ^ 31 by omega), p1, p4 a ha, p4 b (by omega), pl a ha, pl b (by omega), show nI b + (1 : Int32) = nI (b + 1) from nI_1 b, i10m]
      refine ⟨xvin (by omega) (by omega), xvin (by omega) (by omega), xvin (by omega) (by omega), xvin (by omega) (by omega), ?_⟩
      have next : ∀ st', trP t0 t1 w a b st = st' → qX6_bestTrade_38 Q K (n + 1) st'.1 st'.2 (nI a) (nI (b + 1)) E4 H4 := fun st' e => ih (b + 1) st' E4 H4 (by omega) hs4 p1 (fun E8 H8 s8 z8 => by rw [← e]; exact hK E8 H8 s8 z8)
      exact trP_goal (P := fun st' => qX6_bestTrade_38 Q K (n + 1) st'.1 st'.2 (nI a) (nI (b + 1)) E4 H4) rfl rfl (next _ rfl) id id id id
  refine ⟨10, ?_⟩
  have outerC : ∀ (Q : Int32 → xF → xA → Prop), (∀ E6 H6, side6 F E6 G H6 → ((0 ≤ (trB t0 t1 w 9 0 (-1, 0)).1 → Q (trB t0 t1 w 9 0 (-1, 0)).1 E6 H6) ∧ (¬ 0 ≤ (trB t0 t1 w 9 0 (-1, 0)).1 → qX6_error (2 : Int32) E6 H6 Q))) → ∀ (n a : Nat) (st : Int32 × Int32) (E6 : xF) (H6 : xA), a + n = 9 → side6 F E6 G H6 → H6 32 = H1 32 → trB t0 t1 w n a st = trB t0 t1 w 9 0 (-1, 0) → qX6_bestTrade_27 Q (n + 1) st.1 st.2 (nI a) E6 H6 := by
    intro Q hQ n
    induction n with
    | zero =>
      intro a st E6 H6 ha hs z6 hst
      obtain rfl : a = 9 := by omega
      have : st = trB t0 t1 w 9 0 (-1, 0) := hst
      refine ⟨fun _ => ?_, fun c => absurd (nI_le (a := 9) (b := 9) (Nat.le_refl _) (by decide)) c⟩
      rw [this]
      exact hQ E6 H6 hs
    | succ n ih =>
      intro a st E6 H6 ha hs z6 hst
      refine ⟨fun c => absurd (show nI 9 ≤ nI a from c) (nI_ge (by omega) (by omega)), fun _ => ⟨8 - a + 1, ?_⟩⟩
      rw [show nI a + (1 : Int32) = nI (a + 1) from nI_1 a]
      exact innerC Q _ a (by omega) (8 - a) (a + 1) st E6 H6 (by omega) hs z6 (fun E7 H7 s7 z7 => ih (a + 1) _ E7 H7 (by omega) s7 z7 hst)
  refine outerC _ (fun E6 H6 hs => ?_) 9 0 (-1, 0) E1 H1 (by omega) hs1 rfl rfl
  rcases trB_ok (t0 := t0) (t1 := t1) (w := w) 9 0 (-1, 0) (by omega) (Or.inl rfl) with e | ⟨j, hj, e⟩
  · rw [e]
    refine ⟨fun c => absurd c (by decide), fun _ => ?_⟩
    refine s6_error (k := 2) (by decide) ?_
    refine seven (fun G3 e3 k3 => ⟨fun c => absurd e c, fun _ => ?_⟩)
    exact c_err (k := 2) (by decide) (jo_ahead hI hs e3 k3)
  · rw [e]
    refine ⟨fun _ => seven (fun G3 e3 k3 => ⟨fun _ => ?_, fun c => ?_⟩), fun c => absurd (nI_pos' (by omega)) c⟩
    · exact ⟨e.symm, jo_ahead hI hs e3 k3⟩
    · rw [e] at c; exact absurd c (nI_nem1 (by omega))
