/-! calls: images; texts taken away -/
theorem tkS_at {u b : Nat} {s s' : Nat → Int32} {t : wT} (h : ∀ k, b ≤ k → k ≤ b + 124 → s' k = s k) (ht : tkS u s b t) : tkS u s' b t := by
  have h60 := ht.2.1
  refine ⟨by rw [h b (by omega) (by omega)]; exact ht.1, ht.2.1, ht.2.2.1, fun i hi => ?_⟩
  rw [h _ (by omega) (by omega), h _ (by omega) (by omega)]
  exact ht.2.2.2 i hi
theorem tkS_nil {u b : Nat} {s : Nat → Int32} (h : s b = nI 0) : tkS u s b [] := ⟨h, by decide, (fun q hq => by cases hq), (fun i hi => by cases hi)⟩
theorem tkCd_nil {u : Nat} {g : Nat → Int32} : tkCd u 0 g [] := ⟨rfl, by decide, (fun q hq => by cases hq), (fun i hi => by cases hi)⟩
theorem wTx_nil : wTx [] := Or.inl rfl
theorem R5_t0 {w : wW} {t0 t1 t : wT} {F F1 : xF} {G G1 : xA} (r : R5 w t0 t1 F G) (hF : ∀ k, k < 5 ∨ k = 6 → k ≠ 4 → F1 k = F k) (hG : ∀ k, k < 8 ∨ k = 13 → G1 k = G k) (ht : tkCd 0 (F1 5) (G1 11) t) : R5 w t t1 F1 G1 := by
  obtain ⟨⟨f0, f1, f2, f3⟩, c0, c1, c2, c3, c4, c5, c6, c7, c8, c9⟩ := r
  unfold R5
  rw [hG 0 (by omega), hG 1 (by omega), hG 2 (by omega), hG 3 (by omega), hG 4 (by omega), hG 5 (by omega), hG 6 (by omega), hG 7 (by omega), hG 13 (by omega), hF 0 (by omega) (by omega), hF 1 (by omega) (by omega), hF 2 (by omega) (by omega), hF 3 (by omega) (by omega), hF 6 (by omega) (by omega)]
  exact ⟨⟨f0, f1, f2, f3⟩, c0, c1, c2, c3, c4, c5, c6, c7, ht, c9⟩
theorem R5_t1 {w : wW} {t0 t1 t : wT} {F F1 : xF} {G G1 : xA} (r : R5 w t0 t1 F G) (hF : ∀ k, k < 6 → k ≠ 4 → F1 k = F k) (hG : ∀ k, k < 8 ∨ k = 11 → G1 k = G k) (ht : tkCd 1 (F1 6) (G1 13) t) : R5 w t0 t F1 G1 := by
  obtain ⟨⟨f0, f1, f2, f3⟩, c0, c1, c2, c3, c4, c5, c6, c7, c8, c9⟩ := r
  unfold R5
  rw [hG 0 (by omega), hG 1 (by omega), hG 2 (by omega), hG 3 (by omega), hG 4 (by omega), hG 5 (by omega), hG 6 (by omega), hG 7 (by omega), hG 11 (by omega), hF 0 (by omega) (by omega), hF 1 (by omega) (by omega), hF 2 (by omega) (by omega), hF 3 (by omega) (by omega), hF 5 (by omega) (by omega)]
  exact ⟨⟨f0, f1, f2, f3⟩, c0, c1, c2, c3, c4, c5, c6, c7, c8, ht⟩
theorem tp_c {x : Int32} {g s s1 : Nat → Int32} (h : jo_tp x g s) (f : ∀ j, (j = 4 ∨ 371 ≤ j) → s1 j = s j) : jo_tp x g s1 := by
  obtain ⟨n, a, b, c, d⟩ := h
  exact ⟨n, a, b, by rw [f 4 (by omega)]; exact c, fun i hi => by rw [f (371 + i) (by omega)]; exact d i hi⟩
theorem wt_c {x : Int32} {g s s1 : Nat → Int32} (h : jo_wt x g s) (f : ∀ j, (j = 5 ∨ 371 ≤ j) → s1 j = s j) : jo_wt x g s1 := by
  obtain ⟨n, a, b, c, d⟩ := h
  exact ⟨n, a, b, by rw [f 5 (by omega)]; exact c, fun i hi => by rw [f (431 + i) (by omega)]; exact d i hi⟩
theorem c_untell : oX_untell jo_I := by
  intro x1 F G F' G' hI
  obtain ⟨⟨⟨w, t0, t1, hw, hd, h0, h1, r5, r7, hz⟩, hTp, hWt⟩, _, _, _, _, h5⟩ := id hI
  unfold qX6_untell
  rcases xrng x1 1 (by decide) with h | ⟨u, hu, rfl⟩
  · refine s6_inG_no (l := 0) (n := 1) h ?_; (first | refine pN1 ?_ | refine pN2 ?_); refine s6_error (k := 1) (by decide) ?_; unfold qX7_untell; refine s7_inG_no (l := 0) (n := 1) h ?_; (first | refine pN1 ?_ | refine pN2 ?_); exact c_err (k := 1) (by decide) hI
  refine s6_inG (l := 0) (n := 1) (by omega) hu (by decide) ?_; (first | refine pY1 ?_ | refine pY2 ?_)
  rcases (by omega : u = 0 ∨ u = 1) with rfl | rfl
  · refine ⟨fun c => absurd rfl c, fun _ E eE H eH => ⟨Or.inl rfl, fun _ => ?_, fun c => absurd c (by decide)⟩⟩
    rw [xsub_0, show xspl F 0 7 F = F from by have := xspl_sub F 0 7; rw [xsub_0] at this; exact this] at eE
    rw [xsub_0, show xspl G 0 14 G = G from by have := xspl_sub G 0 14; rw [xsub_0] at this; exact this] at eH
    subst eE eH
    have hc : tkCd 0 (E 5) (H 11) t0 := R5_c0 r5
    refine s3_isThere (u := 0) (t := t0) (g := H 11) hc (fun E1 eE1 H1 eH1 => ?_)
    rw [xspl_sub] at eE1 eH1
    have seven : ∀ {Q : Int32 → xF → xA → Prop}, (∀ G3, G3 = xst G' 0 121 0 → Q (if t0 = [] then 0 else 1) F' G3) → qX7_untell (nI 0) F' G' Q := by
      intro Q hQ
      unfold qX7_untell
      refine s7_inG (l := 0) (n := 1) (k := 0) (by omega) (by omega) (by decide) ?_; (first | refine pY1 ?_ | refine pY2 ?_)
      refine s7_hasText (u := 0) (by omega) r7.2.1 ?_
      by_cases c : t0 = []
      · rw [if_pos c] at hQ ⊢
        exact ⟨fun _ => ⟨xvin (k := 121) (by omega) (by omega), fun G3 e => hQ G3 e⟩, fun q => absurd rfl q⟩
      · rw [if_neg c] at hQ ⊢
        exact ⟨fun q => absurd q (by decide), fun _ => ⟨xvin (k := 121) (by omega) (by omega), fun G3 e => hQ G3 e⟩⟩
    have fin : ∀ (E2 : xF) (G3 : xA), E2 = va_up E1 5 0 → G3 = xst G' 0 121 0 → jo_I E2 H1 F' G3 := by
      intro E2 G3 e2 e3
      rw [e2, eE1, eH1, e3]
      refine jo_of hI ⟨fun k hk => vu_ne (by omega), fun _ _ => rfl⟩ ⟨⟨rfl, rfl, rfl⟩, fun k hk => xst_ne (by omega)⟩ ⟨⟨w, [], t1, hw, hd, wTx_nil, h1, R5_t0 r5 (fun k hk _ => vu_ne (by omega)) (fun _ _ => rfl) (by rw [vu_at]; exact tkCd_nil), ?_, ?_⟩, ?_, ?_⟩
      · rw [xst_at]
        exact ⟨fun k a b => by rw [upd_ne (by omega)]; exact r7.1 k a b, tkS_nil (upd_at _ _ _), tkS_at (fun k a b => upd_ne (by omega)) r7.2.2⟩
      · rw [vu_ne (by omega), xst_at, upd_ne (by omega)]; exact hz
      · rw [vu_ne (by omega), xst_at]; exact tp_c hTp (fun j hj => upd_ne (by omega))
      · rw [vu_ne (by omega), xst_at]; exact wt_c hWt (fun j hj => upd_ne (by omega))
    by_cases c : t0 = []
    · rw [if_pos c] at seven ⊢
      exact ⟨fun _ E2 e2 => seven (fun G3 e3 => ⟨rfl, fin E2 G3 e2 e3⟩), fun q => absurd rfl q⟩
    · rw [if_neg c] at seven ⊢
      exact ⟨fun q => absurd q (by decide), fun _ E2 e2 => seven (fun G3 e3 => ⟨rfl, fin E2 G3 e2 e3⟩)⟩
  · refine ⟨fun _ E eE H eH => ⟨Or.inr rfl, fun c => absurd c (by decide), fun _ => ?_⟩, fun c => absurd c (by decide)⟩
    rw [xsub_0, show xspl F 0 7 F = F from by have := xspl_sub F 0 7; rw [xsub_0] at this; exact this] at eE
    rw [xsub_0, show xspl G 0 14 G = G from by have := xspl_sub G 0 14; rw [xsub_0] at this; exact this] at eH
    subst eE eH
    have hc : tkCd 1 (E 6) (H 13) t1 := R5_c1 r5
    refine s3_isThere (u := 1) (t := t1) (g := H 13) hc (fun E1 eE1 H1 eH1 => ?_)
    rw [xspl_sub] at eE1 eH1
    have seven : ∀ {Q : Int32 → xF → xA → Prop}, (∀ G3, G3 = xst G' 0 246 0 → Q (if t1 = [] then 0 else 1) F' G3) → qX7_untell (nI 1) F' G' Q := by
      intro Q hQ
      unfold qX7_untell
      refine s7_inG (l := 0) (n := 1) (k := 1) (by omega) (by omega) (by decide) ?_; (first | refine pY1 ?_ | refine pY2 ?_)
      refine s7_hasText (u := 1) (by omega) r7.2.2 ?_
      by_cases c : t1 = []
      · rw [if_pos c] at hQ ⊢
        exact ⟨fun _ => ⟨xvin (k := 246) (by omega) (by omega), fun G3 e => hQ G3 e⟩, fun q => absurd rfl q⟩
      · rw [if_neg c] at hQ ⊢
        exact ⟨fun q => absurd q (by decide), fun _ => ⟨xvin (k := 246) (by omega) (by omega), fun G3 e => hQ G3 e⟩⟩
    have fin : ∀ (E2 : xF) (G3 : xA), E2 = va_up E1 6 0 → G3 = xst G' 0 246 0 → jo_I E2 H1 F' G3 := by
      intro E2 G3 e2 e3
      rw [e2, eE1, eH1, e3]
      refine jo_of hI ⟨fun k hk => vu_ne (by omega), fun _ _ => rfl⟩ ⟨⟨rfl, rfl, rfl⟩, fun k hk => xst_ne (by omega)⟩ ⟨⟨w, t0, [], hw, hd, h0, wTx_nil, R5_t1 r5 (fun k hk _ => vu_ne (by omega)) (fun _ _ => rfl) (by rw [vu_at]; exact tkCd_nil), ?_, ?_⟩, ?_, ?_⟩
      · rw [xst_at]
        exact ⟨fun k a b => by rw [upd_ne (by omega)]; exact r7.1 k a b, tkS_at (fun k a b => upd_ne (by omega)) r7.2.1, tkS_nil (upd_at _ _ _)⟩
      · rw [vu_ne (by omega), xst_at, upd_ne (by omega)]; exact hz
      · rw [vu_ne (by omega), xst_at]; exact tp_c hTp (fun j hj => upd_ne (by omega))
      · rw [vu_ne (by omega), xst_at]; exact wt_c hWt (fun j hj => upd_ne (by omega))
    by_cases c : t1 = []
    · rw [if_pos c] at seven ⊢
      exact ⟨fun _ E2 e2 => seven (fun G3 e3 => ⟨rfl, fin E2 G3 e2 e3⟩), fun q => absurd rfl q⟩
    · rw [if_neg c] at seven ⊢
      exact ⟨fun q => absurd q (by decide), fun _ E2 e2 => seven (fun G3 e3 => ⟨rfl, fin E2 G3 e2 e3⟩)⟩
/-! images: the state taken over, both ways -/
theorem st_mk {w : wW} {t0 t1 : wT} {F1 : xF} {G1 : xA} {g h g1 h1 s s1 : Nat → Int32} {n m : Nat} (hw : Wok w) (hd : w 0 ≤ 9999) (h0 : wTx t0) (ht1 : wTx t1) (r5 : R5 w t0 t1 F1 G1) (r7 : R7 w t0 t1 s) (z : F1 4 = s 6) (hn : n ≤ 60) (n2 : s 4 = nI n) (n3 : ∀ i, i < n → g i = s (371 + i)) (hm : m ≤ 24) (m2 : s 5 = nI m) (m3 : ∀ i, i < m → h i = s (431 + i)) (hg : ∀ i, i < n → g1 i = g i) (hh : ∀ i, i < m → h1 i = h i) (hs : ∀ k, k < 455 → s1 k = s k) : jo_st F1 G1 (nI n) g1 (nI m) h1 s1 := by
  refine ⟨⟨w, t0, t1, hw, hd, h0, ht1, r5, ⟨fun k h1 h2 => by rw [hs k (by omega)]; exact r7.1 k h1 h2, tkS_at (fun k a b => hs k (by omega)) r7.2.1, tkS_at (fun k a b => hs k (by omega)) r7.2.2⟩, by rw [z, hs 6 (by omega)]⟩, ⟨n, hn, rfl, by rw [hs 4 (by omega)]; exact n2, fun i hi => by rw [hg i hi, hs (371 + i) (by omega)]; exact n3 i hi⟩, ⟨m, hm, rfl, by rw [hs 5 (by omega)]; exact m2, fun i hi => by rw [hh i hi, hs (431 + i) (by omega)]; exact m3 i hi⟩⟩
theorem c_image : oX_image jo_I := by
  intro F G F' G' hI
  obtain ⟨hS, ⟨b1, b2⟩, c, d, e, f⟩ := id hI
  obtain ⟨⟨w, t0, t1, hw, hd, h0, h1, r5, r7, hz⟩, ⟨n, hn, n1, n2, n3⟩, ⟨m, hm, m1, m2, m3⟩⟩ := id hS
  unfold qX6_image
  refine s6_take (o := 7) (p := 0) (o2 := 14) (p2 := 0) (R5_z r5) (by omega) (by omega) (fun E H rE z4 _ fE fH => ?_)
  refine s1_takeB (N := 60) (o := 31) (p := 29) (o2 := 58) (p2 := 56) (n := n) (by decide) hn (by decide) (by decide) (by rw [fE 29 (by omega)]; exact n1) ?_
  refine s1_takeB (N := 24) (o := 32) (p := 30) (o2 := 59) (p2 := 57) (n := m) (by decide) hm (by decide) (by decide) (by rw [vu_ne (by decide), fE 30 (by omega)]; exact m1) ?_
  intro F1 eF1
  have fF : ∀ k, k < 7 ∨ (14 ≤ k ∧ k ≠ 28 ∧ k ≠ 31 ∧ k ≠ 32) → F1 k = F k := fun k hk => by rw [eF1, vu_ne (by omega), vu_ne (by omega), vu_ne (by omega), fE k (by omega)]
  have fG : ∀ k, k < 14 ∨ (28 ≤ k ∧ k ≠ 58 ∧ k ≠ 59) → va_up (va_up H 58 (va_cpy (H 56) (H 58) 0 0 n)) 59 (va_cpy (va_up H 58 (va_cpy (H 56) (H 58) 0 0 n) 57) (va_up H 58 (va_cpy (H 56) (H 58) 0 0 n) 59) 0 0 m) k = G k := fun k hk => by rw [vu_ne (by omega), vu_ne (by omega), fH k (by omega)]
  have z28 : F1 28 = F' 0 + 1 := by rw [eF1, vu_at, vu_ne (by decide), vu_ne (by decide), fE 28 (by omega), b1]
  unfold qX7_image
  refine s7_carry_1_2 (fun p hp hq F2 eF2 => ?_)
  have y0 : F2 0 = F' 0 + 1 := by rw [eF2, vu_at]
  refine ⟨by rw [z28, y0], ?_, ⟨by rw [z28, y0], fun _ => ?_⟩, fun k hk => ?_, ?_, fun q hq => ?_, by rw [eF2, vu_ne (by omega)]; exact f⟩
  · refine jo_st_c hS (fun k hk => fF k (by omega)) (fun k hk => fG k (by omega)) (fF 29 (by omega)) (fG 56 (by omega)) (fF 30 (by omega)) (fG 57 (by omega)) (vu_ne (by omega))
  · rw [show F1 31 = nI n by rw [eF1, vu_ne (by decide), vu_ne (by decide), vu_at], show F1 32 = nI m by rw [eF1, vu_ne (by decide), vu_at]]
    refine st_mk (w := w) (t0 := t0) (t1 := t1) (s := G' 0) (g := G 56) (h := G 57) hw hd h0 h1 ?_ r7 ?_ hn n2 n3 hm m2 m3 (fun i hi => ?_) (fun i hi => ?_) (fun k hk => by rw [vu_at]; exact hp k hk)
    · exact R5_c rE (fun k hk _ => by show F1 (7 + k) = E (7 + k); rw [eF1, vu_ne (by omega), vu_ne (by omega), vu_ne (by omega)]) (fun k hk => by show va_up _ _ _ (14 + k) = H (14 + k); rw [vu_ne (by omega), vu_ne (by omega)])
    · show F1 (7 + 4) = _
      rw [eF1, vu_ne (by decide), vu_ne (by decide), vu_ne (by decide), ← hz]; exact z4
    · rw [vu_ne (by decide), vu_at, cpy0 hi, fH 56 (by omega)]
    · rw [vu_at, cpy0 hi, vu_ne (by decide), fH 57 (by omega)]
  · rw [fG 62 (by omega), vu_ne (by omega)]; exact c k hk
  · rw [fF 41 (by omega), fG 65 (by omega), vu_ne (by omega), eF2, vu_ne (by omega)]; exact d
  · rw [fF (42 + 2 * q) (by omega), fF (43 + 2 * q) (by omega), fG (66 + q) (by omega), vu_ne (by omega), vu_ne (by omega), vu_ne (by omega)]; exact e q hq
theorem c_restore : oX_restore jo_I := by
  intro F G F' G' hI
  obtain ⟨hS, ⟨b1, b2⟩, c, d, e, f⟩ := id hI
  unfold qX6_restore
  by_cases z0 : F' 0 = 0
  · refine ⟨fun q => absurd (by rw [b1, z0]) q, fun _ => ?_⟩
    refine s6_error (k := 2) (by decide) ?_; unfold qX7_restore; refine ⟨fun q => absurd z0 q, fun _ => ?_⟩; exact c_err (k := 2) (by decide) hI
  refine ⟨fun _ => ?_, fun q => absurd (by rw [← b1]; exact q) z0⟩
  obtain ⟨⟨w, t0, t1, hw, hd, h0, h1, r5, r7, hz⟩, ⟨n, hn, n1, n2, n3⟩, ⟨m, hm, m1, m2, m3⟩⟩ := b2 z0
  refine s6_take (o := 0) (p := 7) (o2 := 0) (p2 := 14) r5 (by omega) (by omega) (fun E H rE z4 _ fE fH => ?_)
  rw [xsub_0, xsub_0] at rE
  refine s1_takeB (N := 60) (o := 29) (p := 31) (o2 := 56) (p2 := 58) (n := n) (by decide) hn (by decide) (by decide) (by rw [fE 31 (by omega)]; exact n1) ?_
  refine s1_takeB (N := 24) (o := 30) (p := 32) (o2 := 57) (p2 := 59) (n := m) (by decide) hm (by decide) (by decide) (by rw [vu_ne (by decide), fE 32 (by omega)]; exact m1) ?_
  have e3 : va_up (va_up E 29 (nI n)) 30 (nI m) 3 = nI (w 0) := by rw [vu_ne (by decide), vu_ne (by decide)]; exact rE.1.2.2.2
  rw [e3]
  unfold qX7_restore
  refine ⟨fun _ => s7_carry_2_1 (fun p hp hq => ?_), fun q => absurd q z0⟩
  refine ⟨?_, jo_of hI ⟨fun k hk => by rw [vu_ne (by omega), vu_ne (by omega), fE k (by omega)], fun k hk => by rw [vu_ne (by omega), vu_ne (by omega), fH k (by omega)]⟩ ⟨⟨rfl, rfl, rfl⟩, fun k hk => vu_ne (by omega)⟩ ?_⟩
  · rw [vu_at, hp 0 (by omega)]; exact (r7.1 0 (by omega) (by omega)).symm
  · rw [show va_up (va_up E 29 (nI n)) 30 (nI m) 29 = nI n by rw [vu_ne (by decide), vu_at], show va_up (va_up E 29 (nI n)) 30 (nI m) 30 = nI m by rw [vu_at]]
    refine st_mk (w := w) (t0 := t0) (t1 := t1) (s := G' 1) (g := G 58) (h := G 59) hw hd h0 h1 ?_ r7 ?_ hn n2 n3 hm m2 m3 (fun i hi => ?_) (fun i hi => ?_) (fun k hk => by rw [vu_at]; exact hp k hk)
    · exact R5_c rE (fun k hk _ => by rw [vu_ne (by omega), vu_ne (by omega)]) (fun k hk => by rw [vu_ne (by omega), vu_ne (by omega)])
    · rw [vu_ne (by decide), vu_ne (by decide), show E 4 = F (7 + 4) by simpa using z4]; exact hz
    · rw [vu_ne (by decide), vu_at, cpy0 hi, fH 58 (by omega)]
    · rw [vu_at, cpy0 hi, vu_ne (by decide), fH 59 (by omega)]
