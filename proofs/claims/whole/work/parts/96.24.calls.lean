/-! calls, the small ones -/
theorem xsub_0 {α : Type} (f : Nat → α) : xsub f 0 = f := by
  funext k
  unfold xsub
  rw [Nat.zero_add]
theorem xspl_in {α : Type} {f g : Nat → α} {o n k : Nat} (h : k < n) : xspl f o n g (o + k) = g k := by
  unfold xspl
  rw [if_neg (by omega), if_pos (by omega), Nat.add_sub_cancel_left]
theorem xspl_out {α : Type} {f g : Nat → α} {o n k : Nat} (h : k < o ∨ o + n ≤ k) : xspl f o n g k = f k := by
  unfold xspl
  by_cases c : k < o
  · rw [if_pos c]
  · rw [if_neg c, if_neg (by omega)]
theorem xspl_now {α : Type} {f g : Nat → α} {n k : Nat} (h : k < n) : xspl f 0 n g k = g k := by
  have := xspl_in (f := f) (g := g) (o := 0) h
  rw [Nat.zero_add] at this
  exact this
def frW (F F1 : xF) (G G1 : xA) : Prop := frC F F1 G G1 ∧ (F1 29 = F 29 ∧ F1 30 = F 30 ∧ F1 4 = F 4) ∧ G1 56 = G 56 ∧ G1 57 = G 57
theorem frW_rfl {F : xF} {G : xA} : frW F F G G := ⟨frC_rfl, ⟨rfl, rfl, rfl⟩, rfl, rfl⟩
theorem frW_tr {F F1 F2 : xF} {G G1 G2 : xA} (h : frW F F1 G G1) (h' : frW F1 F2 G1 G2) : frW F F2 G G2 := by
  obtain ⟨a, ⟨b1, b2, b3⟩, c1, c2⟩ := h
  obtain ⟨a', ⟨b1', b2', b3'⟩, c1', c2'⟩ := h'
  exact ⟨frC_tr a a', ⟨by rw [b1', b1], by rw [b2', b2], by rw [b3', b3]⟩, by rw [c1', c1], by rw [c2', c2]⟩
theorem frW_g {F : xF} {G : xA} {k j : Nat} {x : Int32} (hk : k < 14) : frW F F G (xst G k j x) := ⟨⟨fun _ _ => rfl, fun i hi => xst_ne (by omega)⟩, ⟨rfl, rfl, rfl⟩, xst_ne (by omega), xst_ne (by omega)⟩
theorem frW_f {F : xF} {G : xA} {k : Nat} {x : Int32} (hk : k < 7) (h4 : k ≠ 4) : frW F (va_up F k x) G G := ⟨⟨fun i hi => vu_ne (by omega), fun _ _ => rfl⟩, ⟨vu_ne (by omega), vu_ne (by omega), vu_ne (by omega)⟩, rfl, rfl⟩
/-- a block of the world that goes on, laid in -/
theorem frW_now {F F1 : xF} {G G1 : xA} (h4 : F1 4 = F 4) : frW F (xspl F 0 7 F1) G (xspl G 0 14 G1) := ⟨⟨fun i hi => xspl_out (by omega), fun i hi => xspl_out (by omega)⟩, ⟨xspl_out (by omega), xspl_out (by omega), by rw [xspl_now (by omega)]; exact h4⟩, xspl_out (by omega), xspl_out (by omega)⟩
theorem R5_now {w : wW} {t0 t1 : wT} {F F1 : xF} {G G1 : xA} (h : R5 w t0 t1 F1 G1) : R5 w t0 t1 (xspl F 0 7 F1) (xspl G 0 14 G1) := R5_c h (fun k hk _ => xspl_now hk) (fun k hk => xspl_now (by omega))
theorem jo_now {w : wW} {t0 t1 : wT} {F F1 F' : xF} {G G1 G' G1' : xA} (h : jo_I F G F' G') (hc : frW F F1 G G1) (hr : fr7 G' G1') (hw : Wok w) (hd : w 0 ≤ 9999) (h0 : wTx t0) (h1 : wTx t1) (r5 : R5 w t0 t1 F1 G1) (r7 : R7 w t0 t1 (G1' 0)) : jo_I F1 G1 F' G1' := by
  refine jo_of h hc.1 (frR_7 hr) ⟨⟨w, t0, t1, hw, hd, h0, h1, r5, r7, ?_⟩, ?_, ?_⟩
  · obtain ⟨_, _, _, _, _, _, _, _, _, z⟩ := h.1.1
    rw [hc.2.1.2.2, hr.2 6 (by omega)]; exact z
  · obtain ⟨n, a, b, c, d⟩ := h.1.2.1
    exact ⟨n, a, by rw [hc.2.1.1]; exact b, by rw [hr.2 4 (by omega)]; exact c, fun i hi => by rw [hc.2.2.1, hr.2 (371 + i) (by omega)]; exact d i hi⟩
  · obtain ⟨n, a, b, c, d⟩ := h.1.2.2
    exact ⟨n, a, by rw [hc.2.1.2.1]; exact b, by rw [hr.2 5 (by omega)]; exact c, fun i hi => by rw [hc.2.2.2, hr.2 (431 + i) (by omega)]; exact d i hi⟩
/-- nothing of now changed but what no call shows -/
theorem jo_scr {F F1 F' : xF} {G G1 G' G1' : xA} (h : jo_I F G F' G') (hc : frN F F1 G G1) (hr : ∀ k, k ≠ 5 → k ≠ 6 → G1' k = G' k) : jo_I F1 G1 F' G1' := jo_same h hc ⟨⟨rfl, rfl, rfl⟩, fun k hk => hr k (by omega) (by omega)⟩ (hr 0 (by omega) (by omega))
theorem frN_now {F F1 : xF} {G G1 : xA} (hF : ∀ k, k < 7 → F1 k = F k) (hG : ∀ k, k < 8 ∨ k = 11 ∨ k = 13 → G1 k = G k) : frN F (xspl F 0 7 F1) G (xspl G 0 14 G1) := by
  refine ⟨⟨fun i hi => xspl_out (by omega), fun i hi => xspl_out (by omega)⟩, fun k hk => ?_, fun k hk => ?_⟩
  · by_cases c : k < 7
    · rw [xspl_now c]; exact hF k c
    · exact xspl_out (by omega)
  · by_cases c : k < 14
    · rw [xspl_now c]; exact hG k (by omega)
    · exact xspl_out (by omega)
theorem c_oak : oX_oak jo_I := by
  intro x1 x2 x3 F G F' G' hI
  obtain ⟨⟨⟨w, t0, t1, hw, hd, h0, h1, r5, r7, hz⟩, _⟩, _⟩ := id hI
  unfold qX6_oak
  rcases xrng x1 15 (by decide) with h | ⟨a, ha, rfl⟩
  · refine s6_isOak_no h ?_; (first | refine pN1 ?_ | refine pN2 ?_); refine s6_error (k := 1) (by decide) ?_; unfold qX7_oak; refine s7_isOak_no h ?_; (first | refine pN1 ?_ | refine pN2 ?_); exact c_err (k := 1) (by decide) hI
  refine s6_isOak ha ?_; (first | refine pY1 ?_ | refine pY2 ?_)
  rcases xrng x2 1 (by decide) with h | ⟨b, hb, rfl⟩
  · refine s6_inG_no (l := 0) (n := 1) h ?_; (first | refine pN1 ?_ | refine pN2 ?_); refine s6_error (k := 1) (by decide) ?_; unfold qX7_oak; refine s7_isOak ha ?_; (first | refine pY1 ?_ | refine pY2 ?_); refine s7_inG_no (l := 0) (n := 1) h ?_; (first | refine pN1 ?_ | refine pN2 ?_); exact c_err (k := 1) (by decide) hI
  refine s6_inG (l := 0) (n := 1) (by omega) hb (by decide) ?_; (first | refine pY1 ?_ | refine pY2 ?_)
  rcases (by omega : b = 0 ∨ b = 1) with rfl | rfl
  · refine ⟨fun c => absurd rfl c, fun _ => ?_⟩
    rcases xrng x3 8 (by decide) with h | ⟨v, hv, rfl⟩
    · refine s6_isFarmer_no h ?_; (first | refine pN1 ?_ | refine pN2 ?_); refine s6_error (k := 1) (by decide) ?_; unfold qX7_oak; refine s7_isOak ha ?_; (first | refine pY1 ?_ | refine pY2 ?_); refine s7_inG (l := 0) (n := 1) (k := 0) (by omega) (by omega) (by decide) ?_; (first | refine pY1 ?_ | refine pY2 ?_); refine ⟨fun c => absurd rfl c, fun _ => ?_⟩; refine s7_inG_no (l := 0) (n := 8) h ?_; (first | refine pN1 ?_ | refine pN2 ?_); exact c_err (k := 1) (by decide) hI
    refine s6_isFarmer hv ?_; (first | refine pY1 ?_ | refine pY2 ?_)
    rw [nI_clamp (show a < 2 ^ 31 by omega), r5.2.1 a (by omega)]
    refine ⟨xvin (by omega) (by omega), xvin (by omega) (by omega), fun G1 e => ?_⟩
    unfold qX7_oak
    refine s7_isOak ha ?_; (first | refine pY1 ?_ | refine pY2 ?_)
    refine s7_inG (l := 0) (n := 1) (k := 0) (by omega) (by omega) (by decide) ?_; (first | refine pY1 ?_ | refine pY2 ?_)
    refine ⟨fun c => absurd rfl c, fun _ => s7_inG (l := 0) (n := 8) (k := v) (by omega) hv (by decide) ?_⟩; (first | refine pY1 ?_ | refine pY2 ?_)
    rw [show (8 : Int32) + 16 * nI 0 + nI a = nI (8 + a) from by rw [show (8 : Int32) + 16 * nI 0 = nI 8 from rfl, nI_add]]
    refine s7_change1 (by omega) ?_
    rw [r7.1 (8 + a) (by omega) (by omega)]
    exact ⟨rfl, jo_now hI (by rw [e]; exact frW_g (by omega)) (fr7_0 (by omega)) (Wok_s_owner (a := a) (v := v) hw (by omega) (by omega)) (by rw [wU_ne (by omega)]; exact hd) h0 h1 (by rw [e]; exact R5_s_owner r5 (by omega)) (by rw [xst_at]; exact R7_upd r7 (by omega))⟩
  · refine ⟨fun _ => ?_, fun c => absurd c (by decide)⟩
    rcases xrng x3 999 (by decide) with h | ⟨v, hv, rfl⟩
    · refine s6_inG_no (l := 0) (n := 999) h ?_; (first | refine pN1 ?_ | refine pN2 ?_); refine s6_error (k := 1) (by decide) ?_; unfold qX7_oak; refine s7_isOak ha ?_; (first | refine pY1 ?_ | refine pY2 ?_); refine s7_inG (l := 0) (n := 1) (k := 1) (by omega) (by omega) (by decide) ?_; (first | refine pY1 ?_ | refine pY2 ?_); refine ⟨fun _ => ?_, fun c => absurd c (by decide)⟩; refine s7_inG_no (l := 0) (n := 999) h ?_; (first | refine pN1 ?_ | refine pN2 ?_); exact c_err (k := 1) (by decide) hI
    refine s6_inG (l := 0) (n := 999) (by omega) hv (by decide) ?_; (first | refine pY1 ?_ | refine pY2 ?_)
    rw [nI_clamp (show a < 2 ^ 31 by omega), r5.2.2.1 a (by omega)]
    refine ⟨xvin (by omega) (by omega), xvin (by omega) (by omega), fun G1 e => ?_⟩
    unfold qX7_oak
    refine s7_isOak ha ?_; (first | refine pY1 ?_ | refine pY2 ?_)
    refine s7_inG (l := 0) (n := 1) (k := 1) (by omega) (by omega) (by decide) ?_; (first | refine pY1 ?_ | refine pY2 ?_)
    refine ⟨fun _ => s7_inG (l := 0) (n := 999) (k := v) (by omega) hv (by decide) ?_, fun c => absurd c (by decide)⟩; (first | refine pY1 ?_ | refine pY2 ?_)
    rw [show (8 : Int32) + 16 * nI 1 + nI a = nI (24 + a) from by rw [show (8 : Int32) + 16 * nI 1 = nI 24 from rfl, nI_add]]
    refine s7_change1 (by omega) ?_
    rw [r7.1 (24 + a) (by omega) (by omega)]
    exact ⟨rfl, jo_now hI (by rw [e]; exact frW_g (by omega)) (fr7_0 (by omega)) (Wok_s_under (a := a) (v := v) hw (by omega) (by omega)) (by rw [wU_ne (by omega)]; exact hd) h0 h1 (by rw [e]; exact R5_s_under r5 (by omega)) (by rw [xst_at]; exact R7_upd r7 (by omega))⟩
theorem c_oakIs : oX_oakIs jo_I := by
  intro x1 x2 F G F' G' hI
  obtain ⟨⟨⟨w, t0, t1, hw, hd, h0, h1, r5, r7, hz⟩, _⟩, _⟩ := id hI
  unfold qX6_oakIs
  rcases xrng x1 15 (by decide) with h | ⟨a, ha, rfl⟩
  · refine s6_isOak_no h ?_; (first | refine pN1 ?_ | refine pN2 ?_); refine s6_error (k := 1) (by decide) ?_; unfold qX7_oakIs; refine s7_isOak_no h ?_; (first | refine pN1 ?_ | refine pN2 ?_); exact c_err (k := 1) (by decide) hI
  refine s6_isOak ha ?_; (first | refine pY1 ?_ | refine pY2 ?_)
  rcases xrng x2 2 (by decide) with h | ⟨b, hb, rfl⟩
  · refine s6_inG_no (l := 0) (n := 2) h ?_; (first | refine pN1 ?_ | refine pN2 ?_); refine s6_error (k := 1) (by decide) ?_; unfold qX7_oakIs; refine s7_isOak ha ?_; (first | refine pY1 ?_ | refine pY2 ?_); refine s7_inG_no (l := 0) (n := 2) h ?_; (first | refine pN1 ?_ | refine pN2 ?_); exact c_err (k := 1) (by decide) hI
  refine s6_inG (l := 0) (n := 2) (by omega) hb (by decide) ?_; (first | refine pY1 ?_ | refine pY2 ?_)
  rcases (by omega : b = 0 ∨ b = 1 ∨ b = 2) with rfl | rfl | rfl
  · refine ⟨fun c => absurd rfl c, fun _ => ⟨xvin (by omega) (by omega), ?_⟩⟩
    rw [nI_clamp (show a < 2 ^ 31 by omega), r5.2.1 a (by omega)]
    unfold qX7_oakIs
    refine s7_isOak ha ?_; (first | refine pY1 ?_ | refine pY2 ?_)
    refine s7_inG (l := 0) (n := 2) (k := 0) (by omega) (by omega) (by decide) ?_; (first | refine pY1 ?_ | refine pY2 ?_)
    rw [show (8 : Int32) + 16 * nI 0 + nI a = nI (8 + a) from by rw [show (8 : Int32) + 16 * nI 0 = nI 8 from rfl, nI_add], nI_clamp (show 8 + a < 2 ^ 31 by omega), r7.1 (8 + a) (by omega) (by omega)]
    exact ⟨fun _ => ⟨xvin (by omega) (by omega), rfl, hI⟩, fun c => absurd c (by decide)⟩
  · refine ⟨fun _ => ⟨fun c => absurd rfl c, fun _ => ⟨xvin (by omega) (by omega), ?_⟩⟩, fun c => absurd c (by decide)⟩
    rw [nI_clamp (show a < 2 ^ 31 by omega), r5.2.2.1 a (by omega)]
    unfold qX7_oakIs
    refine s7_isOak ha ?_; (first | refine pY1 ?_ | refine pY2 ?_)
    refine s7_inG (l := 0) (n := 2) (k := 1) (by omega) (by omega) (by decide) ?_; (first | refine pY1 ?_ | refine pY2 ?_)
    rw [show (8 : Int32) + 16 * nI 1 + nI a = nI (24 + a) from by rw [show (8 : Int32) + 16 * nI 1 = nI 24 from rfl, nI_add], nI_clamp (show 24 + a < 2 ^ 31 by omega), r7.1 (24 + a) (by omega) (by omega)]
    exact ⟨fun _ => ⟨xvin (by omega) (by omega), rfl, hI⟩, fun c => absurd c (by decide)⟩
  · refine ⟨fun _ => ⟨fun _ => ?_, fun c => absurd c (by decide)⟩, fun c => absurd c (by decide)⟩
    rw [xsub_0, xsub_0]
    refine s5_smellOf r5 h1 (show a < 16 by omega) (fun G1 hG1 => ?_)
    intro E eE H eH
    unfold qX7_oakIs
    refine s7_isOak ha ?_; (first | refine pY1 ?_ | refine pY2 ?_)
    refine s7_inG (l := 0) (n := 2) (k := 2) (by omega) (by omega) (by decide) ?_; (first | refine pY1 ?_ | refine pY2 ?_)
    refine ⟨fun c => absurd rfl c, fun _ => s7_smell r7 h1 (show a < 16 by omega) (fun G2 hG2 => ⟨rfl, ?_⟩)⟩
    rw [eE, eH]
    exact jo_scr hI (frN_now (fun _ _ => rfl) (fun k hk => hG1 k (by omega))) hG2
theorem c_rain : oX_rain jo_I := by
  intro x1 F G F' G' hI
  obtain ⟨⟨⟨w, t0, t1, hw, hd, h0, h1, r5, r7, hz⟩, _⟩, _⟩ := id hI
  unfold qX6_rain
  rcases xrng x1 9 (by decide) with h | ⟨a, ha, rfl⟩
  · refine s6_inG_no (l := 0) (n := 9) h ?_; (first | refine pN1 ?_ | refine pN2 ?_); refine s6_error (k := 1) (by decide) ?_; unfold qX7_rain; refine s7_inG_no (l := 0) (n := 9) h ?_; (first | refine pN1 ?_ | refine pN2 ?_); exact c_err (k := 1) (by decide) hI
  refine s6_inG (l := 0) (n := 9) (by omega) ha (by decide) ?_; (first | refine pY1 ?_ | refine pY2 ?_)
  intro F1 e
  unfold qX7_rain
  refine s7_inG (l := 0) (n := 9) (by omega) ha (by decide) ?_; (first | refine pY1 ?_ | refine pY2 ?_)
  refine s7_change1 (k := 1) (by omega) ?_
  rw [r7.1 1 (by omega) (by omega), r5.1.1]
  exact ⟨rfl, jo_now hI (by rw [e]; exact frW_f (by omega) (by omega)) (fr7_0 (by omega)) (Wok_s_rain (v := a) hw (by omega)) (by rw [wU_ne (by omega)]; exact hd) h0 h1 (by rw [e]; exact R5_s_rain r5) (by rw [xst_at]; exact R7_upd r7 (by omega))⟩
theorem c_pig : oX_pig jo_I := by
  intro x1 x2 F G F' G' hI
  obtain ⟨⟨⟨w, t0, t1, hw, hd, h0, h1, r5, r7, hz⟩, _⟩, _⟩ := id hI
  unfold qX6_pig
  rcases xrng x1 1 (by decide) with h | ⟨a, ha, rfl⟩
  · have n0 : ¬ x1 = 0 := fun q => by rw [q] at h; exact absurd h (by decide)
    have n1 : ¬ x1 = 1 := fun q => by rw [q] at h; exact absurd h (by decide)
    refine ⟨fun _ => ⟨fun _ => ?_, fun c => absurd c n1⟩, fun c => absurd c n0⟩
    refine s6_error (k := 1) (by decide) ?_; unfold qX7_pig; refine s7_inG_no (l := 0) (n := 1) h ?_; (first | refine pN1 ?_ | refine pN2 ?_); exact c_err (k := 1) (by decide) hI
  rcases (by omega : a = 0 ∨ a = 1) with rfl | rfl
  · refine ⟨fun c => absurd rfl c, fun _ => ?_⟩
    rcases xrng x2 15 (by decide) with h | ⟨b, hb, rfl⟩
    · refine s6_isOak_no h ?_; (first | refine pN1 ?_ | refine pN2 ?_); refine ⟨fun _ => ?_, fun c => absurd c (by decide)⟩; refine s6_error (k := 1) (by decide) ?_; unfold qX7_pig; refine s7_inG (l := 0) (n := 1) (k := 0) (by omega) (by omega) (by decide) ?_; (first | refine pY1 ?_ | refine pY2 ?_); refine ⟨fun c => absurd rfl c, fun _ => ?_⟩; refine s7_inG_no (l := 0) (n := 15) h ?_; (first | refine pN1 ?_ | refine pN2 ?_); exact c_err (k := 1) (by decide) hI
    refine s6_isOak hb ?_; (first | refine pY1 ?_ | refine pY2 ?_)
    intro F1 e
    unfold qX7_pig
    refine s7_inG (l := 0) (n := 1) (k := 0) (by omega) (by omega) (by decide) ?_; (first | refine pY1 ?_ | refine pY2 ?_)
    refine ⟨fun c => absurd rfl c, fun _ => s7_inG (l := 0) (n := 15) (k := b) (by omega) hb (by decide) ?_⟩; (first | refine pY1 ?_ | refine pY2 ?_)
    refine s7_change1 (k := 2) (by omega) ?_
    rw [r7.1 2 (by omega) (by omega), r5.1.2.1]
    exact ⟨rfl, jo_now hI (by rw [e]; exact frW_f (by omega) (by omega)) (fr7_0 (by omega)) (Wok_s_place (v := b) hw (by omega)) (by rw [wU_ne (by omega)]; exact hd) h0 h1 (by rw [e]; exact R5_s_place r5) (by rw [xst_at]; exact R7_upd r7 (by omega))⟩
  · refine ⟨fun _ => ⟨fun c => absurd rfl c, fun _ => ?_⟩, fun c => absurd c (by decide)⟩
    rcases xrng x2 9 (by decide) with h | ⟨b, hb, rfl⟩
    · refine s6_inG_no (l := 0) (n := 9) h ?_; (first | refine pN1 ?_ | refine pN2 ?_); refine s6_error (k := 1) (by decide) ?_; unfold qX7_pig; refine s7_inG (l := 0) (n := 1) (k := 1) (by omega) (by omega) (by decide) ?_; (first | refine pY1 ?_ | refine pY2 ?_); refine ⟨fun _ => ?_, fun c => absurd c (by decide)⟩; refine s7_inG_no (l := 0) (n := 9) h ?_; (first | refine pN1 ?_ | refine pN2 ?_); exact c_err (k := 1) (by decide) hI
    refine s6_inG (l := 0) (n := 9) (by omega) hb (by decide) ?_; (first | refine pY1 ?_ | refine pY2 ?_)
    intro F1 e
    unfold qX7_pig
    refine s7_inG (l := 0) (n := 1) (k := 1) (by omega) (by omega) (by decide) ?_; (first | refine pY1 ?_ | refine pY2 ?_)
    refine ⟨fun _ => s7_inG (l := 0) (n := 9) (k := b) (by omega) hb (by decide) ?_, fun c => absurd c (by decide)⟩; (first | refine pY1 ?_ | refine pY2 ?_)
    refine s7_change1 (k := 3) (by omega) ?_
    rw [r7.1 3 (by omega) (by omega), r5.1.2.2.1]
    exact ⟨rfl, jo_now hI (by rw [e]; exact frW_f (by omega) (by omega)) (fr7_0 (by omega)) (Wok_s_hunger (v := b) hw (by omega)) (by rw [wU_ne (by omega)]; exact hd) h0 h1 (by rw [e]; exact R5_s_hunger r5) (by rw [xst_at]; exact R7_upd r7 (by omega))⟩
theorem c_leash : oX_leash jo_I := by
  intro x1 x2 x3 F G F' G' hI
  obtain ⟨⟨⟨w, t0, t1, hw, hd, h0, h1, r5, r7, hz⟩, _⟩, _⟩ := id hI
  unfold qX6_leash
  rcases xrng x1 8 (by decide) with h | ⟨f, hf, rfl⟩
  · refine s6_isFarmer_no h ?_; (first | refine pN1 ?_ | refine pN2 ?_); refine s6_error (k := 1) (by decide) ?_; unfold qX7_leash; refine s7_isFarmer_no h ?_; (first | refine pN1 ?_ | refine pN2 ?_); exact c_err (k := 1) (by decide) hI
  refine s6_isFarmer hf ?_; (first | refine pY1 ?_ | refine pY2 ?_)
  rcases xrng x2 3 (by decide) with h | ⟨i, hi, rfl⟩
  · refine s6_inG_no (l := 0) (n := 3) h ?_; (first | refine pN1 ?_ | refine pN2 ?_); refine s6_error (k := 1) (by decide) ?_; unfold qX7_leash; refine s7_isFarmer hf ?_; (first | refine pY1 ?_ | refine pY2 ?_); refine s7_inG_no (l := 0) (n := 3) h ?_; (first | refine pN1 ?_ | refine pN2 ?_); exact c_err (k := 1) (by decide) hI
  refine s6_inG (l := 0) (n := 3) (by omega) hi (by decide) ?_; (first | refine pY1 ?_ | refine pY2 ?_)
  rcases xrng x3 4 (by decide) with h | ⟨v, hv, rfl⟩
  · refine s6_inG_no (l := 0) (n := 4) h ?_; (first | refine pN1 ?_ | refine pN2 ?_); refine s6_error (k := 1) (by decide) ?_; unfold qX7_leash; refine s7_isFarmer hf ?_; (first | refine pY1 ?_ | refine pY2 ?_); refine s7_inG (l := 0) (n := 3) (by omega) hi (by decide) ?_; (first | refine pY1 ?_ | refine pY2 ?_); refine s7_inG_no (l := 0) (n := 4) h ?_; (first | refine pN1 ?_ | refine pN2 ?_); exact c_err (k := 1) (by decide) hI
  refine s6_inG (l := 0) (n := 4) (by omega) hv (by decide) ?_; (first | refine pY1 ?_ | refine pY2 ?_)
  rw [show (4 : Int32) * nI f + nI i = nI (4 * f + i) from by rw [show (4 : Int32) = nI 4 from rfl, pk_mul, nI_add], nI_clamp (show 4 * f + i < 2 ^ 31 by omega), r5.2.2.2.2.2.2.2.2.1 f (by omega) i (by omega)]
  refine ⟨xvin (by omega) (by omega), xvin (by omega) (by omega), fun G1 e => ?_⟩
  unfold qX7_leash
  refine s7_isFarmer hf ?_; (first | refine pY1 ?_ | refine pY2 ?_)
  refine s7_inG (l := 0) (n := 3) (by omega) hi (by decide) ?_; (first | refine pY1 ?_ | refine pY2 ?_)
  refine s7_inG (l := 0) (n := 4) (by omega) hv (by decide) ?_; (first | refine pY1 ?_ | refine pY2 ?_)
  rw [show (40 : Int32) + 9 * nI f + 5 + nI i = nI (40 + 9 * f + (5 + i)) from by rw [show (40 : Int32) = nI 40 from rfl, show (9 : Int32) = nI 9 from rfl, show (5 : Int32) = nI 5 from rfl, pk_mul, nI_add, nI_add, nI_add, Nat.add_assoc]]
  refine s7_change1 (by omega) ?_
  rw [r7.1 (40 + 9 * f + (5 + i)) (by omega) (by omega)]
  exact ⟨rfl, jo_now hI (by rw [e]; exact frW_g (by omega)) (fr7_0 (by omega)) (Wok_s_leash (f := f) (i := i) (v := v) hw (by omega) (by omega) (by omega)) (by rw [wU_ne (by omega)]; exact hd) h0 h1 (by rw [e]; exact R5_s_leash r5 (by omega) (by omega)) (by rw [xst_at]; exact R7_upd r7 (by omega))⟩
theorem s5_ofFarmer {w : wW} {t0 t1 : wT} {F : xF} {G : xA} {Q : Int32 → xF → xA → Prop} {f i : Nat} (r5 : R5 w t0 t1 F G) (hf : f < 9) (hi : i < 9) (h : Q (nI (wF w f i)) F G) : qX5_ofFarmer (nI f) (nI i) F G Q := by
  obtain ⟨_, _, _, c2, c3, c4, c5, c6, c7, _⟩ := r5
  unfold qX5_ofFarmer
  rw [nI_clamp (show f < 2 ^ 31 by omega), c2 f hf, c3 f hf, c4 f hf, c5 f hf, c6 f hf]
  refine eq_dec (b := 0) (by omega) (by decide) (fun e => ?_) (fun n0 => ?_)
  · subst e; exact ⟨xvin hf (by omega), h⟩
  refine eq_dec (b := 1) (by omega) (by decide) (fun e => ?_) (fun n1 => ?_)
  · subst e; exact ⟨xvin hf (by omega), h⟩
  refine eq_dec (b := 2) (by omega) (by decide) (fun e => ?_) (fun n2 => ?_)
  · subst e; exact ⟨xvin hf (by omega), h⟩
  refine eq_dec (b := 3) (by omega) (by decide) (fun e => ?_) (fun n3 => ?_)
  · subst e; exact ⟨xvin hf (by omega), h⟩
  refine eq_dec (b := 4) (by omega) (by decide) (fun e => ?_) (fun n4 => ?_)
  · subst e; exact ⟨xvin hf (by omega), h⟩
  obtain ⟨j, hj, rfl⟩ : ∃ j, j < 4 ∧ i = 5 + j := ⟨i - 5, by omega, by omega⟩
  rw [show (5 : Int32) = nI 5 from rfl, pk_sub (by omega), Nat.add_sub_cancel_left]
  unfold qX5_within4
  rw [show (3 : Int32) = nI 3 from rfl, nI_min (by omega) (by omega), show (0 : Int32) = nI 0 from rfl]
  have e : (if nI 0 < nI (min j 3) then nI (min j 3) else nI 0) = nI j := by
    rw [show min j 3 = j by omega]
    by_cases c : 0 < j
    · rw [if_pos (nI_lt c (by omega))]
    · obtain rfl : j = 0 := by omega
      rw [if_neg (by decide)]
  rw [e]
  show vp_in (4 * nI f + nI j) 36 ∧ Q (G 7 (4 * nI f + nI j).toNatClampNeg) F G
  rw [show (4 : Int32) * nI f + nI j = nI (4 * f + j) from by rw [show (4 : Int32) = nI 4 from rfl, pk_mul, nI_add], nI_clamp (show 4 * f + j < 2 ^ 31 by omega), c7 f hf j hj]
  exact ⟨xvin (by omega) (by omega), h⟩
theorem c_farmerIs : oX_farmerIs jo_I := by
  intro x1 x2 F G F' G' hI
  obtain ⟨⟨⟨w, t0, t1, hw, hd, h0, h1, r5, r7, hz⟩, _⟩, _⟩ := id hI
  unfold qX6_farmerIs
  rcases xrng x1 8 (by decide) with h | ⟨f, hf, rfl⟩
  · refine s6_isFarmer_no h ?_; (first | refine pN1 ?_ | refine pN2 ?_); refine s6_error (k := 1) (by decide) ?_; unfold qX7_farmerIs; refine s7_isFarmer_no h ?_; (first | refine pN1 ?_ | refine pN2 ?_); exact c_err (k := 1) (by decide) hI
  refine s6_isFarmer hf ?_; (first | refine pY1 ?_ | refine pY2 ?_)
  rcases xrng x2 8 (by decide) with h | ⟨i, hi, rfl⟩
  · refine s6_inG_no (l := 0) (n := 8) h ?_; (first | refine pN1 ?_ | refine pN2 ?_); refine s6_error (k := 1) (by decide) ?_; unfold qX7_farmerIs; refine s7_isFarmer hf ?_; (first | refine pY1 ?_ | refine pY2 ?_); refine s7_inG_no (l := 0) (n := 8) h ?_; (first | refine pN1 ?_ | refine pN2 ?_); exact c_err (k := 1) (by decide) hI
  refine s6_inG (l := 0) (n := 8) (by omega) hi (by decide) ?_; (first | refine pY1 ?_ | refine pY2 ?_)
  rw [xsub_0, xsub_0]
  refine s5_ofFarmer r5 (by omega) (by omega) (fun E eE H eH => ?_)
  unfold qX7_farmerIs
  refine s7_isFarmer hf ?_; (first | refine pY1 ?_ | refine pY2 ?_)
  refine s7_inG (l := 0) (n := 8) (by omega) hi (by decide) ?_; (first | refine pY1 ?_ | refine pY2 ?_)
  refine s7_itsW (by omega) (by omega) r7 ⟨rfl, ?_⟩
  rw [eE, eH]
  exact jo_scr hI (frN_now (fun _ _ => rfl) (fun _ _ => rfl)) (fun _ _ _ => rfl)
theorem c_seed : oX_seed jo_I := by
  intro x1 F G F' G' hI
  obtain ⟨⟨⟨w, t0, t1, hw, hd, h0, h1, r5, r7, hz⟩, hTp, hWt⟩, _⟩ := id hI
  intro F1 e
  unfold qX7_seed
  refine s7_change1 (k := 6) (by omega) ⟨hz, ?_⟩
  rw [e]
  refine jo_of hI ⟨fun k hk => vu_ne (by omega), fun _ _ => rfl⟩ ⟨⟨rfl, rfl, rfl⟩, fun k hk => xst_ne (by omega)⟩ ⟨⟨w, t0, t1, hw, hd, h0, h1, ?_, ?_, ?_⟩, ?_, ?_⟩
  · exact R5_c r5 (fun k hk h4 => vu_ne h4) (fun _ _ => rfl)
  · rw [xst_at]
    refine ⟨fun k a b => by rw [upd_ne (by omega)]; exact r7.1 k a b, tkS_congr (by omega) (fun k a b => upd_ne (by omega)) (by omega) r7.2.1, tkS_congr (by omega) (fun k a b => upd_ne (by omega)) (by omega) r7.2.2⟩
  · rw [vu_at, xst_at, upd_at]
  · obtain ⟨n, a, b, c, d⟩ := hTp
    rw [xst_at]
    exact ⟨n, a, by rw [vu_ne (by omega)]; exact b, by rw [upd_ne (by omega)]; exact c, fun i hi => by rw [upd_ne (by omega)]; exact d i hi⟩
  · obtain ⟨n, a, b, c, d⟩ := hWt
    rw [xst_at]
    exact ⟨n, a, by rw [vu_ne (by omega)]; exact b, by rw [upd_ne (by omega)]; exact c, fun i hi => by rw [upd_ne (by omega)]; exact d i hi⟩
theorem c_told : oX_told jo_I := by
  intro x1 F G F' G' hI
  unfold qX6_told
  rcases xrng1 x1 1 6 (by decide) (by decide) with h | ⟨k, hl, hk, rfl⟩
  · refine s6_inG_no (l := 1) (n := 6) h ?_; (first | refine pN1 ?_ | refine pN2 ?_); refine s6_error (k := 1) (by decide) ?_; unfold qX7_told; refine s7_inG_no (l := 1) (n := 6) h ?_; (first | refine pN1 ?_ | refine pN2 ?_); exact c_err (k := 1) (by decide) hI
  refine s6_inG (l := 1) (n := 6) hl hk (by decide) ?_; (first | refine pY1 ?_ | refine pY2 ?_)
  refine ⟨xvin (by omega) (by omega), ?_⟩
  unfold qX7_told
  refine s7_inG (l := 1) (n := 6) hl hk (by decide) ?_; (first | refine pY1 ?_ | refine pY2 ?_)
  refine ⟨xvin (by omega) (by omega), ?_, hI⟩
  rw [nI_clamp (show k < 2 ^ 31 by omega)]
  exact hI.2.2.1 k (by omega)
