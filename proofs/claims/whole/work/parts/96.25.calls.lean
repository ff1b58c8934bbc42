/-! calls: kinds, turns, what is counted -/
theorem c_farmer : oX_farmer jo_I := by
  intro x1 x2 F G F' G' hI
  obtain ⟨⟨⟨w, t0, t1, hw, hd, h0, h1, r5, r7, hz⟩, _⟩, _⟩ := id hI
  unfold qX6_farmer
  rcases xrng x1 8 (by decide) with h | ⟨f, hf, rfl⟩
  · refine s6_isFarmer_no h ?_; (first | refine pN1 ?_ | refine pN2 ?_); refine s6_error (k := 1) (by decide) ?_; unfold qX7_farmer; refine s7_isFarmer_no h ?_; (first | refine pN1 ?_ | refine pN2 ?_); exact c_err (k := 1) (by decide) hI
  refine s6_isFarmer hf ?_; (first | refine pY1 ?_ | refine pY2 ?_)
  rcases xrng x2 69 (by decide) with h | ⟨k, hk, rfl⟩
  · refine s6_inG_no (l := 0) (n := 69) h ?_; (first | refine pN1 ?_ | refine pN2 ?_); refine s6_error (k := 1) (by decide) ?_; unfold qX7_farmer; refine s7_isFarmer hf ?_; (first | refine pY1 ?_ | refine pY2 ?_); refine s7_inG_no (l := 0) (n := 69) h ?_; (first | refine pN1 ?_ | refine pN2 ?_); exact c_err (k := 1) (by decide) hI
  refine s6_inG (l := 0) (n := 69) (by omega) hk (by decide) ?_; (first | refine pY1 ?_ | refine pY2 ?_)
  have e10 : nI k / (10 : Int32) = nI (k / 10) := pk_div (d := 10) (by omega) (by omega) (by omega)
  have r10 : nI k - nI k / (10 : Int32) * (10 : Int32) = nI (k % 10) := pk_rem (d := 10) (by omega) (by omega) (by omega)
  rw [r10, e10, nI_clamp (show f < 2 ^ 31 by omega), r5.2.2.2.1 f (by omega), r5.2.2.2.2.1 f (by omega)]
  refine ⟨xvin (by omega) (by omega), xvin (by omega) (by omega), xvin (by omega) (by omega), fun G1 e => ⟨xvin (by omega) (by omega), fun G2 e2 => ?_⟩⟩
  unfold qX7_farmer
  refine s7_isFarmer hf ?_; (first | refine pY1 ?_ | refine pY2 ?_)
  refine s7_inG (l := 0) (n := 69) (by omega) hk (by decide) ?_; (first | refine pY1 ?_ | refine pY2 ?_)
  refine s7_itsW (i := 0) (by omega) (by omega) r7 (s7_itsW (i := 1) (by omega) (by omega) r7 ?_)
  rw [r10, e10]
  refine s7_lays1 (what := 0) (by omega) (by omega) (s7_lays1 (what := 1) (by omega) (by omega) ⟨rfl, ?_⟩)
  have q5 : R5 (wU (wU w (40 + 9 * f + 0) (k / 10)) (40 + 9 * f + 1) (k % 10)) t0 t1 F G2 := by rw [e2]; refine R5_s_mark ?_ (by omega); rw [e]; exact R5_s_kind r5 (by omega)
  have m10 : k % 10 < 10 := Nat.mod_lt _ (by omega)
  refine jo_now hI (by rw [e2]; refine frW_tr ?_ (frW_g (by omega)); rw [e]; exact frW_g (by omega)) (fr7_tr (fr7_0 (by omega)) (fr7_0 (by omega))) (Wok_s_mark (f := f) (v := k % 10) (Wok_s_kind (f := f) (v := k / 10) hw (by omega) (by omega)) (by omega) (by omega)) (by rw [wU_ne (by omega), wU_ne (by omega)]; exact hd) h0 h1 q5 ?_
  rw [xst_at, xst_at]
  exact R7_upd (R7_upd r7 (by omega)) (by omega)
def ofk (a b : Nat) : Int32 := if b = 0 then 1 else if a = b then 1 else if b = 1 then (if a = 4 then 1 else 0) else if b = 2 then (if a = 5 then 1 else 0) else 0
theorem ofk_01 (a b : Nat) : ofk a b = 0 ∨ ofk a b = 1 := by
  unfold ofk
  repeat' split
  all_goals first | exact Or.inl rfl | exact Or.inr rfl
theorem ok_st {a b k n : Nat} {Q : Int32 → Prop} (hk : k < 7) (ha : a ≤ 6) (hb : b ≤ 6) (h1 : a = b → Q 1) (h2 : a ≠ b → qX6_isOfKind_4 Q n (nI b) (xt_above.getD a 0) (nI (k + 1))) : qX6_isOfKind_4 Q (n + 1) (nI b) (nI a) (nI k) := by
  refine ⟨fun c => absurd (show nI 7 ≤ nI k from c) (nI_ge (by omega) (by omega)), fun _ => ⟨fun c => absurd c (nI_pos (by omega)), fun _ => eq_dec' (by omega) (by omega) h1 (fun e => ⟨xvin (show a < 7 by omega) (by decide), ?_⟩)⟩⟩
  rw [nI_clamp (by omega), show nI k + (1 : Int32) = nI (k + 1) from nI_1 k]
  exact h2 e
theorem ok_en {b k n : Nat} {Q : Int32 → Prop} (hk : k < 7) (h : Q 0) : qX6_isOfKind_4 Q (n + 1) (nI b) (-1) (nI k) := ⟨fun c => absurd (show nI 7 ≤ nI k from c) (nI_ge (by omega) (by omega)), fun _ => ⟨fun _ => h, fun c => absurd (by decide) c⟩⟩
theorem s6_ofk {a b : Nat} {Q : Int32 → Prop} (ha : a ≤ 6) (hb : b ≤ 6) (h : Q (ofk a b)) : qX6_isOfKind (nI a) (nI b) Q := by
  have z : ∀ {n k : Nat}, k < 6 → (b = 0 → Q 1) → (b ≠ 0 → Q 0) → qX6_isOfKind_4 Q (n + 2) (nI b) (nI 0) (nI k) := fun {n k} hk p q => ok_st (by omega) (by omega) hb (fun e => p e.symm) (fun e => ok_en (by omega) (q (fun x => e x.symm)))
  refine ⟨5, ?_⟩
  unfold ofk at h
  rcases (by omega : a = 0 ∨ a = 1 ∨ a = 2 ∨ a = 3 ∨ a = 4 ∨ a = 5 ∨ a = 6) with rfl | rfl | rfl | rfl | rfl | rfl | rfl
  · refine z (k := 0) (by omega) (fun e => ?_) (fun e => ?_)
    · simpa [e] using h
    · rw [if_neg e, if_neg (fun q => e q.symm)] at h; simpa using h
  · refine ok_st (k := 0) (by omega) (by omega) hb (fun e => ?_) (fun e => z (by omega) (fun e0 => ?_) (fun e0 => ?_))
    · rw [if_neg (by omega), if_pos e] at h; exact h
    · rw [if_pos e0] at h; exact h
    · rw [if_neg e0, if_neg e] at h; simpa using h
  · refine ok_st (k := 0) (by omega) (by omega) hb (fun e => ?_) (fun e => z (by omega) (fun e0 => ?_) (fun e0 => ?_))
    · rw [if_neg (by omega), if_pos e] at h; exact h
    · rw [if_pos e0] at h; exact h
    · rw [if_neg e0, if_neg e] at h; simpa using h
  · refine ok_st (k := 0) (by omega) (by omega) hb (fun e => ?_) (fun e => z (by omega) (fun e0 => ?_) (fun e0 => ?_))
    · rw [if_neg (by omega), if_pos e] at h; exact h
    · rw [if_pos e0] at h; exact h
    · rw [if_neg e0, if_neg e] at h; simpa using h
  · refine ok_st (k := 0) (by omega) (by omega) hb (fun e => ?_) (fun e => ok_st (a := 1) (by omega) (by omega) hb (fun e1 => ?_) (fun e1 => z (by omega) (fun e0 => ?_) (fun e0 => ?_)))
    · rw [if_neg (by omega), if_pos e] at h; exact h
    · rw [if_neg (by omega), if_neg e, if_pos e1.symm] at h; simpa using h
    · rw [if_pos e0] at h; exact h
    · rw [if_neg e0, if_neg e, if_neg (fun q => e1 q.symm)] at h; simpa using h
  · refine ok_st (k := 0) (by omega) (by omega) hb (fun e => ?_) (fun e => ok_st (a := 2) (by omega) (by omega) hb (fun e1 => ?_) (fun e1 => z (by omega) (fun e0 => ?_) (fun e0 => ?_)))
    · rw [if_neg (by omega), if_pos e] at h; exact h
    · rw [if_neg (by omega), if_neg e, if_neg (by omega), if_pos e1.symm] at h; simpa using h
    · rw [if_pos e0] at h; exact h
    · rw [if_neg e0, if_neg e, if_neg (show ¬ b = 2 from fun q => e1 q.symm)] at h; simpa using h
  · refine ok_st (k := 0) (by omega) (by omega) hb (fun e => ?_) (fun e => z (by omega) (fun e0 => ?_) (fun e0 => ?_))
    · rw [if_neg (by omega), if_pos e] at h; exact h
    · rw [if_pos e0] at h; exact h
    · rw [if_neg e0, if_neg e] at h; simpa using h
theorem s7_ofk {a b : Nat} {Q : Int32 → Prop} (ha : a ≤ 6) (hb : b ≤ 6) (h : Q (ofk a b)) : qX7_isUnder (nI a) (nI b) Q := by
  unfold ofk at h
  refine eq_dec (b := 0) (by omega) (by decide) (fun e => ?_) (fun n0 => ?_)
  · rw [if_pos e] at h; exact h
  rw [if_neg n0] at h
  refine eq_dec (by omega) (by omega) (fun e => ?_) (fun ne => ?_)
  · rw [if_pos e] at h; exact h
  rw [if_neg ne] at h
  refine eq_dec' (b := 1) (by omega) (by decide) (fun e => ?_) (fun n1 => ?_)
  · rw [if_pos e] at h
    refine eq_dec (b := 4) (by omega) (by decide) (fun e4 => ?_) (fun n4 => ?_)
    · rw [if_pos e4] at h; exact h
    · rw [if_neg n4] at h
      exact eq_dec' (b := 2) (by omega) (by decide) (fun q => absurd q (by omega)) (fun _ => h)
  · rw [if_neg n1] at h
    refine eq_dec' (b := 2) (by omega) (by decide) (fun e => ?_) (fun n2 => ?_)
    · rw [if_pos e] at h
      refine eq_dec' (b := 5) (by omega) (by decide) (fun e5 => ?_) (fun n5 => ?_)
      · rw [if_pos e5] at h; exact h
      · rw [if_neg n5] at h; exact h
    · rw [if_neg n2] at h; exact h
theorem c_as : oX_as jo_I := by
  intro x1 x2 F G F' G' hI
  obtain ⟨⟨⟨w, t0, t1, hw, hd, h0, h1, r5, r7, hz⟩, _⟩, _⟩ := id hI
  unfold qX6_as
  rcases xrng x1 8 (by decide) with h | ⟨f, hf, rfl⟩
  · refine s6_isFarmer_no h ?_; (first | refine pN1 ?_ | refine pN2 ?_); refine s6_error (k := 1) (by decide) ?_; unfold qX7_as; refine s7_isFarmer_no h ?_; (first | refine pN1 ?_ | refine pN2 ?_); exact c_err (k := 1) (by decide) hI
  refine s6_isFarmer hf ?_; (first | refine pY1 ?_ | refine pY2 ?_)
  rcases xrng x2 6 (by decide) with h | ⟨k, hk, rfl⟩
  · refine s6_inG_no (l := 0) (n := 6) h ?_; (first | refine pN1 ?_ | refine pN2 ?_); refine s6_error (k := 1) (by decide) ?_; unfold qX7_as; refine s7_isFarmer hf ?_; (first | refine pY1 ?_ | refine pY2 ?_); refine s7_inG_no (l := 0) (n := 6) h ?_; (first | refine pN1 ?_ | refine pN2 ?_); exact c_err (k := 1) (by decide) hI
  refine s6_inG (l := 0) (n := 6) (by omega) hk (by decide) ?_; (first | refine pY1 ?_ | refine pY2 ?_)
  have h6 := (hw.2.2.2.2.1 f (by omega)).1
  rw [nI_clamp (show f < 2 ^ 31 by omega), r5.2.2.2.1 f (by omega), r5.2.2.2.2.1 f (by omega)]
  refine ⟨xvin (by omega) (by omega), s6_ofk h6 hk ?_⟩
  have seven : ∀ {Q : Int32 → xF → xA → Prop}, (ofk (wF w f 0) k = 0 → qX7_error (5 : Int32) F' G' Q) → (ofk (wF w f 0) k = 1 → Q (nI (wF w f 1)) F' G') → qX7_as (nI f) (nI k) F' G' Q := by
    intro Q p q
    unfold qX7_as
    refine s7_isFarmer hf ?_; (first | refine pY1 ?_ | refine pY2 ?_)
    refine s7_inG (l := 0) (n := 6) (by omega) hk (by decide) ?_; (first | refine pY1 ?_ | refine pY2 ?_)
    refine s7_itsW (i := 0) (by omega) (by omega) r7 (s7_ofk h6 hk ?_)
    rcases ofk_01 (wF w f 0) k with e | e
    · rw [e]; (first | refine pN1 ?_ | refine pN2 ?_); exact p e
    · rw [e]; (first | refine pY1 ?_ | refine pY2 ?_); exact s7_itsW (i := 1) (by omega) (by omega) r7 (q e)
  rcases ofk_01 (wF w f 0) k with e | e
  · rw [e]; (first | refine pN1 ?_ | refine pN2 ?_); refine s6_error (k := 5) (by decide) ?_; exact seven (fun _ => c_err (k := 5) (by decide) hI) (fun q => by rw [e] at q; exact absurd q (by decide))
  · rw [e]; (first | refine pY1 ?_ | refine pY2 ?_); exact ⟨xvin (by omega) (by omega), seven (fun q => by rw [e] at q; exact absurd q (by decide)) (fun _ => ⟨rfl, hI⟩)⟩
/-! two change their turns -/
def swW (w : wW) (a b : Nat) : wW := wU (wU w (40 + 9 * a + 4) (wF w b 4)) (40 + 9 * b + 4) (wF w a 4)
theorem swW_ne {w : wW} {a b j : Nat} (h : ¬ (40 ≤ j ∧ (j - 40) % 9 = 4)) : swW w a b j = w j := by
  unfold swW
  rw [wU_ne (by omega), wU_ne (by omega)]
theorem swW_f {w : wW} {a b f i : Nat} (hi : i < 9) (h : i ≠ 4) : wF (swW w a b) f i = wF w f i := swW_ne (by omega)
theorem swW_b {w : wW} {a b : Nat} : wF (swW w a b) b 4 = wF w a 4 := by
  unfold swW wF
  rw [wU_at]
theorem swW_a {w : wW} {a b : Nat} : wF (swW w a b) a 4 = wF w b 4 := by
  unfold swW wF
  by_cases e : a = b
  · subst e; rw [wU_at]
  · rw [wU_ne (by omega), wU_at]
theorem swW_o {w : wW} {a b f : Nat} (ha : f ≠ a) (hb : f ≠ b) : wF (swW w a b) f 4 = wF w f 4 := by
  unfold swW wF
  rw [wU_ne (by omega), wU_ne (by omega)]
theorem Wok_swW {w : wW} {a b : Nat} (ha : a < 9) (hb : b < 9) (h : Wok w) : Wok (swW w a b) := by
  obtain ⟨a1, a2, a3, a4, a5, a6, a7⟩ := h
  have e : ∀ f i, i < 9 → i ≠ 4 → wF (swW w a b) f i = wF w f i := fun f i hi h4 => swW_f hi h4
  refine ⟨by rw [swW_ne (by omega)]; exact a1, by rw [swW_ne (by omega)]; exact a2, by rw [swW_ne (by omega)]; exact a3, fun c hc => ⟨?_, ?_⟩, fun f hf => ⟨?_, ?_, ?_, ?_, ?_⟩, fun f hf i hi => ?_, fun d hd => ?_⟩
  · show swW w a b (8 + c) < 9
    rw [swW_ne (by omega)]; exact (a4 c hc).1
  · show swW w a b (24 + c) ≤ 999
    rw [swW_ne (by omega)]; exact (a4 c hc).2
  · rw [e f 0 (by omega) (by omega)]; exact (a5 f hf).1
  · rw [e f 1 (by omega) (by omega)]; exact (a5 f hf).2.1
  · rw [e f 2 (by omega) (by omega)]; exact (a5 f hf).2.2.1
  · rw [e f 3 (by omega) (by omega)]; exact (a5 f hf).2.2.2.1
  · by_cases ea : f = a
    · subst ea; rw [swW_a]; exact (a5 b hb).2.2.2.2
    · by_cases eb : f = b
      · subst eb; rw [swW_b]; exact (a5 a ha).2.2.2.2
      · rw [swW_o ea eb]; exact (a5 f hf).2.2.2.2
  · rw [e f (5 + i) (by omega) (by omega)]; exact a6 f hf i hi
  · obtain ⟨f, hf, q⟩ := a7 d hd
    by_cases ea : f = a
    · subst ea; exact ⟨b, hb, by rw [swW_b]; exact q⟩
    · by_cases eb : f = b
      · subst eb; exact ⟨a, ha, by rw [swW_a]; exact q⟩
      · exact ⟨f, hf, by rw [swW_o ea eb]; exact q⟩
theorem s5_changeTurns {w : wW} {t0 t1 : wT} {F : xF} {G : xA} {Q : xF → xA → Prop} {a b : Nat} (r5 : R5 w t0 t1 F G) (ha : a < 9) (hb : b < 9) (h : ∀ G', R5 (swW w a b) t0 t1 F G' → (∀ k, k ≠ 6 → G' k = G k) → Q F G') : qX5_changeTurns (nI a) (nI b) F G Q := by
  unfold qX5_changeTurns
  rw [nI_clamp (show a < 2 ^ 31 by omega), nI_clamp (show b < 2 ^ 31 by omega), r5.2.2.2.2.2.2.2.1 a ha, r5.2.2.2.2.2.2.2.1 b hb]
  refine ⟨xvin ha (by omega), xvin hb (by omega), xvin ha (by omega), fun G1 e1 => ⟨xvin hb (by omega), fun G2 e2 => h G2 ?_ (fun k hk => by rw [e2, xst_ne hk, e1, xst_ne hk])⟩⟩
  rw [e2]
  refine R5_s_turn ?_ hb
  rw [e1]
  exact R5_s_turn r5 ha
theorem s7_trades {w : wW} {t0 t1 : wT} {F : xF} {G : xA} {Q : xF → xA → Prop} {a b : Nat} (r7 : R7 w t0 t1 (G 0)) (ha : a < 9) (hb : b < 9) (h : ∀ G', R7 (swW w a b) t0 t1 (G' 0) → G' 0 = upd (upd (G 0) (40 + 9 * a + 4) (G 0 (40 + 9 * b + 4))) (40 + 9 * b + 4) (G 0 (40 + 9 * a + 4)) → (∀ k, k ≠ 0 → G' k = G k) → Q F G') : qX7_trades (nI a) (nI b) F G Q := by
  unfold qX7_trades
  refine s7_itsW (i := 4) ha (by omega) r7 (s7_itsW (i := 4) hb (by omega) r7 (s7_lays1 (what := 4) ha (by omega) (s7_lays1 (what := 4) hb (by omega) (h _ ?_ ?_ (fun k hk => by rw [xst_ne hk, xst_ne hk])))))
  · rw [xst_at, xst_at]
    exact R7_upd (R7_upd r7 (by omega)) (by omega)
  · rw [xst_at, xst_at, R7_f r7 ha (by omega), R7_f r7 hb (by omega)]
theorem c_trade : oX_trade jo_I := by
  intro x1 x2 F G F' G' hI
  obtain ⟨⟨⟨w, t0, t1, hw, hd, h0, h1, r5, r7, hz⟩, _⟩, _⟩ := id hI
  unfold qX6_trade
  rcases xrng x1 8 (by decide) with h | ⟨a, ha, rfl⟩
  · refine s6_isFarmer_no h ?_; (first | refine pN1 ?_ | refine pN2 ?_); refine s6_error (k := 1) (by decide) ?_; unfold qX7_trade; refine s7_isFarmer_no h ?_; (first | refine pN1 ?_ | refine pN2 ?_); exact c_err (k := 1) (by decide) hI
  refine s6_isFarmer ha ?_; (first | refine pY1 ?_ | refine pY2 ?_)
  rcases xrng x2 8 (by decide) with h | ⟨b, hb, rfl⟩
  · refine s6_isFarmer_no h ?_; (first | refine pN1 ?_ | refine pN2 ?_); refine s6_error (k := 1) (by decide) ?_; unfold qX7_trade; refine s7_isFarmer ha ?_; (first | refine pY1 ?_ | refine pY2 ?_); refine s7_isFarmer_no h ?_; (first | refine pN1 ?_ | refine pN2 ?_); exact c_err (k := 1) (by decide) hI
  refine s6_isFarmer hb ?_; (first | refine pY1 ?_ | refine pY2 ?_)
  rw [xsub_0, xsub_0]
  refine s5_changeTurns r5 (by omega) (by omega) (fun G1 q5 hG1 => fun E eE H eH => ⟨xvin (by omega) (by omega), ?_⟩)
  have qE : R5 (swW w a b) t0 t1 E H := by rw [eE, eH]; exact R5_now q5
  rw [nI_clamp (show a < 2 ^ 31 by omega), qE.2.2.2.2.2.2.2.1 a (by omega)]
  unfold qX7_trade
  refine s7_isFarmer ha ?_; (first | refine pY1 ?_ | refine pY2 ?_)
  refine s7_isFarmer hb ?_; (first | refine pY1 ?_ | refine pY2 ?_)
  refine s7_trades r7 (by omega) (by omega) (fun G2 q7 e2 hG2 => s7_itsW (i := 4) (by omega) (by omega) q7 ⟨rfl, ?_⟩)
  refine jo_now hI (by rw [eE, eH]; exact frW_now rfl) ⟨fun k a _ _ _ => hG2 k a, fun j hj => by rw [e2, upd_ne (by omega), upd_ne (by omega)]⟩ (Wok_swW (by omega) (by omega) hw) (by rw [swW_ne (by omega)]; exact hd) h0 h1 qE q7
/-! up to one number less 1 -/
theorem nI_m1_lt {n : Nat} {x : Int32} (hn : n < 2 ^ 30) (h : nI n ≤ x) : nI n - (1 : Int32) < x := by
  rw [Int32.lt_iff_toInt_lt]
  rw [Int32.le_iff_toInt_le, nI_toInt (by omega)] at h
  have := pk_sub_toInt (a := n) (b := 1) hn (by decide)
  rw [show (1 : Int32) = nI 1 from rfl]
  omega
theorem nI_m1_ge {n k : Nat} (hn : n < 2 ^ 30) (h : k < n) : ¬ nI n - (1 : Int32) < nI k := by
  rw [show (1 : Int32) = nI 1 from rfl, pk_sub (by omega)]
  exact nI_nlt (by omega) (by omega)
theorem s6_upto_no {n : Nat} {x : Int32} {Q : Int32 → Prop} (hn : n < 2 ^ 30) (h : x < 0 ∨ nI n ≤ x) (q : Q 0) : qX6_within x 0 (nI n - 1) Q := s6_within (by
  by_cases c : x < 0
  · rw [if_pos c]; exact q
  · rw [if_neg c, if_pos (nI_m1_lt hn (h.resolve_left c))]; exact q)
theorem s6_upto {n k : Nat} {Q : Int32 → Prop} (hn : n < 2 ^ 30) (h : k < n) (q : Q 1) : qX6_within (nI k) 0 (nI n - 1) Q := s6_within (by rw [if_neg (nI_pos (by omega)), if_neg (nI_m1_ge hn h)]; exact q)
theorem s7_upto_no {n : Nat} {x : Int32} {Q : Int32 → Prop} (hn : n < 2 ^ 30) (h : x < 0 ∨ nI n ≤ x) (q : Q 0) : qX7_in x 0 (nI n - 1) Q := s7_in (by
  by_cases c : x < 0
  · rw [if_pos c]; exact q
  · rw [if_neg c, if_pos (nI_m1_lt hn (h.resolve_left c))]; exact q)
theorem s7_upto {n k : Nat} {Q : Int32 → Prop} (hn : n < 2 ^ 30) (h : k < n) (q : Q 1) : qX7_in (nI k) 0 (nI n - 1) Q := s7_in (by rw [if_neg (nI_pos (by omega)), if_neg (nI_m1_ge hn h)]; exact q)
theorem xix (x : Int32) {n : Nat} (hn : n < 2 ^ 31) : (x < 0 ∨ nI n ≤ x) ∨ ∃ j : Nat, j < n ∧ x = nI j := by
  rcases pk_ix x hn with h | h | h
  · exact Or.inl (Or.inl h)
  · exact Or.inl (Or.inr h)
  · exact Or.inr h
/-- the frames of a block that is laid in as it was -/
theorem xspl_same {α : Type} (f : Nat → α) (o n : Nat) : xspl f o n (xsub f o) = f := xspl_sub f o n
theorem c_body : oX_body jo_I := by
  intro x1 F G F' G' hI
  obtain ⟨n, hn, e1, e2, hc⟩ := hI.2.2.2.1
  unfold qX6_body
  rw [e1]
  rcases xix x1 (n := n) (by omega) with h | ⟨k, hk, rfl⟩
  · refine s6_upto_no (by omega) h ?_; (first | refine pN1 ?_ | refine pN2 ?_); refine s6_error (k := 2) (by decide) ?_; unfold qX7_body; rw [e2]; refine s7_upto_no (by omega) h ?_; (first | refine pN1 ?_ | refine pN2 ?_); exact c_err (k := 2) (by decide) hI
  refine s6_upto (by omega) hk ?_; (first | refine pY1 ?_ | refine pY2 ?_)
  refine s1_at (N := 30) (len := n) hk hn (by decide) (show F (41 + 0) = _ from e1) ?_
  intro E eE H eH
  rw [xspl_sub] at eE eH
  rw [eE, eH]
  unfold qX7_body
  rw [e2]
  refine s7_upto (by omega) hk ?_; (first | refine pY1 ?_ | refine pY2 ?_)
  rw [nI_clamp (show k < 2 ^ 31 by omega)]
  exact ⟨xvin (by omega) (by omega), hc k hk, hI⟩
theorem c_tell : oX_tell jo_I := by
  intro x1 F G F' G' hI
  obtain ⟨⟨⟨w, t0, t1, hw, hd, h0, h1, r5, r7, hz⟩, hTp, n, hn, e1, e2, hc⟩, _⟩ := id hI
  unfold qX6_tell
  rw [e1]
  by_cases c : n = 24
  · refine ⟨fun q => absurd (show nI n < nI 24 from q) (nI_nlt (by omega) (by omega)), fun _ => ?_⟩
    refine s6_error (k := 4) (by decide) ?_; unfold qX7_tell; rw [e2, c]; refine ⟨fun q => absurd rfl q, fun _ => ?_⟩; exact c_err (k := 4) (by decide) hI
  refine ⟨fun _ => ⟨fun q => ?_, fun _ => ?_⟩, fun q => absurd (show nI n < nI 24 from nI_lt (by omega) (by omega)) q⟩
  · have q' : nI 24 ≤ nI n := by rw [← e1]; exact q
    exact absurd q' (nI_ge (by omega) (by omega))
  have f0 : xsub F 30 0 = nI n := e1
  have g0 : xsub G 57 0 = G 57 := rfl
  rw [f0]
  refine ⟨xvin (by omega) (by omega), fun G1 eG F1 eF E eE H eH => ?_⟩
  have E30 : E 30 = nI (n + 1) := by
    rw [eE, show (30 : Nat) = 30 + 0 from rfl, xspl_in (by omega), eF, vu_at, nI_1]
  have Eo : ∀ k, k ≠ 30 → E k = F k := fun k hk => by rw [eE, xspl_out (by omega)]
  have H57 : H 57 = upd (G 57) n x1 := by
    rw [eH, show (57 : Nat) = 57 + 0 from rfl, xspl_in (by omega), eG, xst_at, nI_clamp (by omega)]; rfl
  have Ho : ∀ k, k ≠ 57 → H k = G k := fun k hk => by rw [eH, xspl_out (by omega)]
  rw [E30]
  unfold qX7_tell
  rw [e2]
  refine ⟨fun _ => ?_, fun q => absurd ((nI_eq (by omega) (by decide)).mp (show nI n = nI 24 from q)) c⟩
  rw [show (431 : Int32) + nI n = nI (431 + n) from nI_add 431 n]
  refine ⟨xvin (by omega) (by omega), fun G2 e3 G3 e4 => ?_⟩
  rw [nI_clamp (by omega)] at e3
  have s2 : G2 0 5 = nI n := by rw [e3, xst_at, upd_ne (by omega)]; exact e2
  rw [s2, nI_1] at e4
  have s3 : G3 0 = upd (upd (G' 0) (431 + n) x1) 5 (nI (n + 1)) := by rw [e4, xst_at, e3, xst_at]
  have so : ∀ k, k ≠ 0 → G3 k = G' k := fun k hk => by rw [e4, xst_ne hk, e3, xst_ne hk]
  refine ⟨by rw [s3, upd_at], jo_of hI ⟨fun k hk => Eo k (by omega), fun k hk => Ho k (by omega)⟩ ⟨⟨rfl, rfl, rfl⟩, fun k hk => so k (by omega)⟩ ⟨⟨w, t0, t1, hw, hd, h0, h1, R5_c r5 (fun k hk _ => Eo k (by omega)) (fun k hk => Ho k (by omega)), ?_, ?_⟩, ?_, ?_⟩⟩
  · rw [s3]
    refine ⟨fun k a b => by rw [upd_ne (by omega), upd_ne (by omega)]; exact r7.1 k a b, tkS_congr (by omega) (fun k a b => by rw [upd_ne (by omega), upd_ne (by omega)]) (by omega) r7.2.1, tkS_congr (by omega) (fun k a b => by rw [upd_ne (by omega), upd_ne (by omega)]) (by omega) r7.2.2⟩
  · rw [Eo 4 (by omega), s3, upd_ne (by omega), upd_ne (by omega)]; exact hz
  · obtain ⟨m, a, b, d, e⟩ := hTp
    refine ⟨m, a, by rw [Eo 29 (by omega)]; exact b, by rw [s3, upd_ne (by omega), upd_ne (by omega)]; exact d, fun i hi => ?_⟩
    rw [Ho 56 (by omega), s3, upd_ne (by omega), upd_ne (by omega)]; exact e i hi
  · refine ⟨n + 1, by omega, E30, by rw [s3, upd_at], fun i hi => ?_⟩
    rw [H57, s3, upd_ne (show 431 + i ≠ 5 by omega)]
    by_cases z : i = n
    · subst z; rw [upd_at, upd_at]
    · rw [upd_ne z, upd_ne (by omega)]; exact hc i (by omega)
