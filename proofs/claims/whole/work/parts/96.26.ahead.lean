/-! what goes ahead: the state laid down and back; a world taken over -/
theorem s7_carry_1_3 {F : xF} {G : xA} {Q : xF → xA → Prop} (h : ∀ p, (∀ a, a < 121 → p a = G 0 a) → (∀ a, 121 ≤ a → p a = G 2 a) → Q F (va_up G 2 p)) : qX7_carry_1_3 121 F G Q := by
  have key : ∀ (m k : Nat) (p : Nat → Int32), k + m = 121 → (∀ a, a < k → p a = G 0 a) → (∀ a, k ≤ a → p a = G 2 a) → qX7_carry_1_3_2 Q (m + 1) (nI 121) (nI k) F (va_up G 2 p) := by
    intro m
    induction m with
    | zero =>
      intro k p hk hp hq
      obtain rfl : k = 121 := by omega
      exact ⟨fun _ => h p hp hq, fun c => absurd (nI_le (a := 121) (b := 121) (Nat.le_refl _) (by decide)) c⟩
    | succ m ih =>
      intro k p hk hp hq
      refine ⟨fun c => absurd c (nI_ge (by omega) (by omega)), fun _ => ⟨xvin (by omega) (by omega), xvin (by omega) (by omega), fun G1 e => ?_⟩⟩
      rw [nI_clamp (show k < 2 ^ 31 by omega), vu_ne (by omega), xst_up] at e
      rw [e, show nI k + (1 : Int32) = nI (k + 1) from nI_1 k]
      refine ih (k + 1) _ (by omega) (fun a ha => ?_) (fun a ha => by rw [upd_ne (by omega)]; exact hq a (by omega))
      by_cases c : a = k
      · subst c; rw [upd_at]
      · rw [upd_ne c]; exact hp a (by omega)
  have := key 121 0 (G 2) (by omega) (fun a ha => by omega) (fun a _ => rfl)
  rw [xup_self] at this
  exact ⟨121+1, this⟩
theorem s7_carry_3_1 {F : xF} {G : xA} {Q : xF → xA → Prop} (h : ∀ p, (∀ a, a < 121 → p a = G 2 a) → (∀ a, 121 ≤ a → p a = G 0 a) → Q F (va_up G 0 p)) : qX7_carry_3_1 121 F G Q := by
  have key : ∀ (m k : Nat) (p : Nat → Int32), k + m = 121 → (∀ a, a < k → p a = G 2 a) → (∀ a, k ≤ a → p a = G 0 a) → qX7_carry_3_1_2 Q (m + 1) (nI 121) (nI k) F (va_up G 0 p) := by
    intro m
    induction m with
    | zero =>
      intro k p hk hp hq
      obtain rfl : k = 121 := by omega
      exact ⟨fun _ => h p hp hq, fun c => absurd (nI_le (a := 121) (b := 121) (Nat.le_refl _) (by decide)) c⟩
    | succ m ih =>
      intro k p hk hp hq
      refine ⟨fun c => absurd c (nI_ge (by omega) (by omega)), fun _ => ⟨xvin (by omega) (by omega), xvin (by omega) (by omega), fun G1 e => ?_⟩⟩
      rw [nI_clamp (show k < 2 ^ 31 by omega), vu_ne (by omega), xst_up] at e
      rw [e, show nI k + (1 : Int32) = nI (k + 1) from nI_1 k]
      refine ih (k + 1) _ (by omega) (fun a ha => ?_) (fun a ha => by rw [upd_ne (by omega)]; exact hq a (by omega))
      by_cases c : a = k
      · subst c; rw [upd_at]
      · rw [upd_ne c]; exact hp a (by omega)
  have := key 121 0 (G 0) (by omega) (fun a ha => by omega) (fun a _ => rfl)
  rw [xup_self] at this
  exact ⟨121+1, this⟩
theorem s7_carry_1_2 {F : xF} {G : xA} {Q : xF → xA → Prop} (h : ∀ p, (∀ a, a < 455 → p a = G 0 a) → (∀ a, 455 ≤ a → p a = G 1 a) → Q F (va_up G 1 p)) : qX7_carry_1_2 455 F G Q := by
  have key : ∀ (m k : Nat) (p : Nat → Int32), k + m = 455 → (∀ a, a < k → p a = G 0 a) → (∀ a, k ≤ a → p a = G 1 a) → qX7_carry_1_2_2 Q (m + 1) (nI 455) (nI k) F (va_up G 1 p) := by
    intro m
    induction m with
    | zero =>
      intro k p hk hp hq
      obtain rfl : k = 455 := by omega
      exact ⟨fun _ => h p hp hq, fun c => absurd (nI_le (a := 455) (b := 455) (Nat.le_refl _) (by decide)) c⟩
    | succ m ih =>
      intro k p hk hp hq
      refine ⟨fun c => absurd c (nI_ge (by omega) (by omega)), fun _ => ⟨xvin (by omega) (by omega), xvin (by omega) (by omega), fun G1 e => ?_⟩⟩
      rw [nI_clamp (show k < 2 ^ 31 by omega), vu_ne (by omega), xst_up] at e
      rw [e, show nI k + (1 : Int32) = nI (k + 1) from nI_1 k]
      refine ih (k + 1) _ (by omega) (fun a ha => ?_) (fun a ha => by rw [upd_ne (by omega)]; exact hq a (by omega))
      by_cases c : a = k
      · subst c; rw [upd_at]
      · rw [upd_ne c]; exact hp a (by omega)
  have := key 455 0 (G 1) (by omega) (fun a ha => by omega) (fun a _ => rfl)
  rw [xup_self] at this
  exact ⟨455+1, this⟩
theorem s7_carry_2_1 {F : xF} {G : xA} {Q : xF → xA → Prop} (h : ∀ p, (∀ a, a < 455 → p a = G 1 a) → (∀ a, 455 ≤ a → p a = G 0 a) → Q F (va_up G 0 p)) : qX7_carry_2_1 455 F G Q := by
  have key : ∀ (m k : Nat) (p : Nat → Int32), k + m = 455 → (∀ a, a < k → p a = G 1 a) → (∀ a, k ≤ a → p a = G 0 a) → qX7_carry_2_1_2 Q (m + 1) (nI 455) (nI k) F (va_up G 0 p) := by
    intro m
    induction m with
    | zero =>
      intro k p hk hp hq
      obtain rfl : k = 455 := by omega
      exact ⟨fun _ => h p hp hq, fun c => absurd (nI_le (a := 455) (b := 455) (Nat.le_refl _) (by decide)) c⟩
    | succ m ih =>
      intro k p hk hp hq
      refine ⟨fun c => absurd c (nI_ge (by omega) (by omega)), fun _ => ⟨xvin (by omega) (by omega), xvin (by omega) (by omega), fun G1 e => ?_⟩⟩
      rw [nI_clamp (show k < 2 ^ 31 by omega), vu_ne (by omega), xst_up] at e
      rw [e, show nI k + (1 : Int32) = nI (k + 1) from nI_1 k]
      refine ih (k + 1) _ (by omega) (fun a ha => ?_) (fun a ha => by rw [upd_ne (by omega)]; exact hq a (by omega))
      by_cases c : a = k
      · subst c; rw [upd_at]
      · rw [upd_ne c]; exact hp a (by omega)
  have := key 455 0 (G 0) (by omega) (fun a ha => by omega) (fun a _ => rfl)
  rw [xup_self] at this
  exact ⟨455+1, this⟩
def dur7 (G G1 : xA) : Prop := (∀ k, k = 1 ∨ k = 3 ∨ (10 ≤ k ∧ k < 14) → G1 k = G k) ∧ (∀ k, k < 121 → G1 2 k = G 0 k) ∧ ∀ j, ((4 ≤ j ∧ j < 8) ∨ 121 ≤ j) → G1 0 j = G 0 j
theorem dur_fr {G G1 G2 : xA} (h : dur7 G G1) (f : fr7 G1 G2) : dur7 G G2 := ⟨fun k q => by rw [f.1 k (by omega) (by omega) (by omega) (by omega)]; exact h.1 k q, fun k q => by rw [f.1 2 (by omega) (by omega) (by omega) (by omega)]; exact h.2.1 k q, fun j q => by rw [f.2 j q]; exact h.2.2 j q⟩
theorem dur_ne {G G1 G2 : xA} (h : dur7 G G1) (f : ∀ k, (k < 4 ∨ (10 ≤ k ∧ k < 14)) → G2 k = G1 k) : dur7 G G2 := ⟨fun k q => by rw [f k (by omega)]; exact h.1 k q, fun k q => by rw [f 2 (by omega)]; exact h.2.1 k q, fun j q => by rw [f 0 (by omega)]; exact h.2.2 j q⟩
theorem s7_down {F : xF} {G : xA} {Q : xF → xA → Prop} (h : ∀ G1, dur7 G G1 → (∀ k, k ≠ 2 → G1 k = G k) → Q F G1) : qX7_layDown F G Q := s7_carry_1_3 (fun p hp _ => h _ ⟨fun k q => vu_ne (by omega), fun k q => by rw [vu_at]; exact hp k q, fun j _ => by rw [vu_ne (by omega)]⟩ (fun k hk => vu_ne hk))
theorem s7_back {F : xF} {G G1 : xA} {Q : xF → xA → Prop} (hd : dur7 G G1) (h : ∀ G2, G2 0 = G 0 → (∀ k, k ≠ 0 → G2 k = G1 k) → (∀ k, k = 1 ∨ k = 3 ∨ (10 ≤ k ∧ k < 14) → G2 k = G k) → Q F G2) : qX7_layBack F G1 Q := s7_carry_3_1 (fun p hp hq => by
  have e : p = G 0 := by
    funext k
    by_cases c : k < 121
    · rw [hp k c]; exact hd.2.1 k c
    · rw [hq k (by omega)]; exact hd.2.2 k (by omega)
  exact h _ (by rw [vu_at]; exact e) (fun k hk => vu_ne hk) (fun k hk => by rw [vu_ne (by omega)]; exact hd.1 k hk))
theorem cl0 : (0 : Int32).toNatClampNeg = 0 := rfl
theorem cl1 : (1 : Int32).toNatClampNeg = 1 := rfl
theorem cl4 : (4 : Int32).toNatClampNeg = 4 := rfl
theorem cl9' : (9 : Int32).toNatClampNeg = 9 := rfl
theorem cl16 : (16 : Int32).toNatClampNeg = 16 := rfl
theorem cl36 : (36 : Int32).toNatClampNeg = 36 := rfl
theorem cpy0 {α : Type} {f g : Nat → α} {n a : Nat} (h : a < n) : va_cpy f g 0 0 n a = f a := by
  have := pk_cpy_in (f := f) (g := g) (sp := 0) (dp := 0) (n := n) (j := a) (by omega) (by omega)
  rw [this]
  congr 1
  omega
theorem s1_takeB {N o p o2 p2 n : Nat} {F : xF} {G : xA} {K : xF → xA → Prop} (hN : N < 2 ^ 31) (hn : n ≤ N) (hop : o ≠ p) (hop2 : o2 ≠ p2) (e : F p = nI n) (h : K (va_up F o (nI n)) (va_up G o2 (va_cpy (G p2) (G o2) 0 0 n))) : qX1_takeFrom N N (xcat 1 (xsub F o) (xsub F p)) (xcat 1 (xsub G o2) (xsub G p2)) (fun F1 G1 => ∀ E : xF, E = xspl (xspl F o 1 F1) p 1 (xsub F1 1) → ∀ H : xA, H = xspl (xspl G o2 1 G1) p2 1 (xsub G1 1) → K E H) := by
  intro F1 eF
  have x1 : xcat 1 (xsub F o) (xsub F p) 1 = nI n := by rw [← e]; rfl
  rw [x1, show Int32.ofNat N = nI N from rfl] at eF
  have z : (if nI N < nI n then nI N else nI n) = nI n := by rw [if_neg (nI_nlt hn (by omega))]
  rw [z] at eF
  have f0 : F1 0 = nI n := by rw [eF, vu_at]
  have f1 : F1 1 = F p := by rw [eF, vu_ne (by omega), x1, e]
  rw [f0, nI_clamp (by omega), cl0]
  refine ⟨nI_pos (by omega), by omega, by omega, fun G1 eG E eE H eH => ?_⟩
  have g1 : xcat 1 (xsub G o2) (xsub G p2) 1 = G p2 := rfl
  have g0 : xcat 1 (xsub G o2) (xsub G p2) 0 = G o2 := rfl
  rw [g0, g1] at eG
  have hE : E = va_up F o (nI n) := by
    rw [eE]
    funext k
    by_cases c : k = p
    · subst c
      rw [show xspl (xspl F o 1 F1) k 1 (xsub F1 1) k = xsub F1 1 0 from xspl_in (o := k) (k := 0) (by omega), vu_ne (fun q => hop q.symm)]
      exact f1
    · rw [xspl_out (by omega)]
      by_cases d : k = o
      · subst d
        rw [show xspl F k 1 F1 k = F1 0 from xspl_in (o := k) (k := 0) (by omega), vu_at, f0]
      · rw [xspl_out (by omega), vu_ne d]
  have hH : H = va_up G o2 (va_cpy (G p2) (G o2) 0 0 n) := by
    rw [eH]
    funext k
    by_cases c : k = p2
    · subst c
      rw [show xspl (xspl G o2 1 G1) k 1 (xsub G1 1) k = xsub G1 1 0 from xspl_in (o := k) (k := 0) (by omega), vu_ne (fun q => hop2 q.symm)]
      show G1 1 = G k
      rw [eG, vu_ne (by omega), g1]
    · rw [xspl_out (by omega)]
      by_cases d : k = o2
      · subst d
        rw [show xspl G k 1 G1 k = G1 0 from xspl_in (o := k) (k := 0) (by omega), vu_at, eG, vu_at]
      · rw [xspl_out (by omega), vu_ne d]
  rw [hE, hH]
  exact h
theorem tkCd_cpy {u : Nat} {x : Int32} {g h : Nat → Int32} {t : wT} (q : tkCd u x g t) : tkCd u (nI t.length) (va_cpy g h 0 0 t.length) t := ⟨rfl, q.2.1, q.2.2.1, fun i hi => by rw [cpy0 hi]; exact q.2.2.2 i hi⟩
theorem s5_takeFrom {w : wW} {t0 t1 : wT} {F : xF} {G : xA} {Q : xF → xA → Prop} (r : R5 w t0 t1 (xsub F 7) (xsub G 14)) (h : ∀ F' G', R5 w t0 t1 F' G' → F' 4 = F 11 → (∀ a, a < 16 → G' 8 a = G 22 a) → (∀ k, 7 ≤ k → F' k = F k) → (∀ k, 14 ≤ k → G' k = G k) → Q F' G') : qX5_takeFrom F G Q := by
  obtain ⟨⟨f0, f1, f2, f3⟩, c0, c1, c2, c3, c4, c5, c6, c7, c8, c9⟩ := r
  have f0 : F 7 = nI (w 1) := f0
  have f1 : F 8 = nI (w 2) := f1
  have f2 : F 9 = nI (w 3) := f2
  have f3 : F 10 = nI (w 0) := f3
  have c0 : ∀ a, a < 16 → G 14 a = nI (wO w a) := c0
  have c1 : ∀ a, a < 16 → G 15 a = nI (wD w a) := c1
  have c2 : ∀ f, f < 9 → G 16 f = nI (wF w f 0) := c2
  have c3 : ∀ f, f < 9 → G 17 f = nI (wF w f 1) := c3
  have c4 : ∀ f, f < 9 → G 18 f = nI (wF w f 2) := c4
  have c5 : ∀ f, f < 9 → G 19 f = nI (wF w f 3) := c5
  have c6 : ∀ f, f < 9 → G 20 f = nI (wF w f 4) := c6
  have c7 : ∀ f, f < 9 → ∀ i, i < 4 → G 21 (4 * f + i) = nI (wF w f (5 + i)) := c7
  have c8 : tkCd 0 (F 12) (G 25) t0 := c8
  have c9 : tkCd 1 (F 13) (G 27) t1 := c9
  intro G1 e1 G2 e2 G3 e3 G4 e4 G5 e5 G6 e6 G7 e7
  rw [cl0, cl16] at e1
  rw [cl0, cl9'] at e2 e3 e4 e5 e6
  rw [cl0, cl36] at e7
  have k7 : ∀ k, k = 1 ∨ 8 ≤ k → G7 k = G k := fun k hk => by rw [e7, vu_ne (by omega), e6, vu_ne (by omega), e5, vu_ne (by omega), e4, vu_ne (by omega), e3, vu_ne (by omega), e2, vu_ne (by omega), e1, vu_ne (by omega)]
  refine s1_takeB (N := 60) (o := 5) (p := 12) (o2 := 11) (p2 := 25) (n := t0.length) (by decide) c8.2.1 (by decide) (by decide) c8.1 ?_
  refine s1_takeB (N := 60) (o := 6) (p := 13) (o2 := 13) (p2 := 27) (n := t1.length) (by decide) c9.2.1 (by decide) (by decide) (by rw [vu_ne (by decide)]; exact c9.1) ?_
  intro F1 eF1 F2 eF2 F3 eF3 F4 eF4
  intro G8 e8 G9 e9 F5 eF5
  rw [cl0, cl16] at e8 e9
  have kF : ∀ k, 7 ≤ k → F5 k = F k := fun k hk => by rw [eF5, vu_ne (by omega), eF4, vu_ne (by omega), eF3, vu_ne (by omega), eF2, vu_ne (by omega), eF1, vu_ne (by omega), vu_ne (by omega), vu_ne (by omega)]
  have kG : ∀ k, 14 ≤ k → G9 k = G k := fun k hk => by rw [e9, vu_ne (by omega), e8, vu_ne (by omega), vu_ne (by omega), vu_ne (by omega), k7 k (by omega)]
  have b2 : ∀ k, k < 14 → k ≠ 1 → k ≠ 8 → k ≠ 11 → k ≠ 13 → G9 k = G7 k := fun k h1 h2 h3 h4 h5 => by rw [e9, vu_ne h3, e8, vu_ne h2, vu_ne h5, vu_ne h4]
  refine h F5 G9 ⟨⟨?_, ?_, ?_, ?_⟩, fun a ha => ?_, fun a ha => ?_, fun a ha => ?_, fun a ha => ?_, fun a ha => ?_, fun a ha => ?_, fun a ha => ?_, fun a ha i hi => ?_, ?_, ?_⟩ ?_ (fun a ha => ?_) kF kG
  · rw [eF5, vu_ne (by decide), eF4, vu_ne (by decide), eF3, vu_ne (by decide), eF2, vu_ne (by decide), eF1, vu_at, vu_ne (by decide), vu_ne (by decide)]; exact f0
  · rw [eF5, vu_at, eF4, vu_ne (by decide), eF3, vu_ne (by decide), eF2, vu_ne (by decide), eF1, vu_ne (by decide), vu_ne (by decide), vu_ne (by decide)]; exact f1
  · rw [eF5, vu_ne (by decide), eF4, vu_ne (by decide), eF3, vu_ne (by decide), eF2, vu_at, eF1, vu_ne (by decide), vu_ne (by decide), vu_ne (by decide)]; exact f2
  · rw [eF5, vu_ne (by decide), eF4, vu_ne (by decide), eF3, vu_at, eF2, vu_ne (by decide), eF1, vu_ne (by decide), vu_ne (by decide), vu_ne (by decide)]; exact f3
  · rw [b2 0 (by decide) (by decide) (by decide) (by decide) (by decide), e7, vu_ne (by decide), e6, vu_ne (by decide), e5, vu_ne (by decide), e4, vu_ne (by decide), e3, vu_ne (by decide), e2, vu_ne (by decide), e1, vu_at, cpy0 ha]; exact c0 a ha
  · rw [e9, vu_ne (by decide), e8, vu_at, vu_ne (by decide), vu_ne (by decide), cpy0 ha, k7 15 (by decide)]; exact c1 a ha
  · rw [b2 2 (by decide) (by decide) (by decide) (by decide) (by decide), e7, vu_ne (by decide), e6, vu_ne (by decide), e5, vu_ne (by decide), e4, vu_ne (by decide), e3, vu_ne (by decide), e2, vu_at, cpy0 ha, e1, vu_ne (by decide)]; exact c2 a ha
  · rw [b2 3 (by decide) (by decide) (by decide) (by decide) (by decide), e7, vu_ne (by decide), e6, vu_ne (by decide), e5, vu_ne (by decide), e4, vu_ne (by decide), e3, vu_at, cpy0 ha, e2, vu_ne (by decide), e1, vu_ne (by decide)]; exact c3 a ha
  · rw [b2 4 (by decide) (by decide) (by decide) (by decide) (by decide), e7, vu_ne (by decide), e6, vu_ne (by decide), e5, vu_ne (by decide), e4, vu_at, cpy0 ha, e3, vu_ne (by decide), e2, vu_ne (by decide), e1, vu_ne (by decide)]; exact c4 a ha
  · rw [b2 5 (by decide) (by decide) (by decide) (by decide) (by decide), e7, vu_ne (by decide), e6, vu_ne (by decide), e5, vu_at, cpy0 ha, e4, vu_ne (by decide), e3, vu_ne (by decide), e2, vu_ne (by decide), e1, vu_ne (by decide)]; exact c5 a ha
  · rw [b2 6 (by decide) (by decide) (by decide) (by decide) (by decide), e7, vu_ne (by decide), e6, vu_at, cpy0 ha, e5, vu_ne (by decide), e4, vu_ne (by decide), e3, vu_ne (by decide), e2, vu_ne (by decide), e1, vu_ne (by decide)]; exact c6 a ha
  · rw [b2 7 (by decide) (by decide) (by decide) (by decide) (by decide), e7, vu_at, cpy0 (by omega), e6, vu_ne (by decide), e5, vu_ne (by decide), e4, vu_ne (by decide), e3, vu_ne (by decide), e2, vu_ne (by decide), e1, vu_ne (by decide)]; exact c7 a ha i hi
  · rw [eF5, vu_ne (by decide), eF4, vu_ne (by decide), eF3, vu_ne (by decide), eF2, vu_ne (by decide), eF1, vu_ne (by decide), vu_ne (by decide), vu_at, e9, vu_ne (by decide), e8, vu_ne (by decide), vu_ne (by decide), vu_at, k7 25 (by decide)]
    exact tkCd_cpy c8
  · rw [eF5, vu_ne (by decide), eF4, vu_ne (by decide), eF3, vu_ne (by decide), eF2, vu_ne (by decide), eF1, vu_ne (by decide), vu_at, e9, vu_ne (by decide), e8, vu_ne (by decide), vu_at, vu_ne (by decide), k7 27 (by decide)]
    exact tkCd_cpy c9
  · rw [eF5, vu_ne (by decide), eF4, vu_at, eF3, vu_ne (by decide), eF2, vu_ne (by decide), eF1, vu_ne (by decide), vu_ne (by decide), vu_ne (by decide)]
  · rw [e9, vu_at, cpy0 ha, e8, vu_ne (by decide), vu_ne (by decide), vu_ne (by decide), k7 22 (by decide)]
/-- a world of the object taken over by another one: o takes p -/
theorem s6_take {w : wW} {t0 t1 : wT} {o p o2 p2 : Nat} {F : xF} {G : xA} {K : xF → xA → Prop} (r : R5 w t0 t1 (xsub F p) (xsub G p2)) (hop : o + 7 ≤ p ∨ p + 7 ≤ o) (hop2 : o2 + 14 ≤ p2 ∨ p2 + 14 ≤ o2) (h : ∀ E H, R5 w t0 t1 (xsub E o) (xsub H o2) → E (o + 4) = F (p + 4) → (∀ a, a < 16 → H (o2 + 8) a = G (p2 + 8) a) → (∀ k, (k < o ∨ o + 7 ≤ k) → E k = F k) → (∀ k, (k < o2 ∨ o2 + 14 ≤ k) → H k = G k) → K E H) : qX5_takeFrom (xcat 7 (xsub F o) (xsub F p)) (xcat 14 (xsub G o2) (xsub G p2)) (fun F1 G1 => ∀ E : xF, E = xspl (xspl F o 7 F1) p 7 (xsub F1 7) → ∀ H : xA, H = xspl (xspl G o2 14 G1) p2 14 (xsub G1 14) → K E H) := by
  have xc : ∀ {α : Type} (n : Nat) (f g : Nat → α) (k : Nat), n ≤ k → xcat n f g k = g (k - n) := fun n f g k hk => by unfold xcat; rw [if_neg (by omega)]
  refine s5_takeFrom (w := w) (t0 := t0) (t1 := t1) ?_ (fun F1 G1 r1 z1 s1 kF kG E eE H eH => ?_)
  · refine R5_c r (fun k hk _ => ?_) (fun k hk => ?_)
    · show xcat 7 _ _ (7 + k) = _
      rw [xc _ _ _ _ (by omega), Nat.add_sub_cancel_left]
    · show xcat 14 _ _ (14 + k) = _
      rw [xc _ _ _ _ (by omega), Nat.add_sub_cancel_left]
  · have hE : ∀ k, (k < o ∨ o + 7 ≤ k) → E k = F k := fun k hk => by
      rw [eE]
      by_cases c : p ≤ k ∧ k < p + 7
      · obtain ⟨j, rfl⟩ : ∃ j, k = p + j := ⟨k - p, by omega⟩
        rw [xspl_in (by omega)]
        show F1 (7 + j) = _
        rw [kF _ (by omega), xc _ _ _ _ (by omega), Nat.add_sub_cancel_left]; rfl
      · rw [xspl_out (by omega), xspl_out (by omega)]
    have hH : ∀ k, (k < o2 ∨ o2 + 14 ≤ k) → H k = G k := fun k hk => by
      rw [eH]
      by_cases c : p2 ≤ k ∧ k < p2 + 14
      · obtain ⟨j, rfl⟩ : ∃ j, k = p2 + j := ⟨k - p2, by omega⟩
        rw [xspl_in (by omega)]
        show G1 (14 + j) = _
        rw [kG _ (by omega), xc _ _ _ _ (by omega), Nat.add_sub_cancel_left]; rfl
      · rw [xspl_out (by omega), xspl_out (by omega)]
    have iE : ∀ k, k < 7 → E (o + k) = F1 k := fun k hk => by rw [eE, xspl_out (by omega), xspl_in hk]
    have iH : ∀ k, k < 14 → H (o2 + k) = G1 k := fun k hk => by rw [eH, xspl_out (by omega), xspl_in hk]
    refine h E H (R5_c r1 (fun k hk _ => iE k hk) (fun k hk => iH k (by omega))) ?_ (fun a ha => ?_) hE hH
    · rw [iE 4 (by omega), z1, xc _ _ _ _ (by omega)]; rfl
    · rw [iH 8 (by omega), s1 a ha, xc _ _ _ _ (by omega)]; rfl
theorem R5_blk {w : wW} {t0 t1 : wT} {F F1 : xF} {G G1 : xA} {o o2 : Nat} (r : R5 w t0 t1 F1 G1) : R5 w t0 t1 (xsub (xspl F o 7 F1) o) (xsub (xspl G o2 14 G1) o2) := R5_c r (fun k hk _ => xspl_in hk) (fun k hk => xspl_in (by omega))
theorem s6_go {w : wW} {t0 t1 : wT} {o o2 N : Nat} {F : xF} {G : xA} {K : Int32 → xF → xA → Prop} (hN : N ≤ 9999) (hw : Wok w) (hd : w 0 < 2 ^ 29) (h0 : wTx t0) (h1 : wTx t1) (r : R5 w t0 t1 (xsub F o) (xsub G o2)) (h : ∀ E H, R5 (goW t0 t1 w N) t0 t1 (xsub E o) (xsub H o2) → E (o + 4) = F (o + 4) → (∀ k, (k < o ∨ o + 7 ≤ k) → E k = F k) → (∀ k, (k < o2 ∨ o2 + 14 ≤ k) → H k = G k) → K (nI (goS t0 t1 w N)) E H) : qX5_goOn (nI N) (xsub F o) (xsub G o2) (fun r1 F1 G1 => ∀ E : xF, E = xspl F o 7 F1 → ∀ H : xA, H = xspl G o2 14 G1 → K r1 E H) :=
  s5_goOn hN hw hd h0 h1 r (fun F1 G1 r1 z1 E eE H eH => h E H (by rw [eE, eH]; exact R5_blk r1) (by rw [eE, xspl_in (by omega)]; exact z1) (fun k hk => by rw [eE, xspl_out hk]) (fun k hk => by rw [eH, xspl_out hk]))
theorem s6_day {w : wW} {t0 t1 : wT} {o o2 v : Nat} {x : Int32} {F : xF} {G : xA} {K : Int32 → xF → xA → Prop} (hw : Wok w) (hd : w 0 < 2 ^ 30) (h0 : wTx t0) (h1 : wTx t1) (r : R5 w t0 t1 (xsub F o) (xsub G o2)) (hv : (x = -1 ∧ v = feW t0 (dayP t1 w) (whoW w) (dayF t1 w)) ∨ (¬ x = -1 ∧ v ≤ 9 ∧ x = nI v)) (h : ∀ E H, R5 (dayX v (dayP t1 w)) t0 t1 (xsub E o) (xsub H o2) → E (o + 4) = F (o + 4) → (∀ a, a < 16 → H (o2 + 9) a = nI (dayD t1 w a)) → (∀ k, (k < o ∨ o + 7 ≤ k) → E k = F k) → (∀ k, (k < o2 ∨ o2 + 14 ≤ k) → H k = G k) → K (nI (dayF t1 w)) E H) : qX5_oneDay x (xsub F o) (xsub G o2) (fun r1 F1 G1 => ∀ E : xF, E = xspl F o 7 F1 → ∀ H : xA, H = xspl G o2 14 G1 → K r1 E H) :=
  s5_oneDay hw hd h0 h1 r hv (fun F1 G1 r1 z1 d1 E eE H eH => h E H (by rw [eE, eH]; exact R5_blk r1) (by rw [eE, xspl_in (by omega)]; exact z1) (fun a ha => by rw [eH, xspl_in (by omega)]; exact d1 a ha) (fun k hk => by rw [eE, xspl_out hk]) (fun k hk => by rw [eH, xspl_out hk]))
/-- methods that leave a world as it is: the block laid back is the object as it was -/
theorem s6_who {w : wW} {t0 t1 : wT} {o o2 : Nat} {F : xF} {G : xA} {K : Int32 → xF → xA → Prop} (hw : Wok w) (hd : w 0 < 2 ^ 31) (r : R5 w t0 t1 (xsub F o) (xsub G o2)) (h : K (nI (whoW w)) F G) : qX5_whoHasIt (xsub F o) (xsub G o2) (fun r1 F1 G1 => ∀ E : xF, E = xspl F o 7 F1 → ∀ H : xA, H = xspl G o2 14 G1 → K r1 E H) := s5_who hw hd r (fun E eE H eH => by
  rw [eE, eH, xspl_sub, xspl_sub]; exact h)
theorem s6_of {w : wW} {t0 t1 : wT} {o o2 f i : Nat} {F : xF} {G : xA} {K : Int32 → xF → xA → Prop} (hf : f < 9) (hi : i < 9) (r : R5 w t0 t1 (xsub F o) (xsub G o2)) (h : K (nI (wF w f i)) F G) : qX5_ofFarmer (nI f) (nI i) (xsub F o) (xsub G o2) (fun r1 F1 G1 => ∀ E : xF, E = xspl F o 7 F1 → ∀ H : xA, H = xspl G o2 14 G1 → K r1 E H) := s5_ofFarmer r hf hi (fun E eE H eH => by
  rw [eE, eH, xspl_sub, xspl_sub]; exact h)
theorem s6_sum2 {o o2 : Nat} {F : xF} {G : xA} {K : Int32 → xF → xA → Prop} (h : K (sumN (G (o2 + 1)) 16) F G) : qX6_sum_2 (xsub F o) (xsub G o2) (fun r1 F1 G1 => ∀ E : xF, E = xspl F o 7 F1 → ∀ H : xA, H = xspl G o2 14 G1 → K r1 E H) := s6_sum_2 (fun E eE H eH => by
  rw [eE, eH, xspl_sub, xspl_sub]; exact h)
theorem s6_sum5 {o o2 : Nat} {F : xF} {G : xA} {K : Int32 → xF → xA → Prop} (h : K (sumN (G (o2 + 4)) 9) F G) : qX6_sum_5 (xsub F o) (xsub G o2) (fun r1 F1 G1 => ∀ E : xF, E = xspl F o 7 F1 → ∀ H : xA, H = xspl G o2 14 G1 → K r1 E H) := s6_sum_5 (fun E eE H eH => by
  rw [eE, eH, xspl_sub, xspl_sub]; exact h)
theorem s6_sum6 {o o2 : Nat} {F : xF} {G : xA} {K : Int32 → xF → xA → Prop} (h : K (sumN (G (o2 + 5)) 9) F G) : qX6_sum_6 (xsub F o) (xsub G o2) (fun r1 F1 G1 => ∀ E : xF, E = xspl F o 7 F1 → ∀ H : xA, H = xspl G o2 14 G1 → K r1 E H) := s6_sum_6 (fun E eE H eH => by
  rw [eE, eH, xspl_sub, xspl_sub]; exact h)
