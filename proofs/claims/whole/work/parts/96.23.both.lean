/-! the relation of both objects; what keeps it -/
def jo_tp (x : Int32) (g : Nat → Int32) (s : Nat → Int32) : Prop := ∃ n, n ≤ 60 ∧ x = nI n ∧ s 4 = nI n ∧ ∀ i, i < n → g i = s (371 + i)
def jo_wt (x : Int32) (g : Nat → Int32) (s : Nat → Int32) : Prop := ∃ n, n ≤ 24 ∧ x = nI n ∧ s 5 = nI n ∧ ∀ i, i < n → g i = s (431 + i)
def jo_w (w : wW) (t0 t1 : wT) (F : xF) (G : xA) (s : Nat → Int32) : Prop := Wok w ∧ w 0 ≤ 9999 ∧ wTx t0 ∧ wTx t1 ∧ R5 w t0 t1 F G ∧ R7 w t0 t1 s ∧ F 4 = s 6
def jo_st (F : xF) (G : xA) (x : Int32) (g : Nat → Int32) (y : Int32) (h : Nat → Int32) (s : Nat → Int32) : Prop := (∃ w t0 t1, jo_w w t0 t1 F G s) ∧ jo_tp x g s ∧ jo_wt y h s
def jo_sh (F : xF) (G G' : xA) : Prop := ∀ q, q < 4 → F (42 + 2 * q) = G' 11 q ∧ (∃ n, n ≤ 24 ∧ F (43 + 2 * q) = nI n ∧ G' 12 q = nI n) ∧ ∀ i, i < 24 → G (66 + q) i = G' 13 (24 * q + i)
def jo_tr (x y : Int32) (g h : Nat → Int32) : Prop := ∃ n, n ≤ 30 ∧ x = nI n ∧ y = nI n ∧ ∀ i, i < n → g i = h i
def jo_I (F : xF) (G : xA) (F' : xF) (G' : xA) : Prop := jo_st F G (F 29) (G 56) (F 30) (G 57) (G' 0) ∧ (F 28 = F' 0 ∧ (¬ F' 0 = 0 → jo_st (xsub F 7) (xsub G 14) (F 31) (G 58) (F 32) (G 59) (G' 1))) ∧ (∀ k, k < 7 → G 62 k = G' 3 k) ∧ jo_tr (F 41) (F' 6) (G 65) (G' 10) ∧ jo_sh F G G' ∧ F' 5 = -1
theorem R5_c {w : wW} {t0 t1 : wT} {F F' : xF} {G G' : xA} (h : R5 w t0 t1 F G) (hF : ∀ k, k < 7 → k ≠ 4 → F' k = F k) (hG : ∀ k, k < 8 ∨ k = 11 ∨ k = 13 → G' k = G k) : R5 w t0 t1 F' G' := by
  unfold R5
  rw [hG 0 (by omega), hG 1 (by omega), hG 2 (by omega), hG 3 (by omega), hG 4 (by omega), hG 5 (by omega), hG 6 (by omega), hG 7 (by omega), hG 11 (by omega), hG 13 (by omega), hF 0 (by omega) (by omega), hF 1 (by omega) (by omega), hF 2 (by omega) (by omega), hF 3 (by omega) (by omega), hF 5 (by omega) (by omega), hF 6 (by omega) (by omega)]
  exact h
theorem jo_st_c {F F1 : xF} {G G1 : xA} {x y x1 y1 : Int32} {g h g1 h1 s s1 : Nat → Int32} (q : jo_st F G x g y h s) (hF : ∀ k, k < 7 → F1 k = F k) (hG : ∀ k, k < 8 ∨ k = 11 ∨ k = 13 → G1 k = G k) (ex : x1 = x) (eg : g1 = g) (ey : y1 = y) (eh : h1 = h) (es : s1 = s) : jo_st F1 G1 x1 g1 y1 h1 s1 := by
  subst ex eg ey eh es
  obtain ⟨⟨w, t0, t1, a, b, c, d, e, f, z⟩, q2, q3⟩ := q
  exact ⟨⟨w, t0, t1, a, b, c, d, R5_c e (fun k hk _ => hF k hk) hG, f, by rw [hF 4 (by omega)]; exact z⟩, q2, q3⟩
/-- all but the state that goes on is as it was -/
def frC (F F1 : xF) (G G1 : xA) : Prop := (∀ k, (7 ≤ k ∧ k < 14) ∨ k = 28 ∨ k = 31 ∨ k = 32 ∨ (41 ≤ k ∧ k < 50) → F1 k = F k) ∧ ∀ k, (14 ≤ k ∧ k < 28) ∨ k = 58 ∨ k = 59 ∨ k = 62 ∨ (65 ≤ k ∧ k < 70) → G1 k = G k
def frR (F F1 : xF) (G G1 : xA) : Prop := (F1 0 = F 0 ∧ F1 5 = F 5 ∧ F1 6 = F 6) ∧ ∀ k, k = 1 ∨ k = 3 ∨ k = 10 ∨ k = 11 ∨ k = 12 ∨ k = 13 → G1 k = G k
theorem frC_rfl {F : xF} {G : xA} : frC F F G G := ⟨fun _ _ => rfl, fun _ _ => rfl⟩
theorem frR_rfl {F : xF} {G : xA} : frR F F G G := ⟨⟨rfl, rfl, rfl⟩, fun _ _ => rfl⟩
theorem frC_tr {F F1 F2 : xF} {G G1 G2 : xA} (h : frC F F1 G G1) (h' : frC F1 F2 G1 G2) : frC F F2 G G2 := ⟨fun k q => by rw [h'.1 k q, h.1 k q], fun k q => by rw [h'.2 k q, h.2 k q]⟩
theorem frR_tr {F F1 F2 : xF} {G G1 G2 : xA} (h : frR F F1 G G1) (h' : frR F1 F2 G1 G2) : frR F F2 G G2 := ⟨⟨by rw [h'.1.1, h.1.1], by rw [h'.1.2.1, h.1.2.1], by rw [h'.1.2.2, h.1.2.2]⟩, fun k q => by rw [h'.2 k q, h.2 k q]⟩
theorem frR_7 {F : xF} {G G1 : xA} (h : fr7 G G1) : frR F F G G1 := ⟨⟨rfl, rfl, rfl⟩, fun k q => h.1 k (by omega) (by omega) (by omega) (by omega)⟩
theorem jo_of {F F1 F' F1' : xF} {G G1 G' G1' : xA} (h : jo_I F G F' G') (hc : frC F F1 G G1) (hr : frR F' F1' G' G1') (hs : jo_st F1 G1 (F1 29) (G1 56) (F1 30) (G1 57) (G1' 0)) : jo_I F1 G1 F1' G1' := by
  obtain ⟨_, ⟨b1, b2⟩, c, d, e, f⟩ := h
  obtain ⟨c1, c2⟩ := hc
  obtain ⟨⟨r0, r5, r6⟩, r⟩ := hr
  refine ⟨hs, ⟨by rw [c1 28 (by omega), r0]; exact b1, fun q => ?_⟩, fun k hk => by rw [c2 62 (by omega), r 3 (by omega)]; exact c k hk, ?_, fun q hq => ?_, by rw [r5]; exact f⟩
  · rw [r0] at q
    exact jo_st_c (b2 q) (fun k hk => c1 (7 + k) (by omega)) (fun k hk => c2 (14 + k) (by omega)) (c1 31 (by omega)) (c2 58 (by omega)) (c1 32 (by omega)) (c2 59 (by omega)) (r 1 (by omega))
  · rw [c1 41 (by omega), r6, c2 65 (by omega), r 10 (by omega)]; exact d
  · rw [c1 (42 + 2 * q) (by omega), c1 (43 + 2 * q) (by omega), c2 (66 + q) (by omega), r 11 (by omega), r 12 (by omega), r 13 (by omega)]
    exact e q hq
/-- the same, where now is as it was, too -/
def frN (F F1 : xF) (G G1 : xA) : Prop := frC F F1 G G1 ∧ (∀ k, k < 7 ∨ k = 29 ∨ k = 30 → F1 k = F k) ∧ ∀ k, k < 8 ∨ k = 11 ∨ k = 13 ∨ k = 56 ∨ k = 57 → G1 k = G k
theorem frN_rfl {F : xF} {G : xA} : frN F F G G := ⟨frC_rfl, fun _ _ => rfl, fun _ _ => rfl⟩
theorem frN_tr {F F1 F2 : xF} {G G1 G2 : xA} (h : frN F F1 G G1) (h' : frN F1 F2 G1 G2) : frN F F2 G G2 := ⟨frC_tr h.1 h'.1, fun k q => by rw [h'.2.1 k q, h.2.1 k q], fun k q => by rw [h'.2.2 k q, h.2.2 k q]⟩
theorem jo_same {F F1 F' F1' : xF} {G G1 G' G1' : xA} (h : jo_I F G F' G') (hc : frN F F1 G G1) (hr : frR F' F1' G' G1') (h0 : G1' 0 = G' 0) : jo_I F1 G1 F1' G1' :=
  jo_of h hc.1 hr (jo_st_c h.1 (fun k hk => hc.2.1 k (by omega)) (fun k hk => hc.2.2 k (by omega)) (hc.2.1 29 (by omega)) (hc.2.2 56 (by omega)) (hc.2.1 30 (by omega)) (hc.2.2 57 (by omega)) h0)
theorem jo_err {F F' : xF} {G G' : xA} {k : Nat} (hk : k < 7) (h : jo_I F G F' G') : jo_I F (xst G 62 k (G 62 k + 1)) F' (xst G' 3 k (G' 3 k + 1)) := by
  obtain ⟨a, ⟨b1, b2⟩, c, d, e, f⟩ := h
  refine ⟨jo_st_c a (fun _ _ => rfl) (fun k hk => xst_ne (by omega)) rfl (xst_ne (by omega)) rfl (xst_ne (by omega)) (xst_ne (by omega)), ⟨b1, fun q => jo_st_c (b2 q) (fun _ _ => rfl) (fun k hk => xst_ne (by omega)) rfl (xst_ne (by omega)) rfl (xst_ne (by omega)) (xst_ne (by omega))⟩, fun j hj => ?_, ?_, fun q hq => ?_, f⟩
  · rw [xst_at, xst_at, c k hk]
    by_cases z : j = k
    · subst z; rw [upd_at, upd_at]
    · rw [upd_ne z, upd_ne z]; exact c j hj
  · rw [xst_ne (by omega), xst_ne (by omega)]; exact d
  · rw [xst_ne (by omega), xst_ne (by omega), xst_ne (by omega), xst_ne (by omega)]; exact e q hq
/-- the last step of both: an error -/
theorem c_err {F F' : xF} {G G' : xA} {k : Nat} (hk : k < 7) (h : jo_I F G F' G') : qX7_error (nI k) F' G' (fun r' F2 G2 => (-1000000000 : Int32) - nI k = r' ∧ jo_I F (xst G 62 k (G 62 k + 1)) F2 G2) := s7_error hk ⟨rfl, jo_err hk h⟩
/-! roads behind an answer 1 or 0 -/
theorem pY1 {A B : Prop} (a : A) : (((1 : Int32) = 0 → B) ∧ (¬ (1 : Int32) = 0 → A)) := ⟨fun c => absurd c (by decide), fun _ => a⟩
theorem pY2 {A B : Prop} (a : A) : ((¬ (1 : Int32) = 0 → A) ∧ ((1 : Int32) = 0 → B)) := ⟨fun _ => a, fun c => absurd c (by decide)⟩
theorem pN1 {A B : Prop} (a : B) : (((0 : Int32) = 0 → B) ∧ (¬ (0 : Int32) = 0 → A)) := ⟨fun _ => a, fun c => absurd rfl c⟩
theorem pN2 {A B : Prop} (a : B) : ((¬ (0 : Int32) = 0 → A) ∧ ((0 : Int32) = 0 → B)) := ⟨fun c => absurd rfl c, fun _ => a⟩
theorem xrng1 (x : Int32) (l n : Nat) (hl : l < 2 ^ 31) (hn : n < 2 ^ 31) : (x < nI l ∨ nI n < x) ∨ ∃ k : Nat, l ≤ k ∧ k ≤ n ∧ x = nI k := by
  rcases xrng x n hn with h | ⟨k, hk, rfl⟩
  · rcases h with h | h
    · exact Or.inl (Or.inl (Int32.lt_of_lt_of_le h (nI_pos' hl)))
    · exact Or.inl (Or.inr h)
  · by_cases c : l ≤ k
    · exact Or.inr ⟨k, c, hk, rfl⟩
    · exact Or.inl (Or.inl (nI_lt (by omega) hl))
theorem s7_inG_no {x : Int32} {l n : Nat} {Q : Int32 → Prop} (h : x < nI l ∨ nI n < x) (q : Q 0) : qX7_in x (nI l) (nI n) Q := s7_in (by
  by_cases c : x < nI l
  · rw [if_pos c]; exact q
  · rcases h with h | h
    · exact absurd h c
    · rw [if_neg c, if_pos h]; exact q)
theorem s7_inG {k l n : Nat} {Q : Int32 → Prop} (hl : l ≤ k) (hk : k ≤ n) (hn : n < 2 ^ 31) (q : Q 1) : qX7_in (nI k) (nI l) (nI n) Q := s7_in (by
  rw [if_neg (nI_nlt hl (by omega)), if_neg (nI_nlt hk hn)]; exact q)
theorem s6_inG_no {x : Int32} {l n : Nat} {Q : Int32 → Prop} (h : x < nI l ∨ nI n < x) (q : Q 0) : qX6_within x (nI l) (nI n) Q := s6_within (by
  by_cases c : x < nI l
  · rw [if_pos c]; exact q
  · rcases h with h | h
    · exact absurd h c
    · rw [if_neg c, if_pos h]; exact q)
theorem s6_inG {k l n : Nat} {Q : Int32 → Prop} (hl : l ≤ k) (hk : k ≤ n) (hn : n < 2 ^ 31) (q : Q 1) : qX6_within (nI k) (nI l) (nI n) Q := s6_within (by
  rw [if_neg (nI_nlt hl (by omega)), if_neg (nI_nlt hk hn)]; exact q)
theorem s6_isOak_no {x : Int32} {Q : Int32 → Prop} (h : x < nI 0 ∨ nI 15 < x) (q : Q 0) : qX6_isOak x Q := s6_inG_no (l := 0) (n := 15) h ⟨Or.inl rfl, q⟩
theorem s6_isOak {k : Nat} {Q : Int32 → Prop} (h : k ≤ 15) (q : Q 1) : qX6_isOak (nI k) Q := s6_inG (l := 0) (n := 15) (Nat.zero_le _) h (by decide) ⟨Or.inr rfl, q⟩
theorem s6_isFarmer_no {x : Int32} {Q : Int32 → Prop} (h : x < nI 0 ∨ nI 8 < x) (q : Q 0) : qX6_isFarmer x Q := s6_inG_no (l := 0) (n := 8) h ⟨Or.inl rfl, q⟩
theorem s6_isFarmer {k : Nat} {Q : Int32 → Prop} (h : k ≤ 8) (q : Q 1) : qX6_isFarmer (nI k) Q := s6_inG (l := 0) (n := 8) (Nat.zero_le _) h (by decide) ⟨Or.inr rfl, q⟩
theorem s6_isSheet_no {x : Int32} {Q : Int32 → Prop} (h : x < nI 0 ∨ nI 3 < x) (q : Q 0) : qX6_isSheet x Q := s6_inG_no (l := 0) (n := 3) h ⟨Or.inl rfl, q⟩
theorem s6_isSheet {k : Nat} {Q : Int32 → Prop} (h : k ≤ 3) (q : Q 1) : qX6_isSheet (nI k) Q := s6_inG (l := 0) (n := 3) (Nat.zero_le _) h (by decide) ⟨Or.inr rfl, q⟩
theorem s7_isOak_no {x : Int32} {Q : Int32 → Prop} (h : x < nI 0 ∨ nI 15 < x) (q : Q 0) : qX7_isOak x Q := s7_inG_no (l := 0) (n := 15) h ⟨Or.inl rfl, q⟩
theorem s7_isOak {k : Nat} {Q : Int32 → Prop} (h : k ≤ 15) (q : Q 1) : qX7_isOak (nI k) Q := s7_inG (l := 0) (n := 15) (Nat.zero_le _) h (by decide) ⟨Or.inr rfl, q⟩
theorem s7_isFarmer_no {x : Int32} {Q : Int32 → Prop} (h : x < nI 0 ∨ nI 8 < x) (q : Q 0) : qX7_isFarmer x Q := s7_inG_no (l := 0) (n := 8) h ⟨Or.inl rfl, q⟩
theorem s7_isFarmer {k : Nat} {Q : Int32 → Prop} (h : k ≤ 8) (q : Q 1) : qX7_isFarmer (nI k) Q := s7_inG (l := 0) (n := 8) (Nat.zero_le _) h (by decide) ⟨Or.inr rfl, q⟩
theorem s7_isSheet_no {x : Int32} {Q : Int32 → Prop} (h : x < nI 0 ∨ nI 3 < x) (q : Q 0) : qX7_isSheet x Q := s7_inG_no (l := 0) (n := 3) h ⟨Or.inl rfl, q⟩
theorem s7_isSheet {k : Nat} {Q : Int32 → Prop} (h : k ≤ 3) (q : Q 1) : qX7_isSheet (nI k) Q := s7_inG (l := 0) (n := 3) (Nat.zero_le _) h (by decide) ⟨Or.inr rfl, q⟩
