/-! calls: numbers moved -/
theorem sub_toInt {a n : Nat} (ha : a ≤ 24) (hn : n < 2 ^ 31) : (nI a - nI n).toInt = (a : Int) - n := by
  rw [Int32.toInt_sub, nI_toInt (by omega), nI_toInt hn]
  exact Int.bmod_eq_of_le (by omega) (by omega)
theorem sub_lt {a n i : Nat} (ha : a ≤ 24) (hn : n < 2 ^ 31) (hi : i < 2 ^ 31) : nI a - nI n < nI i ↔ a < i + n := by
  rw [Int32.lt_iff_toInt_lt, sub_toInt ha hn, nI_toInt hi]
  omega
theorem sub_le {a n j : Nat} (ha : a ≤ 24) (hn : n < 2 ^ 31) (hj : j < 2 ^ 31) : nI j ≤ nI a - nI n ↔ j + n ≤ a := by
  rw [Int32.le_iff_toInt_le, sub_toInt ha hn, nI_toInt hj]
  omega
def hpB (x n : Int32) (s : Nat) : Prop := ∃ i m : Nat, x = nI i ∧ n = nI m ∧ i + m ≤ s
theorem s2_holdsPart {o o2 s : Nat} {F : xF} {G : xA} {x n : Int32} {K : Int32 → xF → xA → Prop} (hs : s ≤ 24) (es : F (o + 1) = nI s) (h1 : hpB x n s → K 1 F G) (h0 : ¬ hpB x n s → K 0 F G) : qX2_holdsPart x n (xsub F o) (xsub G o2) (fun r F1 G1 => (∀ E : xF, E = (xspl F o 2 F1) → (∀ H : xA, H = (xspl G o2 1 G1) → K r E H))) := by
  have f1 : xsub F o 1 = nI s := es
  have fin : ∀ r : Int32, K r F G → (∀ E : xF, E = (xspl F o 2 (xsub F o)) → (∀ H : xA, H = (xspl G o2 1 (xsub G o2)) → K r E H)) := fun r k E eE H eH => by
    rw [eE, eH, xspl_sub, xspl_sub]; exact k
  unfold qX2_holdsPart
  rw [f1]
  by_cases b : hpB x n s
  · obtain ⟨i, m, rfl, rfl, hi⟩ := id b
    exact ⟨fun c => absurd c (nI_pos (by omega)), fun _ => ⟨fun c => absurd c (nI_pos (by omega)), fun _ => ⟨fun c => absurd c (nI_nlt (by omega) (by omega)), fun _ => ⟨fun c => absurd ((sub_lt hs (by omega) (by omega)).mp c) (by omega), fun _ => fin 1 (h1 b)⟩⟩⟩⟩
  · refine ⟨fun _ => fin 0 (h0 b), fun c1 => ⟨fun _ => fin 0 (h0 b), fun c2 => ⟨fun _ => fin 0 (h0 b), fun c3 => ⟨fun _ => fin 0 (h0 b), fun c4 => absurd ?_ b⟩⟩⟩⟩
    obtain ⟨m, hm, rfl⟩ := nI_of c1
    obtain ⟨i, hi, rfl⟩ := nI_of c2
    have := mt (sub_lt hs hm hi).mpr c4
    exact ⟨i, m, rfl, rfl, by omega⟩

theorem s6_mv {o1 p1 o2 p2 n1 n2 : Nat} {F : xF} {G : xA} {x2 x4 x5 : Int32} {Q : Int32 → xF → xA → Prop} (h1 : n1 ≤ 24) (h2 : n2 ≤ 24) (en1 : F (o1 + 1) = nI n1) (en2 : F (o2 + 1) = nI n2) (hN : (F o1 = 0 ∨ F o2 = 0) → qX6_error (2 : Int32) F G Q) (hK : ¬ F o1 = 0 → ¬ F o2 = 0 → ¬ F o1 = F o2 → qX6_error (5 : Int32) F G Q) (hB : ¬ F o1 = 0 → ¬ F o2 = 0 → F o1 = F o2 → ¬ (hpB x2 x5 n1 ∧ hpB x4 x5 n2) → qX6_error (1 : Int32) F G Q) (hG : ¬ F o1 = 0 → ¬ F o2 = 0 → F o1 = F o2 → ∀ i j n, x2 = nI i → x4 = nI j → x5 = nI n → i + n ≤ n1 → j + n ≤ n2 → Q x5 F (va_up G p2 (va_cpy (G p1) (G p2) i j n))) : qX2_isMissing  (xsub F o1) (xsub G p1) (fun r38 F38 G38 => (∀ E38 : xF, E38 = (xspl F o1 2 F38) → (∀ H38 : xA, H38 = (xspl G p1 1 G38) → ((¬ r38 = 0 → qX6_error (2 : Int32) E38 H38 (fun r54 F54 G54 => Q r54 F54 G54)) ∧ (r38 = 0 → qX2_isMissing  (xsub E38 o2) (xsub H38 p2) (fun r46 F46 G46 => (∀ E46 : xF, E46 = (xspl E38 o2 2 F46) → (∀ H46 : xA, H46 = (xspl H38 p2 1 G46) → ((r46 = 0 → (((E46 o1) = (E46 o2) → qX2_holdsPart x2 x5 (xsub E46 o1) (xsub H46 p1) (fun r82 F82 G82 => (∀ E82 : xF, E82 = (xspl E46 o1 2 F82) → (∀ H82 : xA, H82 = (xspl H46 p1 1 G82) → ((r82 = 0 → qX6_error (1 : Int32) E82 H82 (fun r102 F102 G102 => Q r102 F102 G102)) ∧ (¬ r82 = 0 → qX2_holdsPart x4 x5 (xsub E82 o2) (xsub H82 p2) (fun r94 F94 G94 => (∀ E94 : xF, E94 = (xspl E82 o2 2 F94) → (∀ H94 : xA, H94 = (xspl H82 p2 1 G94) → ((¬ r94 = 0 → (¬ x2 < 0) ∧ (¬ x4 < 0) ∧ (¬ x5 < 0) ∧ (x2.toNatClampNeg + x5.toNatClampNeg ≤ 24) ∧ (x4.toNatClampNeg + x5.toNatClampNeg ≤ 24) ∧ (∀ G121 : xA, G121 = va_up H94 p2 (va_cpy (H94 p1) (H94 p2) x2.toNatClampNeg x4.toNatClampNeg x5.toNatClampNeg) → Q x5 E94 G121)) ∧ (r94 = 0 → qX6_error (1 : Int32) E94 H94 (fun r102 F102 G102 => Q r102 F102 G102)))))))))))) ∧ (¬ (E46 o1) = (E46 o2) → qX6_error (5 : Int32) E46 H46 (fun r73 F73 G73 => Q r73 F73 G73)))) ∧ (¬ r46 = 0 → qX6_error (2 : Int32) E46 H46 (fun r54 F54 G54 => Q r54 F54 G54))))))))))) := by
  refine s2_missing (F := F) (G := G) (o := o1) (o2 := p1) (fun z1 => ⟨fun c => absurd rfl c, fun _ => ?_⟩) (fun z1 => ⟨fun _ => hN (Or.inl z1), fun c => absurd c (by decide)⟩)
  refine s2_missing (F := F) (G := G) (o := o2) (o2 := p2) (fun z2 => ⟨fun _ => ?_, fun c => absurd rfl c⟩) (fun z2 => ⟨fun c => absurd c (by decide), fun _ => hN (Or.inr z2)⟩)
  refine ⟨fun e => ?_, fun ne => hK z1 z2 ne⟩
  refine s2_holdsPart (F := F) (G := G) (o := o1) (o2 := p1) h1 en1 (fun g1 => ⟨fun c => absurd c (by decide), fun _ => ?_⟩) (fun b1 => ⟨fun _ => hB z1 z2 e (fun q => b1 q.1), fun c => absurd rfl c⟩)
  refine s2_holdsPart (F := F) (G := G) (o := o2) (o2 := p2) h2 en2 (fun g2 => ⟨fun _ => ?_, fun c => absurd c (by decide)⟩) (fun b2 => ⟨fun c => absurd rfl c, fun _ => hB z1 z2 e (fun q => b2 q.2)⟩)
  obtain ⟨i, n, rfl, rfl, hi⟩ := g1
  obtain ⟨j, m, rfl, em, hj⟩ := g2
  obtain rfl : n = m := (nI_eq (by omega) (by omega)).mp em
  rw [nI_clamp (show i < 2 ^ 31 by omega), nI_clamp (show j < 2 ^ 31 by omega), nI_clamp (show n < 2 ^ 31 by omega)]
  refine ⟨nI_pos (by omega), nI_pos (by omega), nI_pos (by omega), by omega, by omega, fun G1 e1 => ?_⟩
  rw [e1]
  exact hG z1 z2 e i j n rfl rfl rfl hi hj
theorem s6_move {a b n1 n2 : Nat} {F : xF} {G : xA} {x2 x4 x5 : Int32} {Q : Int32 → xF → xA → Prop} (ha : a < 4) (hb : b < 4) (h1 : n1 ≤ 24) (h2 : n2 ≤ 24) (en1 : F (43 + 2 * a) = nI n1) (en2 : F (43 + 2 * b) = nI n2) (hN : (F (42 + 2 * a) = 0 ∨ F (42 + 2 * b) = 0) → qX6_error (2 : Int32) F G Q) (hK : ¬ F (42 + 2 * a) = 0 → ¬ F (42 + 2 * b) = 0 → ¬ F (42 + 2 * a) = F (42 + 2 * b) → qX6_error (5 : Int32) F G Q) (hB : ¬ F (42 + 2 * a) = 0 → ¬ F (42 + 2 * b) = 0 → F (42 + 2 * a) = F (42 + 2 * b) → ¬ (hpB x2 x5 n1 ∧ hpB x4 x5 n2) → qX6_error (1 : Int32) F G Q) (hG : ¬ F (42 + 2 * a) = 0 → ¬ F (42 + 2 * b) = 0 → F (42 + 2 * a) = F (42 + 2 * b) → ∀ i j n, x2 = nI i → x4 = nI j → x5 = nI n → i + n ≤ n1 → j + n ≤ n2 → Q x5 F (va_up G (66 + b) (va_cpy (G (66 + a)) (G (66 + b)) i j n))) : qX6_move (nI a) x2 (nI b) x4 x5 F G Q := by
  unfold qX6_move
  refine s6_isSheet (by omega) ?_; (first | refine pY1 ?_ | refine pY2 ?_)
  refine s6_isSheet (by omega) ?_; (first | refine pY1 ?_ | refine pY2 ?_)
  rcases (by omega : a = 0 ∨ a = 1 ∨ a = 2 ∨ a = 3) with rfl | rfl | rfl | rfl <;> rcases (by omega : b = 0 ∨ b = 1 ∨ b = 2 ∨ b = 3) with rfl | rfl | rfl | rfl
  · exact ⟨xvin (by omega) (by omega), ⟨fun _ => ⟨xvin (by omega) (by omega), ⟨fun _ => s6_mv (o1 := 42) (p1 := 66) (o2 := 42) (p2 := 66) h1 h2 en1 en2 hN hK hB hG, fun c => absurd c (by decide), fun c => absurd c (by decide), fun c => absurd c (by decide)⟩⟩, fun c => absurd c (by decide), fun c => absurd c (by decide), fun c => absurd c (by decide)⟩⟩
  · exact ⟨xvin (by omega) (by omega), ⟨fun _ => ⟨xvin (by omega) (by omega), ⟨fun c => absurd c (by decide), fun _ => s6_mv (o1 := 42) (p1 := 66) (o2 := 44) (p2 := 67) h1 h2 en1 en2 hN hK hB hG, fun c => absurd c (by decide), fun c => absurd c (by decide)⟩⟩, fun c => absurd c (by decide), fun c => absurd c (by decide), fun c => absurd c (by decide)⟩⟩
  · exact ⟨xvin (by omega) (by omega), ⟨fun _ => ⟨xvin (by omega) (by omega), ⟨fun c => absurd c (by decide), fun c => absurd c (by decide), fun _ => s6_mv (o1 := 42) (p1 := 66) (o2 := 46) (p2 := 68) h1 h2 en1 en2 hN hK hB hG, fun c => absurd c (by decide)⟩⟩, fun c => absurd c (by decide), fun c => absurd c (by decide), fun c => absurd c (by decide)⟩⟩
  · exact ⟨xvin (by omega) (by omega), ⟨fun _ => ⟨xvin (by omega) (by omega), ⟨fun c => absurd c (by decide), fun c => absurd c (by decide), fun c => absurd c (by decide), fun _ => s6_mv (o1 := 42) (p1 := 66) (o2 := 48) (p2 := 69) h1 h2 en1 en2 hN hK hB hG⟩⟩, fun c => absurd c (by decide), fun c => absurd c (by decide), fun c => absurd c (by decide)⟩⟩
  · exact ⟨xvin (by omega) (by omega), ⟨fun c => absurd c (by decide), fun _ => ⟨xvin (by omega) (by omega), ⟨fun _ => s6_mv (o1 := 44) (p1 := 67) (o2 := 42) (p2 := 66) h1 h2 en1 en2 hN hK hB hG, fun c => absurd c (by decide), fun c => absurd c (by decide), fun c => absurd c (by decide)⟩⟩, fun c => absurd c (by decide), fun c => absurd c (by decide)⟩⟩
  · exact ⟨xvin (by omega) (by omega), ⟨fun c => absurd c (by decide), fun _ => ⟨xvin (by omega) (by omega), ⟨fun c => absurd c (by decide), fun _ => s6_mv (o1 := 44) (p1 := 67) (o2 := 44) (p2 := 67) h1 h2 en1 en2 hN hK hB hG, fun c => absurd c (by decide), fun c => absurd c (by decide)⟩⟩, fun c => absurd c (by decide), fun c => absurd c (by decide)⟩⟩
  · exact ⟨xvin (by omega) (by omega), ⟨fun c => absurd c (by decide), fun _ => ⟨xvin (by omega) (by omega), ⟨fun c => absurd c (by decide), fun c => absurd c (by decide), fun _ => s6_mv (o1 := 44) (p1 := 67) (o2 := 46) (p2 := 68) h1 h2 en1 en2 hN hK hB hG, fun c => absurd c (by decide)⟩⟩, fun c => absurd c (by decide), fun c => absurd c (by decide)⟩⟩
  · exact ⟨xvin (by omega) (by omega), ⟨fun c => absurd c (by decide), fun _ => ⟨xvin (by omega) (by omega), ⟨fun c => absurd c (by decide), fun c => absurd c (by decide), fun c => absurd c (by decide), fun _ => s6_mv (o1 := 44) (p1 := 67) (o2 := 48) (p2 := 69) h1 h2 en1 en2 hN hK hB hG⟩⟩, fun c => absurd c (by decide), fun c => absurd c (by decide)⟩⟩
  · exact ⟨xvin (by omega) (by omega), ⟨fun c => absurd c (by decide), fun c => absurd c (by decide), fun _ => ⟨xvin (by omega) (by omega), ⟨fun _ => s6_mv (o1 := 46) (p1 := 68) (o2 := 42) (p2 := 66) h1 h2 en1 en2 hN hK hB hG, fun c => absurd c (by decide), fun c => absurd c (by decide), fun c => absurd c (by decide)⟩⟩, fun c => absurd c (by decide)⟩⟩
  · exact ⟨xvin (by omega) (by omega), ⟨fun c => absurd c (by decide), fun c => absurd c (by decide), fun _ => ⟨xvin (by omega) (by omega), ⟨fun c => absurd c (by decide), fun _ => s6_mv (o1 := 46) (p1 := 68) (o2 := 44) (p2 := 67) h1 h2 en1 en2 hN hK hB hG, fun c => absurd c (by decide), fun c => absurd c (by decide)⟩⟩, fun c => absurd c (by decide)⟩⟩
  · exact ⟨xvin (by omega) (by omega), ⟨fun c => absurd c (by decide), fun c => absurd c (by decide), fun _ => ⟨xvin (by omega) (by omega), ⟨fun c => absurd c (by decide), fun c => absurd c (by decide), fun _ => s6_mv (o1 := 46) (p1 := 68) (o2 := 46) (p2 := 68) h1 h2 en1 en2 hN hK hB hG, fun c => absurd c (by decide)⟩⟩, fun c => absurd c (by decide)⟩⟩
  · exact ⟨xvin (by omega) (by omega), ⟨fun c => absurd c (by decide), fun c => absurd c (by decide), fun _ => ⟨xvin (by omega) (by omega), ⟨fun c => absurd c (by decide), fun c => absurd c (by decide), fun c => absurd c (by decide), fun _ => s6_mv (o1 := 46) (p1 := 68) (o2 := 48) (p2 := 69) h1 h2 en1 en2 hN hK hB hG⟩⟩, fun c => absurd c (by decide)⟩⟩
  · exact ⟨xvin (by omega) (by omega), ⟨fun c => absurd c (by decide), fun c => absurd c (by decide), fun c => absurd c (by decide), fun _ => ⟨xvin (by omega) (by omega), ⟨fun _ => s6_mv (o1 := 48) (p1 := 69) (o2 := 42) (p2 := 66) h1 h2 en1 en2 hN hK hB hG, fun c => absurd c (by decide), fun c => absurd c (by decide), fun c => absurd c (by decide)⟩⟩⟩⟩
  · exact ⟨xvin (by omega) (by omega), ⟨fun c => absurd c (by decide), fun c => absurd c (by decide), fun c => absurd c (by decide), fun _ => ⟨xvin (by omega) (by omega), ⟨fun c => absurd c (by decide), fun _ => s6_mv (o1 := 48) (p1 := 69) (o2 := 44) (p2 := 67) h1 h2 en1 en2 hN hK hB hG, fun c => absurd c (by decide), fun c => absurd c (by decide)⟩⟩⟩⟩
  · exact ⟨xvin (by omega) (by omega), ⟨fun c => absurd c (by decide), fun c => absurd c (by decide), fun c => absurd c (by decide), fun _ => ⟨xvin (by omega) (by omega), ⟨fun c => absurd c (by decide), fun c => absurd c (by decide), fun _ => s6_mv (o1 := 48) (p1 := 69) (o2 := 46) (p2 := 68) h1 h2 en1 en2 hN hK hB hG, fun c => absurd c (by decide)⟩⟩⟩⟩
  · exact ⟨xvin (by omega) (by omega), ⟨fun c => absurd c (by decide), fun c => absurd c (by decide), fun c => absurd c (by decide), fun _ => ⟨xvin (by omega) (by omega), ⟨fun c => absurd c (by decide), fun c => absurd c (by decide), fun c => absurd c (by decide), fun _ => s6_mv (o1 := 48) (p1 := 69) (o2 := 48) (p2 := 69) h1 h2 en1 en2 hN hK hB hG⟩⟩⟩⟩
theorem s7_moved {a b i j n : Nat} {F : xF} {G : xA} {Q : Int32 → xF → xA → Prop} (ha : a < 4) (hb : b < 4) (hi : i + n ≤ 24) (hj : j + n ≤ 24) (h : ∀ G3, (∀ k, k ≠ 13 → k ≠ 14 → G3 k = G k) → (∀ k, k < n → G3 13 (24 * b + j + k) = G 13 (24 * a + i + k)) → (∀ p, (p < 24 * b + j ∨ 24 * b + j + n ≤ p) → G3 13 p = G 13 p) → Q (nI n) F G3) : ∃ j115, qX7_move_115 Q j115 (nI a) (nI i) (nI b) (nI j) (nI n) (0 : Int32) F G := by
  have e24 : ∀ q r k : Nat, (24 : Int32) * nI q + nI r + nI k = nI (24 * q + r + k) := fun q r k => by
    rw [show (24 : Int32) = nI 24 from rfl, pk_mul, nI_add, nI_add]
  have second : ∀ (G1 : xA), (∀ k, k ≠ 14 → G1 k = G k) → (∀ k, k < n → G1 14 k = G 13 (24 * a + i + k)) → ∀ (m k : Nat) (G2 : xA), k + m = n → (∀ k, k ≠ 13 → G2 k = G1 k) → (∀ l, l < k → G2 13 (24 * b + j + l) = G 13 (24 * a + i + l)) → (∀ p, (p < 24 * b + j ∨ 24 * b + j + n ≤ p) → G2 13 p = G 13 p) → qX7_move_152 Q (m + 1) (nI b) (nI j) (nI n) (nI k) F G2 := by
    intro G1 g1 p1 m
    induction m with
    | zero =>
      intro k G2 hk g2 p2 q2
      obtain rfl : k = n := by omega
      exact ⟨fun _ => h G2 (fun k h1 h2 => by rw [g2 k h1, g1 k h2]) p2 q2, fun c => absurd (nI_le (Nat.le_refl _) (by omega)) c⟩
    | succ m ih =>
      intro k G2 hk g2 p2 q2
      refine ⟨fun c => absurd c (nI_ge (by omega) (by omega)), fun _ => ?_⟩
      rw [e24, nI_clamp (show 24 * b + j + k < 2 ^ 31 by omega), nI_clamp (show k < 2 ^ 31 by omega), show nI k + (1 : Int32) = nI (k + 1) from nI_1 k, g2 14 (by omega), p1 k (by omega)]
      refine ⟨xvin (by omega) (by omega), xvin (by omega) (by omega), fun G3 e3 => ih (k + 1) G3 (by omega) (fun l hl => by rw [e3, xst_ne hl]; exact g2 l hl) (fun l hl => ?_) (fun p hp => by rw [e3, xst_at, upd_ne (by omega)]; exact q2 p hp)⟩
      rw [e3, xst_at]
      by_cases z : l = k
      · subst z; rw [upd_at]
      · rw [upd_ne (by omega)]; exact p2 l (by omega)
  have first : ∀ (m k : Nat) (G1 : xA), k + m = n → (∀ k, k ≠ 14 → G1 k = G k) → (∀ l, l < k → G1 14 l = G 13 (24 * a + i + l)) → qX7_move_115 Q (m + 1) (nI a) (nI i) (nI b) (nI j) (nI n) (nI k) F G1 := by
    intro m
    induction m with
    | zero =>
      intro k G1 hk g1 p1
      obtain rfl : k = n := by omega
      exact ⟨fun _ => ⟨k + 1, second G1 g1 p1 k 0 G1 (by omega) (fun _ _ => rfl) (fun l hl => by omega) (fun p _ => by rw [g1 13 (by omega)])⟩, fun c => absurd (nI_le (Nat.le_refl _) (by omega)) c⟩
    | succ m ih =>
      intro k G1 hk g1 p1
      refine ⟨fun c => absurd c (nI_ge (by omega) (by omega)), fun _ => ?_⟩
      rw [e24, nI_clamp (show 24 * a + i + k < 2 ^ 31 by omega), nI_clamp (show k < 2 ^ 31 by omega), show nI k + (1 : Int32) = nI (k + 1) from nI_1 k, g1 13 (by omega)]
      refine ⟨xvin (by omega) (by omega), xvin (by omega) (by omega), fun G3 e3 => ih (k + 1) G3 (by omega) (fun l hl => by rw [e3, xst_ne hl]; exact g1 l hl) (fun l hl => ?_)⟩
      rw [e3, xst_at]
      by_cases z : l = k
      · subst z; rw [upd_at]
      · rw [upd_ne z]; exact p1 l (by omega)
  exact ⟨n + 1, first n 0 G (by omega) (fun _ _ => rfl) (fun l hl => by omega)⟩
theorem c_move : oX_move jo_I := by
  intro x1 x2 x3 x4 x5 F G F' G' hI
  have hSh := hI.2.2.2.2.1
  rcases xrng x1 3 (by decide) with h | ⟨a, ha, rfl⟩
  · unfold qX6_move; refine s6_isSheet_no h ?_; (first | refine pN1 ?_ | refine pN2 ?_); refine s6_error (k := 1) (by decide) ?_; unfold qX7_move; refine s7_isSheet_no h ?_; (first | refine pN1 ?_ | refine pN2 ?_); exact c_err (k := 1) (by decide) hI
  rcases xrng x3 3 (by decide) with h | ⟨b, hb, rfl⟩
  · unfold qX6_move; refine s6_isSheet ha ?_; (first | refine pY1 ?_ | refine pY2 ?_); refine s6_isSheet_no h ?_; (first | refine pN1 ?_ | refine pN2 ?_); refine s6_error (k := 1) (by decide) ?_; unfold qX7_move; refine s7_isSheet ha ?_; (first | refine pY1 ?_ | refine pY2 ?_); refine s7_isSheet_no h ?_; (first | refine pN1 ?_ | refine pN2 ?_); exact c_err (k := 1) (by decide) hI
  obtain ⟨eb1, ⟨n1, h1, e1, s1⟩, nu1⟩ := hSh a (by omega)
  obtain ⟨eb2, ⟨n2, h2, e2, s2⟩, nu2⟩ := hSh b (by omega)
  have ca : (nI a).toNatClampNeg = a := nI_clamp (by omega)
  have cb : (nI b).toNatClampNeg = b := nI_clamp (by omega)
  have va : vp_in (nI a) 4 := xvin (by omega) (by omega)
  have vb : vp_in (nI b) 4 := xvin (by omega) (by omega)
  refine s6_move (by omega) (by omega) h1 h2 e1 e2 (fun z => ?_) (fun z1 z2 ne => ?_) (fun z1 z2 e bad => ?_) (fun z1 z2 e i j n ei ej en hi hj => ?_)
  · refine s6_error (k := 2) (by decide) ?_; unfold qX7_move; rw [ca, cb]; refine s7_isSheet ha ?_; (first | refine pY1 ?_ | refine pY2 ?_); refine s7_isSheet hb ?_; (first | refine pY1 ?_ | refine pY2 ?_)
    refine ⟨va, fun _ => ?_, fun c1 => ⟨vb, fun c2 => absurd z (fun q => q.elim (fun q => c1 (by rw [← eb1]; exact q)) (fun q => c2 (by rw [← eb2]; exact q))), fun _ => ?_⟩⟩
    · exact c_err (k := 2) (by decide) hI
    · exact c_err (k := 2) (by decide) hI
  · refine s6_error (k := 5) (by decide) ?_; unfold qX7_move; rw [ca, cb]; refine s7_isSheet ha ?_; (first | refine pY1 ?_ | refine pY2 ?_); refine s7_isSheet hb ?_; (first | refine pY1 ?_ | refine pY2 ?_)
    refine ⟨va, fun c => absurd (by rw [eb1]; exact c) z1, fun _ => ⟨vb, fun _ => ⟨va, vb, fun c => absurd (by rw [eb1, eb2]; exact c) ne, fun _ => ?_⟩, fun c => absurd (by rw [eb2]; exact c) z2⟩⟩
    exact c_err (k := 5) (by decide) hI
  · refine s6_error (k := 1) (by decide) ?_; unfold qX7_move; rw [ca, cb, s1, s2]; refine s7_isSheet ha ?_; (first | refine pY1 ?_ | refine pY2 ?_); refine s7_isSheet hb ?_; (first | refine pY1 ?_ | refine pY2 ?_)
    have er : qX7_error (1 : Int32) F' G' (fun r' F2 G2 => (-1000000000 : Int32) - nI 1 = r' ∧ jo_I F (xst G 62 1 (G 62 1 + 1)) F2 G2) := c_err (k := 1) (by decide) hI
    refine ⟨va, fun c => absurd (by rw [eb1]; exact c) z1, fun _ => ⟨vb, fun _ => ⟨va, vb, fun _ => ⟨fun _ => er, fun c1 => ⟨fun _ => er, fun c2 => ⟨fun _ => er, fun c3 => ⟨va, fun _ => er, fun c4 => ⟨vb, fun c5 => absurd ?_ bad, fun _ => er⟩⟩⟩⟩⟩, fun c => absurd (by rw [← eb1, ← eb2]; exact e) c⟩, fun c => absurd (by rw [eb2]; exact c) z2⟩⟩
    obtain ⟨m, hm, rfl⟩ := nI_of c1
    obtain ⟨i, hi, rfl⟩ := nI_of c2
    obtain ⟨j, hj, rfl⟩ := nI_of c3
    have q1 := mt (sub_lt h1 hm hi).mpr c4
    have q2 := (sub_le h2 hm hj).mp c5
    exact ⟨⟨i, m, rfl, rfl, by omega⟩, ⟨j, m, rfl, rfl, by omega⟩⟩
  · subst ei ej en
    unfold qX7_move; rw [ca, cb, s1, s2]; refine s7_isSheet ha ?_; (first | refine pY1 ?_ | refine pY2 ?_); refine s7_isSheet hb ?_; (first | refine pY1 ?_ | refine pY2 ?_)
    refine ⟨va, fun c => absurd (by rw [eb1]; exact c) z1, fun _ => ⟨vb, fun _ => ⟨va, vb, fun _ => ⟨fun c => absurd c (nI_pos (by omega)), fun c1 => ⟨fun c => absurd c (nI_pos (by omega)), fun c2 => ⟨fun c => absurd c (nI_pos (by omega)), fun c3 => ⟨va, fun c => absurd ((sub_lt h1 (by omega) (by omega)).mp c) (by omega), fun c4 => ⟨vb, fun c5 => ?_, fun c => absurd ((sub_le h2 (by omega) (by omega)).mpr hj) c⟩⟩⟩⟩⟩, fun c => absurd (by rw [← eb1, ← eb2]; exact e) c⟩, fun c => absurd (by rw [eb2]; exact c) z2⟩⟩
    refine s7_moved (by omega) (by omega) (by omega) (by omega) (fun G3 k3 p3 q3 => ⟨rfl, ?_⟩)
    refine jo_shq hI (q := b) (by omega) (fun _ _ _ => rfl) (fun k hk => vu_ne hk) (fun k hk => k3 k (by omega) (by omega)) (by rw [k3 11 (by omega) (by omega)]; exact eb2) (fun p _ _ => by rw [k3 11 (by omega) (by omega)]) ⟨n2, h2, e2, by rw [k3 12 (by omega) (by omega)]; exact s2⟩ (fun p _ _ => by rw [k3 12 (by omega) (by omega)]) (fun p hp => ?_) (fun p hp hpq l hl => q3 _ (by omega))
    rw [vu_at]
    by_cases z : j ≤ p ∧ p < j + n
    · rw [pk_cpy_in z.1 z.2]
      obtain ⟨k, rfl⟩ : ∃ k, p = j + k := ⟨p - j, by omega⟩
      rw [Nat.add_sub_cancel_left, ← Nat.add_assoc, p3 k (by omega), nu1 (i + k) (by omega), Nat.add_assoc]
    · rw [pk_cpy_out (by omega), q3 _ (by omega)]
      exact nu2 p hp
