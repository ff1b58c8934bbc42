/-! calls: what is counted -/
theorem c_count : oX_count jo_I := by
  intro x1 F G F' G' hI
  obtain ⟨⟨⟨w, t0, t1, hw, hd, h0, h1, r5, r7, hz⟩, hTp, hWt⟩, _, _, hTr, _, h5⟩ := id hI
  rcases xrng x1 11 (by decide) with h | ⟨b, hb, rfl⟩
  · have n0 : ¬ x1 = (0 : Int32) := fun q => by rw [q] at h; exact absurd h (by decide)
    have n1 : ¬ x1 = (1 : Int32) := fun q => by rw [q] at h; exact absurd h (by decide)
    have n2 : ¬ x1 = (2 : Int32) := fun q => by rw [q] at h; exact absurd h (by decide)
    have n3 : ¬ x1 = (3 : Int32) := fun q => by rw [q] at h; exact absurd h (by decide)
    have n4 : ¬ x1 = (4 : Int32) := fun q => by rw [q] at h; exact absurd h (by decide)
    have n5 : ¬ x1 = (5 : Int32) := fun q => by rw [q] at h; exact absurd h (by decide)
    have n6 : ¬ x1 = (6 : Int32) := fun q => by rw [q] at h; exact absurd h (by decide)
    have n7 : ¬ x1 = (7 : Int32) := fun q => by rw [q] at h; exact absurd h (by decide)
    have n8 : ¬ x1 = (8 : Int32) := fun q => by rw [q] at h; exact absurd h (by decide)
    have n9 : ¬ x1 = (9 : Int32) := fun q => by rw [q] at h; exact absurd h (by decide)
    have n10 : ¬ x1 = (10 : Int32) := fun q => by rw [q] at h; exact absurd h (by decide)
    have n11 : ¬ x1 = (11 : Int32) := fun q => by rw [q] at h; exact absurd h (by decide)
    refine ⟨fun c => absurd c n0, fun _ => ⟨fun c => absurd c n1, fun _ => ⟨fun c => absurd c n2, fun _ => ⟨fun c => absurd c n3, fun _ => ⟨fun c => absurd c n4, fun _ => ⟨fun c => absurd c n5, fun _ => ⟨fun c => absurd c n6, fun _ => ⟨fun c => absurd c n7, fun _ => ⟨fun c => absurd c n8, fun _ => ⟨fun c => absurd c n9, fun _ => ⟨fun c => absurd c n10, fun _ => ⟨fun c => absurd c n11, fun _ => ?_⟩⟩⟩⟩⟩⟩⟩⟩⟩⟩⟩⟩
    refine s6_error (k := 1) (by decide) ?_; refine ⟨fun c => absurd c n0, fun _ => ⟨fun c => absurd c n1, fun _ => ⟨fun c => absurd c n2, fun _ => ⟨fun c => absurd c n3, fun _ => ⟨fun c => absurd c n4, fun _ => ⟨fun c => absurd c n5, fun _ => ⟨fun c => absurd c n6, fun _ => ⟨fun c => absurd c n7, fun _ => ⟨fun c => absurd c n8, fun _ => ⟨fun c => absurd c n9, fun _ => ⟨fun c => absurd c n10, fun _ => ⟨fun c => absurd c n11, fun _ => ?_⟩⟩⟩⟩⟩⟩⟩⟩⟩⟩⟩⟩; exact c_err (k := 1) (by decide) hI
  rcases (by omega : b = 0 ∨ b = 1 ∨ b = 2 ∨ b = 3 ∨ b = 4 ∨ b = 5 ∨ b = 6 ∨ b = 7 ∨ b = 8 ∨ b = 9 ∨ b = 10 ∨ b = 11) with rfl | rfl | rfl | rfl | rfl | rfl | rfl | rfl | rfl | rfl | rfl | rfl
  · refine ⟨fun _ => ?_, fun c => absurd rfl c⟩
    rw [r5.1.2.2.2]
    refine ⟨fun _ => ?_, fun c => absurd rfl c⟩
    exact ⟨(r7.1 0 (by omega) (by omega)).symm, hI⟩
  · refine ⟨fun c => absurd c (by decide), fun _ => ⟨fun _ => ?_, fun c => absurd rfl c⟩⟩
    refine s6_who (o := 0) (o2 := 0) hw (by omega) (R5_z r5) ?_
    refine ⟨fun c => absurd c (by decide), fun _ => ⟨fun _ => ?_, fun c => absurd rfl c⟩⟩
    exact s7_who hw (by omega) r7 ⟨rfl, hI⟩
  · refine ⟨fun c => absurd c (by decide), fun _ => ⟨fun c => absurd c (by decide), fun _ => ⟨fun _ => ?_, fun c => absurd rfl c⟩⟩⟩
    rw [r5.1.2.1]
    refine ⟨fun c => absurd c (by decide), fun _ => ⟨fun c => absurd c (by decide), fun _ => ⟨fun _ => ?_, fun c => absurd rfl c⟩⟩⟩
    exact ⟨(r7.1 2 (by omega) (by omega)).symm, hI⟩
  · refine ⟨fun c => absurd c (by decide), fun _ => ⟨fun c => absurd c (by decide), fun _ => ⟨fun c => absurd c (by decide), fun _ => ⟨fun _ => ?_, fun c => absurd rfl c⟩⟩⟩⟩
    rw [r5.1.2.2.1]
    refine ⟨fun c => absurd c (by decide), fun _ => ⟨fun c => absurd c (by decide), fun _ => ⟨fun c => absurd c (by decide), fun _ => ⟨fun _ => ?_, fun c => absurd rfl c⟩⟩⟩⟩
    exact ⟨(r7.1 3 (by omega) (by omega)).symm, hI⟩
  · refine ⟨fun c => absurd c (by decide), fun _ => ⟨fun c => absurd c (by decide), fun _ => ⟨fun c => absurd c (by decide), fun _ => ⟨fun c => absurd c (by decide), fun _ => ⟨fun _ => ?_, fun c => absurd rfl c⟩⟩⟩⟩⟩
    rw [r5.1.1]
    refine ⟨fun c => absurd c (by decide), fun _ => ⟨fun c => absurd c (by decide), fun _ => ⟨fun c => absurd c (by decide), fun _ => ⟨fun c => absurd c (by decide), fun _ => ⟨fun _ => ?_, fun c => absurd rfl c⟩⟩⟩⟩⟩
    exact ⟨(r7.1 1 (by omega) (by omega)).symm, hI⟩
  · refine ⟨fun c => absurd c (by decide), fun _ => ⟨fun c => absurd c (by decide), fun _ => ⟨fun c => absurd c (by decide), fun _ => ⟨fun c => absurd c (by decide), fun _ => ⟨fun c => absurd c (by decide), fun _ => ⟨fun _ => ?_, fun c => absurd rfl c⟩⟩⟩⟩⟩⟩
    refine s6_sum2 (o := 0) (o2 := 0) ?_
    refine ⟨fun c => absurd c (by decide), fun _ => ⟨fun c => absurd c (by decide), fun _ => ⟨fun c => absurd c (by decide), fun _ => ⟨fun c => absurd c (by decide), fun _ => ⟨fun c => absurd c (by decide), fun _ => ⟨fun _ => ?_, fun c => absurd rfl c⟩⟩⟩⟩⟩⟩
    exact s7_allUnder ⟨sumN_congr (fun a ha => by rw [R7_d r7 ha]; exact r5.2.2.1 a ha), hI⟩
  · refine ⟨fun c => absurd c (by decide), fun _ => ⟨fun c => absurd c (by decide), fun _ => ⟨fun c => absurd c (by decide), fun _ => ⟨fun c => absurd c (by decide), fun _ => ⟨fun c => absurd c (by decide), fun _ => ⟨fun c => absurd c (by decide), fun _ => ⟨fun _ => ?_, fun c => absurd rfl c⟩⟩⟩⟩⟩⟩⟩
    refine s6_sum5 (o := 0) (o2 := 0) ?_
    refine ⟨fun c => absurd c (by decide), fun _ => ⟨fun c => absurd c (by decide), fun _ => ⟨fun c => absurd c (by decide), fun _ => ⟨fun c => absurd c (by decide), fun _ => ⟨fun c => absurd c (by decide), fun _ => ⟨fun c => absurd c (by decide), fun _ => ⟨fun _ => ?_, fun c => absurd rfl c⟩⟩⟩⟩⟩⟩⟩
    exact s7_allOf (what := 2) (by omega) ⟨sumN_congr (fun a ha => by rw [R7_f r7 ha (by omega)]; exact r5.2.2.2.2.2.1 a ha), hI⟩
  · refine ⟨fun c => absurd c (by decide), fun _ => ⟨fun c => absurd c (by decide), fun _ => ⟨fun c => absurd c (by decide), fun _ => ⟨fun c => absurd c (by decide), fun _ => ⟨fun c => absurd c (by decide), fun _ => ⟨fun c => absurd c (by decide), fun _ => ⟨fun c => absurd c (by decide), fun _ => ⟨fun _ => ?_, fun c => absurd rfl c⟩⟩⟩⟩⟩⟩⟩⟩
    refine s6_sum6 (o := 0) (o2 := 0) ?_
    refine ⟨fun c => absurd c (by decide), fun _ => ⟨fun c => absurd c (by decide), fun _ => ⟨fun c => absurd c (by decide), fun _ => ⟨fun c => absurd c (by decide), fun _ => ⟨fun c => absurd c (by decide), fun _ => ⟨fun c => absurd c (by decide), fun _ => ⟨fun c => absurd c (by decide), fun _ => ⟨fun _ => ?_, fun c => absurd rfl c⟩⟩⟩⟩⟩⟩⟩⟩
    exact s7_allOf (what := 3) (by omega) ⟨sumN_congr (fun a ha => by rw [R7_f r7 ha (by omega)]; exact r5.2.2.2.2.2.2.1 a ha), hI⟩
  · refine ⟨fun c => absurd c (by decide), fun _ => ⟨fun c => absurd c (by decide), fun _ => ⟨fun c => absurd c (by decide), fun _ => ⟨fun c => absurd c (by decide), fun _ => ⟨fun c => absurd c (by decide), fun _ => ⟨fun c => absurd c (by decide), fun _ => ⟨fun c => absurd c (by decide), fun _ => ⟨fun c => absurd c (by decide), fun _ => ⟨fun _ => ?_, fun c => absurd rfl c⟩⟩⟩⟩⟩⟩⟩⟩⟩
    obtain ⟨n, _, e1, e2, _⟩ := hTp
    refine ⟨fun c => absurd c (by decide), fun _ => ⟨fun c => absurd c (by decide), fun _ => ⟨fun c => absurd c (by decide), fun _ => ⟨fun c => absurd c (by decide), fun _ => ⟨fun c => absurd c (by decide), fun _ => ⟨fun c => absurd c (by decide), fun _ => ⟨fun c => absurd c (by decide), fun _ => ⟨fun c => absurd c (by decide), fun _ => ⟨fun _ => ?_, fun c => absurd rfl c⟩⟩⟩⟩⟩⟩⟩⟩⟩
    exact ⟨by rw [e1, e2], hI⟩
  · refine ⟨fun c => absurd c (by decide), fun _ => ⟨fun c => absurd c (by decide), fun _ => ⟨fun c => absurd c (by decide), fun _ => ⟨fun c => absurd c (by decide), fun _ => ⟨fun c => absurd c (by decide), fun _ => ⟨fun c => absurd c (by decide), fun _ => ⟨fun c => absurd c (by decide), fun _ => ⟨fun c => absurd c (by decide), fun _ => ⟨fun c => absurd c (by decide), fun _ => ⟨fun _ => ?_, fun c => absurd rfl c⟩⟩⟩⟩⟩⟩⟩⟩⟩⟩
    obtain ⟨n, _, e1, e2, _⟩ := hWt
    refine ⟨fun c => absurd c (by decide), fun _ => ⟨fun c => absurd c (by decide), fun _ => ⟨fun c => absurd c (by decide), fun _ => ⟨fun c => absurd c (by decide), fun _ => ⟨fun c => absurd c (by decide), fun _ => ⟨fun c => absurd c (by decide), fun _ => ⟨fun c => absurd c (by decide), fun _ => ⟨fun c => absurd c (by decide), fun _ => ⟨fun c => absurd c (by decide), fun _ => ⟨fun _ => ?_, fun c => absurd rfl c⟩⟩⟩⟩⟩⟩⟩⟩⟩⟩
    exact ⟨by rw [e1, e2], hI⟩
  · refine ⟨fun c => absurd c (by decide), fun _ => ⟨fun c => absurd c (by decide), fun _ => ⟨fun c => absurd c (by decide), fun _ => ⟨fun c => absurd c (by decide), fun _ => ⟨fun c => absurd c (by decide), fun _ => ⟨fun c => absurd c (by decide), fun _ => ⟨fun c => absurd c (by decide), fun _ => ⟨fun c => absurd c (by decide), fun _ => ⟨fun c => absurd c (by decide), fun _ => ⟨fun c => absurd c (by decide), fun _ => ⟨fun _ => ?_, fun c => absurd rfl c⟩⟩⟩⟩⟩⟩⟩⟩⟩⟩⟩
    obtain ⟨n, _, e1, e2, _⟩ := hTr
    refine ⟨fun c => absurd c (by decide), fun _ => ⟨fun c => absurd c (by decide), fun _ => ⟨fun c => absurd c (by decide), fun _ => ⟨fun c => absurd c (by decide), fun _ => ⟨fun c => absurd c (by decide), fun _ => ⟨fun c => absurd c (by decide), fun _ => ⟨fun c => absurd c (by decide), fun _ => ⟨fun c => absurd c (by decide), fun _ => ⟨fun c => absurd c (by decide), fun _ => ⟨fun c => absurd c (by decide), fun _ => ⟨fun _ => ?_, fun c => absurd rfl c⟩⟩⟩⟩⟩⟩⟩⟩⟩⟩⟩
    exact ⟨by rw [e1, e2], hI⟩
  · refine ⟨fun c => absurd c (by decide), fun _ => ⟨fun c => absurd c (by decide), fun _ => ⟨fun c => absurd c (by decide), fun _ => ⟨fun c => absurd c (by decide), fun _ => ⟨fun c => absurd c (by decide), fun _ => ⟨fun c => absurd c (by decide), fun _ => ⟨fun c => absurd c (by decide), fun _ => ⟨fun c => absurd c (by decide), fun _ => ⟨fun c => absurd c (by decide), fun _ => ⟨fun c => absurd c (by decide), fun _ => ⟨fun c => absurd c (by decide), fun _ => ⟨fun _ => ?_, fun c => absurd rfl c⟩⟩⟩⟩⟩⟩⟩⟩⟩⟩⟩⟩
    skip
    refine ⟨fun c => absurd c (by decide), fun _ => ⟨fun c => absurd c (by decide), fun _ => ⟨fun c => absurd c (by decide), fun _ => ⟨fun c => absurd c (by decide), fun _ => ⟨fun c => absurd c (by decide), fun _ => ⟨fun c => absurd c (by decide), fun _ => ⟨fun c => absurd c (by decide), fun _ => ⟨fun c => absurd c (by decide), fun _ => ⟨fun c => absurd c (by decide), fun _ => ⟨fun c => absurd c (by decide), fun _ => ⟨fun c => absurd c (by decide), fun _ => ⟨fun _ => ?_, fun c => absurd rfl c⟩⟩⟩⟩⟩⟩⟩⟩⟩⟩⟩⟩
    exact ⟨hz, hI⟩
/-! shares -/
def ownS (w : wW) (d : Nat → Nat) (f : Nat) : Nat → Nat
  | 0 => 0
  | a + 1 => ownS w d f a + if wO w a = f then d a else 0
def shB (t0 t1 : wT) (w : wW) (f : Nat) : Nat → Nat
  | 0 => 0
  | k + 1 => shB t0 t1 w f k + if whoW (goW t0 t1 w k) = f then dayF t1 (goW t0 t1 w k) else 0
def shC (t0 t1 : wT) (w : wW) (f : Nat) : Nat → Nat
  | 0 => 0
  | k + 1 => shC t0 t1 w f k + ownS (goW t0 t1 w (k + 1)) (dayD t1 (goW t0 t1 w k)) f 16
theorem s5_dugFor {w : wW} {d : Nat → Nat} {f : Nat} {F : xF} {G : xA} {Q : Int32 → xF → xA → Prop} (hf : f < 9) (hw : Wok w) (e : ∀ a, a < 16 → G 0 a = nI (wO w a)) (hd : ∀ a, a < 16 → G 9 a = nI (d a)) (h : Q (nI (ownS w d f 16)) F G) : qX5_dugFor (nI f) F G Q := by
  have key : ∀ (n k : Nat), k + n = 16 → qX5_dugFor_4 Q (n + 1) (nI f) (nI (ownS w d f k)) (nI k) F G := by
    intro n
    induction n with
    | zero =>
      intro k hk
      obtain rfl : k = 16 := by omega
      exact ⟨fun _ => h, fun c => absurd (nI_le (a := 16) (b := 16) (Nat.le_refl _) (by decide)) c⟩
    | succ n ih =>
      intro k hk
      have ho := (hw.2.2.2.1 k (by omega)).1
      rw [qX5_dugFor_4, nI_clamp (show k < 2 ^ 31 by omega), e k (by omega), hd k (by omega), show (0 : Int32) = nI 0 from rfl, nI_add, nI_add, show nI k + (1 : Int32) = nI (k + 1) from nI_1 k]
      have ih' := ih (k + 1) (by omega)
      unfold ownS at ih'
      refine ⟨fun c => absurd (show nI 16 ≤ nI k from c) (nI_ge (by omega) (by omega)), fun _ => ⟨xvin (by omega) (by omega), eq_dec' (by omega) (by omega) (fun c => ⟨xvin (by omega) (by omega), ?_⟩) (fun c => ?_)⟩⟩
      · rw [if_pos c] at ih'; exact ih'
      · rw [if_neg c] at ih'; exact ih'
  exact ⟨17, key 16 0 (by omega)⟩
theorem s6_dugFor {w : wW} {d : Nat → Nat} {f o o2 : Nat} {F : xF} {G : xA} {K : Int32 → xF → xA → Prop} (hf : f < 9) (hw : Wok w) (e : ∀ a, a < 16 → G o2 a = nI (wO w a)) (hd : ∀ a, a < 16 → G (o2 + 9) a = nI (d a)) (h : K (nI (ownS w d f 16)) F G) : qX5_dugFor (nI f) (xsub F o) (xsub G o2) (fun r1 F1 G1 => ∀ E : xF, E = xspl F o 7 F1 → ∀ H : xA, H = xspl G o2 14 G1 → K r1 E H) := s5_dugFor (w := w) (d := d) hf hw e hd (fun E eE H eH => by
  rw [eE, eH, xspl_sub, xspl_sub]; exact h)
theorem s7_share_in {w : wW} {t0 t1 : wT} {d : Nat → Nat} {f x2 x3 x5 : Nat} {c : Nat} {F : xF} {G : xA} {Q : Int32 → xF → xA → Prop} {K : Int32 → Int32 → Int32 → Int32 → Int32 → xF → xA → Prop} (hf : f < 9) (hw : Wok w) (r : R7 w t0 t1 (G 0)) (hd : ∀ a, a < 16 → G 7 a = nI (d a)) (h : K (nI f) (nI x2) (nI x3) (nI (c + ownS w d f 16)) (nI (x5 + 1)) F G) : ∃ j117, qX7_share_117 Q K j117 (nI f) (nI x2) (nI x3) (nI c) (nI x5) (0 : Int32) F G := by
  have key : ∀ (n k : Nat), k + n = 16 → qX7_share_117 Q K (n + 1) (nI f) (nI x2) (nI x3) (nI (c + ownS w d f k)) (nI x5) (nI k) F G := by
    intro n
    induction n with
    | zero =>
      intro k hk
      obtain rfl : k = 16 := by omega
      exact ⟨fun _ => by rw [show nI x5 + (1 : Int32) = nI (x5 + 1) from nI_1 _]; exact h, fun c => absurd (nI_le (a := 16) (b := 16) (Nat.le_refl _) (by decide)) c⟩
    | succ n ih =>
      intro k hk
      have ho := (hw.2.2.2.1 k (by omega)).1
      rw [qX7_share_117, show (8 : Int32) + nI k = nI (8 + k) from nI_add 8 k, nI_clamp (show 8 + k < 2 ^ 31 by omega), nI_clamp (show k < 2 ^ 31 by omega), show G 0 (8 + k) = nI (wO w k) from r.1 (8 + k) (by omega) (by omega), hd k (by omega), show (0 : Int32) = nI 0 from rfl, nI_add, nI_add, show nI k + (1 : Int32) = nI (k + 1) from nI_1 k]
      have ih' := ih (k + 1) (by omega)
      unfold ownS at ih'
      refine ⟨fun c => absurd (show nI 16 ≤ nI k from c) (nI_ge (by omega) (by omega)), fun _ => ⟨xvin (by omega) (by omega), eq_dec' (by omega) (by omega) (fun c => ⟨xvin (by omega) (by omega), ?_⟩) (fun c => ?_)⟩⟩
      · rw [if_pos c, ← Nat.add_assoc] at ih'; exact ih'
      · rw [if_neg c, ← Nat.add_assoc] at ih'; exact ih'
  exact ⟨17, key 16 0 (by omega)⟩
theorem tele (a b c : Int32) : (a - b) + (c - a) = c - b := by
  rw [Int32.sub_eq_add_neg, Int32.sub_eq_add_neg, Int32.sub_eq_add_neg, Int32.add_comm a, Int32.add_assoc, Int32.add_comm c, ← Int32.add_assoc a, Int32.add_right_neg, Int32.zero_add, Int32.add_comm]
def shQ (t0 t1 : wT) (w : wW) (f law n : Nat) : Int32 := if law = 0 then nI (wF (goW t0 t1 w n) f 2) - nI (wF w f 2) else if law = 1 then nI (shB t0 t1 w f n) else nI (shC t0 t1 w f n)
theorem c_share : oX_share jo_I := by
  intro x1 x2 x3 F G F' G' hI
  obtain ⟨⟨⟨w, t0, t1, hw, hd, h0, h1, r5, r7, hz⟩, _⟩, _, _, _, _, h5⟩ := id hI
  unfold qX6_share
  rcases xrng x1 8 (by decide) with h | ⟨f, hf, rfl⟩
  · refine s6_isFarmer_no h ?_; (first | refine pN1 ?_ | refine pN2 ?_); refine s6_error (k := 1) (by decide) ?_; unfold qX7_share; refine s7_isFarmer_no h ?_; (first | refine pN1 ?_ | refine pN2 ?_); exact c_err (k := 1) (by decide) hI
  refine s6_isFarmer hf ?_; (first | refine pY1 ?_ | refine pY2 ?_)
  rcases xrng x2 2 (by decide) with h | ⟨b, hb, rfl⟩
  · refine s6_inG_no (l := 0) (n := 2) h ?_; (first | refine pN1 ?_ | refine pN2 ?_); refine s6_error (k := 1) (by decide) ?_; unfold qX7_share; refine s7_isFarmer hf ?_; (first | refine pY1 ?_ | refine pY2 ?_); refine s7_inG_no (l := 0) (n := 2) h ?_; (first | refine pN1 ?_ | refine pN2 ?_); exact c_err (k := 1) (by decide) hI
  refine s6_inG (l := 0) (n := 2) (by omega) hb (by decide) ?_; (first | refine pY1 ?_ | refine pY2 ?_)
  rcases xrng1 x3 1 45 (by decide) (by decide) with h | ⟨n, hl, hn, rfl⟩
  · refine s6_inG_no (l := 1) (n := 45) h ?_; (first | refine pN1 ?_ | refine pN2 ?_); refine s6_error (k := 1) (by decide) ?_; unfold qX7_share; refine s7_isFarmer hf ?_; (first | refine pY1 ?_ | refine pY2 ?_); refine s7_inG (l := 0) (n := 2) (by omega) hb (by decide) ?_; (first | refine pY1 ?_ | refine pY2 ?_); refine s7_inG_no (l := 1) (n := 45) h ?_; (first | refine pN1 ?_ | refine pN2 ?_); exact c_err (k := 1) (by decide) hI
  refine s6_inG (l := 1) (n := 45) hl hn (by decide) ?_; (first | refine pY1 ?_ | refine pY2 ?_)
  have hf9 : f < 9 := by omega
  refine s6_take (o := 14) (p := 0) (o2 := 28) (p2 := 0) (R5_z r5) (by omega) (by omega) (fun E H rE _ _ fE fH => ⟨n + 1, ?_⟩)
  have keyC : ∀ (Q : Int32 → xF → xA → Prop), (∀ E1 H1, side6 F E1 G H1 → Q (shQ t0 t1 w f b n) E1 H1) → ∀ (m k : Nat) (E1 : xF) (H1 : xA), k + m = n → side6 F E1 G H1 → R5 (goW t0 t1 w k) t0 t1 (xsub E1 14) (xsub H1 28) → qX6_share_52 Q (m + 1) (nI f) (nI b) (nI n) (nI (shB t0 t1 w f k)) (nI (shC t0 t1 w f k)) (nI k) E1 H1 := by
    intro Q hQ m
    induction m with
    | zero =>
      intro k E1 H1 hk hs rk
      obtain rfl : k = n := by omega
      refine ⟨fun _ => ?_, fun c => absurd (nI_le (Nat.le_refl _) (by omega)) c⟩
      have hq := hQ E1 H1 hs
      unfold shQ at hq
      have p1 : H1 32 f = nI (wF (goW t0 t1 w k) f 2) := rk.2.2.2.2.2.1 f hf9
      have p2 : H1 4 f = nI (wF w f 2) := by rw [hs.2 4 (by omega)]; exact r5.2.2.2.2.2.1 f hf9
      rw [nI_clamp (show f < 2 ^ 31 by omega), p1, p2]
      refine eq_dec' (b := 0) (by omega) (by decide) (fun e => ⟨xvin hf9 (by omega), xvin hf9 (by omega), ?_⟩) (fun e => eq_dec' (b := 1) (by omega) (by decide) (fun e1 => ?_) (fun e1 => ?_))
      · rw [if_pos e] at hq; exact hq
      · rw [if_neg e, if_pos e1] at hq; exact hq
      · rw [if_neg e, if_neg e1] at hq; exact hq
    | succ m ih =>
      intro k E1 H1 hk hs rk
      obtain ⟨ok, dk⟩ := goW_ok (t0 := t0) (t1 := t1) hw k
      refine ⟨fun c => absurd c (nI_ge (by omega) (by omega)), fun _ => s6_who (o := 14) (o2 := 28) ok (by omega) rk ?_⟩
      refine s6_day (o := 14) (o2 := 28) ok (by omega) h0 h1 rk (Or.inl ⟨rfl, rfl⟩) (fun E2 H2 r2 _ d2 fE2 fH2 => ?_)
      have r2' : R5 (goW t0 t1 w (k + 1)) t0 t1 (xsub E2 14) (xsub H2 28) := r2
      obtain ⟨ok1, _⟩ := goW_ok (t0 := t0) (t1 := t1) hw (k + 1)
      have hs2 : side6 F E2 G H2 := side6_tr hs (side6_b (by omega) (by omega) fE2 fH2)
      have hwho := (whoW_ok ok).1
      have ih' := ih (k + 1) E2 H2 (by omega) hs2 r2'
      have eB : shB t0 t1 w f (k + 1) = shB t0 t1 w f k + if whoW (goW t0 t1 w k) = f then dayF t1 (goW t0 t1 w k) else 0 := rfl
      have eC : shC t0 t1 w f (k + 1) = shC t0 t1 w f k + ownS (goW t0 t1 w (k + 1)) (dayD t1 (goW t0 t1 w k)) f 16 := rfl
      rw [eB, eC] at ih'
      refine eq_dec' (by omega) (by omega) (fun e => s6_dugFor (o := 14) (o2 := 28) hf9 ok1 (fun a ha => r2'.2.1 a ha) d2 ?_) (fun e => s6_dugFor (o := 14) (o2 := 28) hf9 ok1 (fun a ha => r2'.2.1 a ha) d2 ?_)
      · rw [if_pos e] at ih'
        rw [nI_add, nI_add, show nI k + (1 : Int32) = nI (k + 1) from nI_1 k]
        exact ih'
      · rw [if_neg e] at ih'
        rw [show (0 : Int32) = nI 0 from rfl, nI_add, nI_add, show nI k + (1 : Int32) = nI (k + 1) from nI_1 k]
        exact ih'
  have seven : ∀ {Q : Int32 → xF → xA → Prop}, (∀ G3, G3 0 = G' 0 → (∀ k, k = 1 ∨ k = 3 ∨ (10 ≤ k ∧ k < 14) → G3 k = G' k) → Q (shQ t0 t1 w f b n) F' G3) → qX7_share (nI f) (nI b) (nI n) F' G' Q := by
    intro Q hQ
    unfold qX7_share
    refine s7_isFarmer hf ?_; (first | refine pY1 ?_ | refine pY2 ?_)
    refine s7_inG (l := 0) (n := 2) (by omega) hb (by decide) ?_; (first | refine pY1 ?_ | refine pY2 ?_)
    refine s7_inG (l := 1) (n := 45) hl hn (by decide) ?_; (first | refine pY1 ?_ | refine pY2 ?_)
    refine s7_down (fun G1 d1 k1 => ⟨n + 1, ?_⟩)
    have st : ∀ (m k : Nat) (G2 : xA), k + m = n → dur7 G' G2 → R7 (goW t0 t1 w k) t0 t1 (G2 0) → qX7_share_42 Q (m + 1) (nI f) (nI b) (nI n) (shQ t0 t1 w f b k) (nI k) F' G2 := by
      intro m
      induction m with
      | zero =>
        intro k G2 hk d2 r2
        obtain rfl : k = n := by omega
        exact ⟨fun _ => s7_back d2 (fun G3 e3 _ k3 => hQ G3 e3 k3), fun c => absurd (nI_le (Nat.le_refl _) (by omega)) c⟩
      | succ m ih =>
        intro k G2 hk d2 r2
        obtain ⟨ok, dk⟩ := goW_ok (t0 := t0) (t1 := t1) hw k
        have hwho := (whoW_ok ok).1
        refine ⟨fun c => absurd c (nI_ge (by omega) (by omega)), fun _ => s7_who ok (by omega) r2 (s7_itsW (i := 2) hf9 (by omega) r2 (s7_day ok (by omega) h0 h1 r2 h5 (fun G3 f3 r3 d3 => ?_)))⟩
        have r3' : R7 (goW t0 t1 w (k + 1)) t0 t1 (G3 0) := r3
        obtain ⟨ok1, _⟩ := goW_ok (t0 := t0) (t1 := t1) hw (k + 1)
        have ih' := ih (k + 1) G3 (by omega) (dur_fr d2 f3) r3'
        unfold shQ at ih' ⊢
        refine eq_dec' (b := 0) (by omega) (by decide) (fun e => ?_) (fun e => eq_dec' (b := 1) (by omega) (by decide) (fun e1 => ?_) (fun e1 => ?_))
        · rw [if_pos e] at ih' ⊢
          refine s7_itsW (i := 2) hf9 (by omega) r3' ?_
          rw [tele, show nI k + (1 : Int32) = nI (k + 1) from nI_1 k]
          exact ih'
        · rw [if_neg e, if_pos e1] at ih' ⊢
          have eB : shB t0 t1 w f (k + 1) = shB t0 t1 w f k + if whoW (goW t0 t1 w k) = f then dayF t1 (goW t0 t1 w k) else 0 := rfl
          rw [eB] at ih'
          refine eq_dec' (by omega) (by omega) (fun z => ?_) (fun z => ?_)
          · rw [if_pos z] at ih'
            rw [nI_add, show nI k + (1 : Int32) = nI (k + 1) from nI_1 k]
            exact ih'
          · rw [if_neg z] at ih'
            rw [show (0 : Int32) = nI 0 from rfl, nI_add, show nI k + (1 : Int32) = nI (k + 1) from nI_1 k]
            exact ih'
        · rw [if_neg e, if_neg e1] at ih' ⊢
          exact s7_share_in hf9 ok1 r3' d3 ih'
    have s0 : shQ t0 t1 w f b 0 = 0 := by
      unfold shQ
      split
      · exact Int32.sub_self _
      · split <;> rfl
    have := st n 0 G1 (by omega) d1 (by rw [k1 0 (by omega)]; exact r7)
    rw [s0] at this
    exact this
  exact keyC _ (fun E1 H1 hs => seven (fun G3 e3 k3 => ⟨rfl, jo_ahead hI hs e3 k3⟩)) n 0 E H (by omega) (side6_b (by omega) (by omega) fE fH) rE
