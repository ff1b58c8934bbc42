/-! sums over rows: the two sides' loops -/
def sumN (f : Nat → Int32) : Nat → Int32
  | 0 => 0
  | n + 1 => sumN f n + f n
theorem sumN_congr {f g : Nat → Int32} : ∀ {n : Nat}, (∀ i, i < n → f i = g i) → sumN f n = sumN g n
  | 0, _ => rfl
  | n + 1, h => by rw [sumN, sumN, sumN_congr (fun i hi => h i (by omega)), h n (by omega)]
theorem s7_allUnder {F : xF} {G : xA} {Q : Int32 → xF → xA → Prop} (h : Q (sumN (fun a => G 0 (24 + a)) 16) F G) : qX7_allUnder F G Q := by
  have key : ∀ (n k : Nat), k + n = 16 → qX7_allUnder_4 Q (n + 1) (sumN (fun a => G 0 (24 + a)) k) (nI k) F G := by
    intro n
    induction n with
    | zero =>
      intro k hk
      obtain rfl : k = 16 := by omega
      exact ⟨fun _ => h, fun c => absurd (show nI 16 ≤ nI 16 from nI_le (Nat.le_refl _) (by omega)) c⟩
    | succ n ih =>
      intro k hk
      refine ⟨fun c => absurd (show nI 16 ≤ nI k from c) (nI_ge (by omega) (by omega)), fun _ => ?_⟩
      rw [show (24 : Int32) + nI k = nI (24 + k) from nI_add 24 k, nI_clamp (by omega), show nI k + (1 : Int32) = nI (k + 1) from nI_1 k]
      exact ⟨xvin (by omega) (by omega), ih (k + 1) (by omega)⟩
  exact ⟨17, key 16 0 (by omega)⟩
theorem s7_allOf {what : Nat} (hw : what < 9) {F : xF} {G : xA} {Q : Int32 → xF → xA → Prop} (h : Q (sumN (fun f => G 0 (40 + 9 * f + what)) 9) F G) : qX7_allOf (nI what) F G Q := by
  have key : ∀ (n k : Nat), k + n = 9 → qX7_allOf_4 Q (n + 1) (nI what) (sumN (fun f => G 0 (40 + 9 * f + what)) k) (nI k) F G := by
    intro n
    induction n with
    | zero =>
      intro k hk
      obtain rfl : k = 9 := by omega
      exact ⟨fun _ => h, fun c => absurd (show nI 9 ≤ nI 9 from nI_le (Nat.le_refl _) (by omega)) c⟩
    | succ n ih =>
      intro k hk
      refine ⟨fun c => absurd (show nI 9 ≤ nI k from c) (nI_ge (by omega) (by omega)), fun _ => ?_⟩
      refine s7_its (by omega) hw ?_
      rw [show nI k + (1 : Int32) = nI (k + 1) from nI_1 k]
      exact ih (k + 1) (by omega)
  exact ⟨10, key 9 0 (by omega)⟩
/-- the class's sum over a row of n places -/
theorem s6_sum_2 {F : xF} {G : xA} {Q : Int32 → xF → xA → Prop} (h : Q (sumN (G 1) 16) F G) : qX6_sum_2 F G Q := by
  have key : ∀ (n k : Nat), k + n = 16 → qX6_sum_2_10 Q (n + 1) (sumN (G 1) k) (nI 16) (nI k) F G := by
    intro n
    induction n with
    | zero =>
      intro k hk
      obtain rfl : k = 16 := by omega
      exact ⟨fun _ => h, fun c => absurd (nI_le (Nat.le_refl _) (by omega)) c⟩
    | succ n ih =>
      intro k hk
      refine ⟨fun c => absurd c (nI_ge (by omega) (by omega)), fun _ => ?_⟩
      rw [nI_clamp (by omega), show nI k + (1 : Int32) = nI (k + 1) from nI_1 k]
      exact ⟨xvin (by omega) (by omega), ih (k + 1) (by omega)⟩
  exact ⟨17, key 16 0 (by omega)⟩
theorem s6_sum_5 {F : xF} {G : xA} {Q : Int32 → xF → xA → Prop} (h : Q (sumN (G 4) 9) F G) : qX6_sum_5 F G Q := by
  have key : ∀ (n k : Nat), k + n = 9 → qX6_sum_5_10 Q (n + 1) (sumN (G 4) k) (nI 9) (nI k) F G := by
    intro n
    induction n with
    | zero =>
      intro k hk
      obtain rfl : k = 9 := by omega
      exact ⟨fun _ => h, fun c => absurd (nI_le (Nat.le_refl _) (by omega)) c⟩
    | succ n ih =>
      intro k hk
      refine ⟨fun c => absurd c (nI_ge (by omega) (by omega)), fun _ => ?_⟩
      rw [nI_clamp (by omega), show nI k + (1 : Int32) = nI (k + 1) from nI_1 k]
      exact ⟨xvin (by omega) (by omega), ih (k + 1) (by omega)⟩
  exact ⟨10, key 9 0 (by omega)⟩
theorem s6_sum_6 {F : xF} {G : xA} {Q : Int32 → xF → xA → Prop} (h : Q (sumN (G 5) 9) F G) : qX6_sum_6 F G Q := by
  have key : ∀ (n k : Nat), k + n = 9 → qX6_sum_6_10 Q (n + 1) (sumN (G 5) k) (nI 9) (nI k) F G := by
    intro n
    induction n with
    | zero =>
      intro k hk
      obtain rfl : k = 9 := by omega
      exact ⟨fun _ => h, fun c => absurd (nI_le (Nat.le_refl _) (by omega)) c⟩
    | succ n ih =>
      intro k hk
      refine ⟨fun c => absurd c (nI_ge (by omega) (by omega)), fun _ => ?_⟩
      rw [nI_clamp (by omega), show nI k + (1 : Int32) = nI (k + 1) from nI_1 k]
      exact ⟨xvin (by omega) (by omega), ih (k + 1) (by omega)⟩
  exact ⟨10, key 9 0 (by omega)⟩
/-! who has the pig: the least farmer whose turn is the day's rest by 9 -/
theorem s7_whoHas {F : xF} {G : xA} {Q : Int32 → xF → xA → Prop} {w : Nat} (hw : w < 9) (h1 : G 0 (40 + 9 * w + 4) = G 0 0 - G 0 0 / 9 * 9) (h2 : ∀ f, f < w → ¬ G 0 (40 + 9 * f + 4) = G 0 0 - G 0 0 / 9 * 9) (h : Q (nI w) F G) : qX7_whoHas F G Q := by
  have key : ∀ (n k : Nat), k + n = w → qX7_whoHas_2 Q (n + 1) (nI k) F G := by
    intro n
    induction n with
    | zero =>
      intro k hk
      obtain rfl : k = w := by omega
      exact s7_its (what := 4) hw (by omega) ⟨fun _ => h, fun c => absurd h1 c⟩
    | succ n ih =>
      intro k hk
      refine s7_its (what := 4) (by omega) (by omega) ⟨fun c => absurd c (h2 k (by omega)), fun _ => ?_⟩
      rw [show nI k + (1 : Int32) = nI (k + 1) from nI_1 k]
      exact ih (k + 1) (by omega)
  exact ⟨w + 1, key w 0 (by omega)⟩
theorem s5_whoHasIt {F : xF} {G : xA} {Q : Int32 → xF → xA → Prop} {w : Nat} (hw : w < 9) (h1 : G 6 w = F 3 - F 3 / 9 * 9) (h2 : ∀ f, f < w → ¬ G 6 f = F 3 - F 3 / 9 * 9) (h : Q (nI w) F G) : qX5_whoHasIt F G Q := by
  have key : ∀ (n k : Nat), k + n = w → qX5_whoHasIt_10 Q (n + 1) (F 3 - F 3 / 9 * 9) (nI k) F G := by
    intro n
    induction n with
    | zero =>
      intro k hk
      obtain rfl : k = w := by omega
      refine ⟨fun _ => h, fun _ => ?_⟩
      rw [nI_clamp (by omega)]
      exact ⟨xvin hw (by omega), fun _ => h, fun c => absurd h1 c⟩
    | succ n ih =>
      intro k hk
      refine ⟨fun c => absurd (show nI 8 ≤ nI k from c) (nI_ge (by omega) (by omega)), fun _ => ?_⟩
      rw [nI_clamp (by omega), show nI k + (1 : Int32) = nI (k + 1) from nI_1 k]
      exact ⟨xvin (by omega) (by omega), fun c => absurd c (h2 k (by omega)), fun _ => ih (k + 1) (by omega)⟩
  exact ⟨w + 1, key w 0 (by omega)⟩
