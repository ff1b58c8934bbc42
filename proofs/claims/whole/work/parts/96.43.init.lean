/-! new objects -/
def iniV (j : Nat) : Nat := if j = 1 then 1 else if j = 3 then 5 else if j = 6 then 1 else 0
def inA (k : Nat) : wW := fun j => if 8 ≤ j ∧ j < 8 + k then (j - 8) % 9 else iniV j
def inB (f : Nat) : wW := fun j => if 40 ≤ j ∧ j < 40 + 9 * f then (if (j - 40) % 9 = 4 then (j - 40) / 9 else if 5 ≤ (j - 40) % 9 then 4 else 0) else inA 16 j
def iniW : wW := inB 9
theorem inA_0 : inA 0 = iniV := by
  funext j
  unfold inA
  rw [if_neg (by omega)]
theorem inA_s (k : Nat) : wU (inA k) (8 + k) (k % 9) = inA (k + 1) := by
  funext j
  unfold wU inA
  by_cases c : j = 8 + k
  · subst c
    rw [if_pos rfl, if_pos (show 8 ≤ 8 + k ∧ 8 + k < 8 + (k + 1) by omega), Nat.add_sub_cancel_left]
  · rw [if_neg c]
    by_cases d : 8 ≤ j ∧ j < 8 + k
    · rw [if_pos d, if_pos (show 8 ≤ j ∧ j < 8 + (k + 1) by omega)]
    · rw [if_neg d, if_neg (show ¬ (8 ≤ j ∧ j < 8 + (k + 1)) by omega)]
theorem inB_0 : inB 0 = inA 16 := by
  funext j
  unfold inB
  rw [if_neg (by omega)]
theorem inB_s (f : Nat) (hf : f < 9) : wU (wU (wU (wU (wU (inB f) (40 + 9 * f + 4) f) (40 + 9 * f + (5 + 0)) 4) (40 + 9 * f + (5 + 1)) 4) (40 + 9 * f + (5 + 2)) 4) (40 + 9 * f + (5 + 3)) 4 = inB (f + 1) := by
  funext j
  by_cases c : 40 + 9 * f ≤ j ∧ j < 40 + 9 * (f + 1)
  · obtain ⟨i, rfl⟩ : ∃ i, j = 40 + 9 * f + i := ⟨j - (40 + 9 * f), by omega⟩
    have hi : i < 9 := by omega
    have e : inB (f + 1) (40 + 9 * f + i) = if i = 4 then f else if 5 ≤ i then 4 else 0 := by
      unfold inB
      rw [if_pos (show 40 ≤ 40 + 9 * f + i ∧ 40 + 9 * f + i < 40 + 9 * (f + 1) by omega), show (40 + 9 * f + i - 40) % 9 = i by omega, show (40 + 9 * f + i - 40) / 9 = f by omega]
    have z : inB f (40 + 9 * f + i) = 0 := by
      unfold inB
      rw [if_neg (by omega)]
      unfold inA
      rw [if_neg (by omega)]
      unfold iniV
      rw [if_neg (by omega), if_neg (by omega), if_neg (by omega)]
    rw [e]
    rcases (by omega : i = 0 ∨ i = 1 ∨ i = 2 ∨ i = 3 ∨ i = 4 ∨ i = 5 ∨ i = 6 ∨ i = 7 ∨ i = 8) with rfl | rfl | rfl | rfl | rfl | rfl | rfl | rfl | rfl
    · rw [wU_ne (by omega), wU_ne (by omega), wU_ne (by omega), wU_ne (by omega), wU_ne (by omega), z]; rfl
    · rw [wU_ne (by omega), wU_ne (by omega), wU_ne (by omega), wU_ne (by omega), wU_ne (by omega), z]; rfl
    · rw [wU_ne (by omega), wU_ne (by omega), wU_ne (by omega), wU_ne (by omega), wU_ne (by omega), z]; rfl
    · rw [wU_ne (by omega), wU_ne (by omega), wU_ne (by omega), wU_ne (by omega), wU_ne (by omega), z]; rfl
    · rw [wU_ne (by omega), wU_ne (by omega), wU_ne (by omega), wU_ne (by omega), wU_at]; rfl
    · rw [wU_ne (by omega), wU_ne (by omega), wU_ne (by omega), show 40 + 9 * f + 5 = 40 + 9 * f + (5 + 0) by omega, wU_at]; rfl
    · rw [wU_ne (by omega), wU_ne (by omega), show 40 + 9 * f + 6 = 40 + 9 * f + (5 + 1) by omega, wU_at]; rfl
    · rw [wU_ne (by omega), show 40 + 9 * f + 7 = 40 + 9 * f + (5 + 2) by omega, wU_at]; rfl
    · rw [show 40 + 9 * f + 8 = 40 + 9 * f + (5 + 3) by omega, wU_at]; rfl
  · rw [wU_ne (by omega), wU_ne (by omega), wU_ne (by omega), wU_ne (by omega), wU_ne (by omega)]
    unfold inB
    by_cases d : 40 ≤ j ∧ j < 40 + 9 * f
    · rw [if_pos d, if_pos (show 40 ≤ j ∧ j < 40 + 9 * (f + 1) by omega)]
    · rw [if_neg d, if_neg (show ¬ (40 ≤ j ∧ j < 40 + 9 * (f + 1)) by omega)]
theorem ini_f {f i : Nat} (hf : f < 9) (hi : i < 9) : wF iniW f i = if i = 4 then f else if 5 ≤ i then 4 else 0 := by
  unfold wF iniW inB
  rw [if_pos (show 40 ≤ 40 + 9 * f + i ∧ 40 + 9 * f + i < 40 + 9 * 9 by omega), show (40 + 9 * f + i - 40) % 9 = i by omega, show (40 + 9 * f + i - 40) / 9 = f by omega]
theorem ini_o {a : Nat} (ha : a < 16) : wO iniW a = a % 9 := by
  unfold wO iniW inB
  rw [if_neg (by omega)]
  unfold inA
  rw [if_pos (by omega), Nat.add_sub_cancel_left]
theorem ini_lo {j : Nat} (h : j < 8 ∨ (24 ≤ j ∧ j < 40) ∨ 121 ≤ j) : iniW j = iniV j := by
  unfold iniW inB
  rw [if_neg (by omega)]
  unfold inA
  rw [if_neg (by omega)]
theorem ini_d {a : Nat} (ha : a < 16) : wD iniW a = 0 := by
  unfold wD
  rw [ini_lo (by omega)]
  unfold iniV
  rw [if_neg (by omega), if_neg (by omega), if_neg (by omega)]
theorem Wok_ini : Wok iniW := by
  refine ⟨by rw [ini_lo (by omega)]; decide, by rw [ini_lo (by omega)]; decide, by rw [ini_lo (by omega)]; decide, fun a ha => ⟨by rw [ini_o ha]; exact Nat.mod_lt _ (by omega), by rw [ini_d ha]; omega⟩, fun f hf => ⟨?_, ?_, ?_, ?_, ?_⟩, fun f hf i hi => ?_, fun d hd => ⟨d, hd, by rw [ini_f hd (by omega)]; rfl⟩⟩
  · rw [ini_f hf (by omega)]; simp
  · rw [ini_f hf (by omega)]; simp
  · rw [ini_f hf (by omega)]; simp
  · rw [ini_f hf (by omega)]; simp
  · rw [ini_f hf (by omega)]; simpa using hf
  · rw [ini_f hf (by omega), if_neg (by omega), if_pos (by omega)]; exact Nat.le_refl _
theorem rowU {s : Nat → Int32} {v : wW} {k x : Nat} (h : ∀ j, s j = nI (v j)) : ∀ j, upd s k (nI x) j = nI (wU v k x j) := fun j => by
  unfold upd wU
  split
  · rfl
  · exact h j
theorem s7_init {Q : xF → xA → Prop} (h : ∀ F G, F 0 = 0 → F 5 = -1 → F 6 = 0 → (∀ j, G 0 j = nI (iniW j)) → (∀ k, k ≠ 0 → k < 15 → ∀ i, G k i = 0) → Q F G) : qX7_init Q := by
  intro F0 eF G0 eG G1 e1 G2 e2 G3 e3
  have zG : ∀ k, k < 15 → G0 k = fun _ => 0 := fun k hk => by
    rw [eG]
    rcases (by omega : k = 0 ∨ k = 1 ∨ k = 2 ∨ k = 3 ∨ k = 4 ∨ k = 5 ∨ k = 6 ∨ k = 7 ∨ k = 8 ∨ k = 9 ∨ k = 10 ∨ k = 11 ∨ k = 12 ∨ k = 13 ∨ k = 14) with rfl | rfl | rfl | rfl | rfl | rfl | rfl | rfl | rfl | rfl | rfl | rfl | rfl | rfl | rfl <;> rfl
  have oG : ∀ k, k ≠ 0 → G3 k = G0 k := fun k hk => by rw [e3, xst_ne hk, e2, xst_ne hk, e1, xst_ne hk]
  have r0 : ∀ j, G3 0 j = nI (inA 0 j) := fun j => by
    rw [inA_0, e3, xst_at, e2, xst_at, e1, xst_at, zG 0 (by omega)]
    unfold upd iniV
    by_cases c6 : j = 6
    · subst c6; rfl
    · rw [if_neg c6]
      by_cases c3 : j = 3
      · subst c3; rfl
      · rw [if_neg c3]
        by_cases c1 : j = 1
        · subst c1; rfl
        · rw [if_neg c1, if_neg c1, if_neg c3, if_neg c6]; rfl
  have farm : ∀ (m f : Nat) (G4 : xA), f + m = 9 → (∀ k, k ≠ 0 → G4 k = G0 k) → (∀ j, G4 0 j = nI (inB f j)) → qX7_init_181 Q (m + 1) (nI f) F0 G4 := by
    intro m
    induction m with
    | zero =>
      intro f G4 hf o4 r4
      obtain rfl : f = 9 := by omega
      exact ⟨fun _ => h F0 G4 (by rw [eF]; rfl) (by rw [eF]; rfl) (by rw [eF]; rfl) r4 (fun k h0 hk i => by rw [o4 k h0, zG k hk]), fun c => absurd (nI_le (a := 9) (b := 9) (Nat.le_refl _) (by decide)) c⟩
    | succ m ih =>
      intro f G4 hf o4 r4
      refine ⟨fun c => absurd (show nI 9 ≤ nI f from c) (nI_ge (by omega) (by omega)), fun _ => s7_lays1 (what := 4) (by omega) (by omega) ⟨5, ?_⟩⟩
      refine ⟨fun c => absurd c (by decide), fun _ => s7_lays1 (what := 5 + 0) (by omega) (by omega) ?_⟩
      refine ⟨fun c => absurd c (by decide), fun _ => s7_lays1 (what := 5 + 1) (by omega) (by omega) ?_⟩
      refine ⟨fun c => absurd c (by decide), fun _ => s7_lays1 (what := 5 + 2) (by omega) (by omega) ?_⟩
      refine ⟨fun c => absurd c (by decide), fun _ => s7_lays1 (what := 5 + 3) (by omega) (by omega) ?_⟩
      refine ⟨fun _ => ?_, fun c => absurd (by decide) c⟩
      rw [show nI f + (1 : Int32) = nI (f + 1) from nI_1 f]
      refine ih (f + 1) _ (by omega) (fun k hk => by rw [xst_ne hk, xst_ne hk, xst_ne hk, xst_ne hk, xst_ne hk]; exact o4 k hk) (fun j => ?_)
      rw [xst_at, xst_at, xst_at, xst_at, xst_at, ← inB_s f (by omega)]
      exact rowU (x := 4) (rowU (x := 4) (rowU (x := 4) (rowU (x := 4) (rowU r4)))) j
  have oaks : ∀ (m k : Nat) (G4 : xA), k + m = 16 → (∀ k, k ≠ 0 → G4 k = G0 k) → (∀ j, G4 0 j = nI (inA k j)) → qX7_init_154 Q (m + 1) (nI k) F0 G4 := by
    intro m
    induction m with
    | zero =>
      intro k G4 hk o4 r4
      obtain rfl : k = 16 := by omega
      exact ⟨fun _ => ⟨10, farm 9 0 G4 (by omega) o4 (by rw [inB_0]; exact r4)⟩, fun c => absurd (nI_le (a := 16) (b := 16) (Nat.le_refl _) (by decide)) c⟩
    | succ m ih =>
      intro k G4 hk o4 r4
      refine ⟨fun c => absurd (show nI 16 ≤ nI k from c) (nI_ge (by omega) (by omega)), fun _ => ?_⟩
      rw [show (8 : Int32) + nI k = nI (8 + k) from nI_add 8 k, nI_clamp (show 8 + k < 2 ^ 31 by omega), rem9 (by omega), show nI k + (1 : Int32) = nI (k + 1) from nI_1 k]
      refine ⟨xvin (by omega) (by omega), fun G5 e5 => ih (k + 1) G5 (by omega) (fun j hj => by rw [e5, xst_ne hj]; exact o4 j hj) (fun j => ?_)⟩
      rw [e5, xst_at, ← inA_s]
      exact rowU r4 j
  exact ⟨17, oaks 16 0 G3 (by omega) oG r0⟩
theorem s5_init {Q : xF → xA → Prop} (h : ∀ F G, R5 iniW [] [] F G → F 4 = 1 → Q F G) : qX5_init Q := by
  intro a ea b eb c ec d ed a' ea' b' eb' c' ec' d' ed' F0 eF G0 eG
  have z : ∀ k, k < 10 → G0 k = fun _ => 0 := fun k hk => by
    rw [eG]
    rcases (by omega : k = 0 ∨ k = 1 ∨ k = 2 ∨ k = 3 ∨ k = 4 ∨ k = 5 ∨ k = 6 ∨ k = 7 ∨ k = 8 ∨ k = 9) with rfl | rfl | rfl | rfl | rfl | rfl | rfl | rfl | rfl | rfl <;> rfl
  have f0 : F0 0 = 1 := by rw [eF]; rfl
  have f1 : F0 1 = 0 := by rw [eF]; rfl
  have f2 : F0 2 = 5 := by rw [eF]; rfl
  have f3 : F0 3 = 0 := by rw [eF]; rfl
  have f4 : F0 4 = 1 := by rw [eF]; rfl
  have f5 : F0 5 = 0 := by rw [eF, ec, ea]; rfl
  have f6 : F0 6 = 0 := by rw [eF, ec', ea']; rfl
  have turns : ∀ (m f : Nat) (G4 : xA), f + m = 9 → (∀ k, k ≠ 0 → k ≠ 6 → G4 k = G0 k) → (∀ a, a < 16 → G4 0 a = nI (a % 9)) → (∀ g, g < f → G4 6 g = nI g) → qX5_init_157 Q (m + 1) (nI f) F0 G4 := by
    intro m
    induction m with
    | zero =>
      intro f G4 hf o4 r0 r6
      obtain rfl : f = 9 := by omega
      refine ⟨fun _ => s_fill (N := 36) (by decide) (fun p hp _ => fun H eH => ?_), fun c => absurd (nI_le (a := 9) (b := 9) (Nat.le_refl _) (by decide)) c⟩
      have hk : ∀ k, k ≠ 7 → H k = G4 k := fun k hk => by rw [eH, xspl_out (by omega)]
      have h7 : H 7 = p := by rw [eH, show xspl G4 7 1 (va_up (xsub G4 7) 0 p) 7 = va_up (xsub G4 7) 0 p 0 from xspl_in (k := 0) (by omega), vu_at]
      refine h F0 H ⟨⟨?_, ?_, ?_, ?_⟩, fun a ha => ?_, fun a ha => ?_, fun f hf => ?_, fun f hf => ?_, fun f hf => ?_, fun f hf => ?_, fun f hf => ?_, fun f hf i hi => ?_, ?_, ?_⟩ f4
      · rw [f0, ini_lo (by omega)]; rfl
      · rw [f1, ini_lo (by omega)]; rfl
      · rw [f2, ini_lo (by omega)]; rfl
      · rw [f3, ini_lo (by omega)]; rfl
      · rw [hk 0 (by omega), r0 a ha, ini_o ha]
      · rw [hk 1 (by omega), o4 1 (by omega) (by omega), z 1 (by omega), ini_d ha]; rfl
      · rw [hk 2 (by omega), o4 2 (by omega) (by omega), z 2 (by omega), ini_f hf (by omega)]; rfl
      · rw [hk 3 (by omega), o4 3 (by omega) (by omega), z 3 (by omega), ini_f hf (by omega)]; rfl
      · rw [hk 4 (by omega), o4 4 (by omega) (by omega), z 4 (by omega), ini_f hf (by omega)]; rfl
      · rw [hk 5 (by omega), o4 5 (by omega) (by omega), z 5 (by omega), ini_f hf (by omega)]; rfl
      · rw [hk 6 (by omega), r6 f hf, ini_f hf (by omega)]; rfl
      · rw [h7, hp _ (by omega), ini_f hf (by omega), if_neg (by omega), if_pos (by omega)]; rfl
      · rw [f5]; exact tkCd_nil
      · rw [f6]; exact tkCd_nil
    | succ m ih =>
      intro f G4 hf o4 r0 r6
      refine ⟨fun c => absurd (show nI 9 ≤ nI f from c) (nI_ge (by omega) (by omega)), fun _ => ⟨xvin (by omega) (by omega), fun G5 e5 => ?_⟩⟩
      rw [nI_clamp (show f < 2 ^ 31 by omega)] at e5
      rw [show nI f + (1 : Int32) = nI (f + 1) from nI_1 f]
      refine ih (f + 1) G5 (by omega) (fun k h0 h6 => by rw [e5, xst_ne h6]; exact o4 k h0 h6) (fun a ha => by rw [e5, xst_ne (by omega)]; exact r0 a ha) (fun g hg => ?_)
      rw [e5, xst_at]
      by_cases y : g = f
      · subst y; rw [upd_at]
      · rw [upd_ne y]; exact r6 g (by omega)
  have oaks : ∀ (m k : Nat) (G4 : xA), k + m = 16 → (∀ k, k ≠ 0 → G4 k = G0 k) → (∀ a, a < k → G4 0 a = nI (a % 9)) → qX5_init_133 Q (m + 1) (nI k) F0 G4 := by
    intro m
    induction m with
    | zero =>
      intro k G4 hk o4 r4
      obtain rfl : k = 16 := by omega
      exact ⟨fun _ => ⟨10, turns 9 0 G4 (by omega) (fun k h0 _ => o4 k h0) r4 (fun g hg => by omega)⟩, fun c => absurd (nI_le (a := 16) (b := 16) (Nat.le_refl _) (by decide)) c⟩
    | succ m ih =>
      intro k G4 hk o4 r4
      refine ⟨fun c => absurd (show nI 16 ≤ nI k from c) (nI_ge (by omega) (by omega)), fun _ => ⟨xvin (by omega) (by omega), fun G5 e5 => ?_⟩⟩
      rw [nI_clamp (show k < 2 ^ 31 by omega), rem9 (by omega)] at e5
      rw [show nI k + (1 : Int32) = nI (k + 1) from nI_1 k]
      refine ih (k + 1) G5 (by omega) (fun j hj => by rw [e5, xst_ne hj]; exact o4 j hj) (fun a ha => ?_)
      rw [e5, xst_at]
      by_cases y : a = k
      · subst y; rw [upd_at]
      · rw [upd_ne y]; exact r4 a (by omega)
  exact ⟨17, oaks 16 0 G0 (by omega) (fun _ _ => rfl) (fun a ha => by omega)⟩
theorem c_init : qX6_init (fun F G => qX7_init (fun F' G' => jo_I F G F' G')) := by
  refine s5_init (fun F1 G1 r1 z1 => ?_)
  intro a1 ea1 b1 eb1 a2 ea2 b2 eb2
  refine s5_init (fun F2 G2 _ _ => ?_)
  intro a3 ea3 b3 eb3 a4 ea4 b4 eb4
  refine s5_init (fun F3 G3 _ _ => ?_)
  refine s5_init (fun F4 G4 _ _ => ?_)
  intro a5 ea5 b5 eb5 a6 ea6 b6 eb6 a7 ea7 b7 eb7
  intro a8 ea8 b8 eb8 a9 ea9 b9 eb9
  intro c0 ec0 d0 ed0 c1 ec1 d1 ed1 c2 ec2 d2 ed2 c3 ec3 d3 ed3
  intro F eF G eG
  refine s7_init (fun F' G' f0 f5 f6 s0 so => ?_)
  have p0 : ∀ k, k < 7 → F k = F1 k := fun k hk => by
    rw [eF]
    unfold xcat
    rw [if_pos hk]
  have q0 : ∀ k, k < 14 → G k = G1 k := fun k hk => by
    rw [eG]
    unfold xcat
    rw [if_pos hk]
  have f28 : F 28 = 0 := by rw [eF]; rfl
  have f29 : F 29 = 0 := by rw [eF, ea1]; rfl
  have f30 : F 30 = 0 := by rw [eF, ea2]; rfl
  have f41 : F 41 = 0 := by rw [eF, ea9, ea8]; rfl
  have g62 : G 62 = fun _ => 0 := by rw [eG]; rfl
  have sv : ∀ j, j < 8 → G' 0 j = nI (iniV j) := fun j hj => by rw [s0, ini_lo (by omega)]
  have s121 : ∀ j, 121 ≤ j → G' 0 j = 0 := fun j hj => by
    rw [s0, ini_lo (by omega)]
    unfold iniV
    rw [if_neg (by omega), if_neg (by omega), if_neg (by omega)]; rfl
  refine ⟨⟨⟨iniW, [], [], Wok_ini, by rw [ini_lo (by omega)]; decide, wTx_nil, wTx_nil, R5_c r1 (fun k hk _ => p0 k hk) (fun k hk => q0 k (by omega)), ⟨fun k _ _ => s0 k, tkS_nil (s121 121 (by omega)), tkS_nil (s121 246 (by omega))⟩, by rw [p0 4 (by omega), z1, sv 6 (by omega)]; rfl⟩, tape0_tp f29 (sv 4 (by omega)), ⟨0, by omega, f30, sv 5 (by omega), fun i hi => by omega⟩⟩, ⟨by rw [f28, f0], fun c => absurd f0 c⟩, fun k hk => by rw [g62, so 3 (by omega) (by omega)], ⟨0, by omega, f41, f6, fun i hi => by omega⟩, fun q hq => ?_, f5⟩
  rcases (by omega : q = 0 ∨ q = 1 ∨ q = 2 ∨ q = 3) with rfl | rfl | rfl | rfl
  · refine ⟨by rw [so 11 (by omega) (by omega), eF, ec0]; rfl, ⟨0, by omega, by rw [eF, ec0]; rfl, so 12 (by omega) (by omega) 0⟩, fun i hi => by rw [so 13 (by omega) (by omega), eG, ed0]; rfl⟩
  · refine ⟨by rw [so 11 (by omega) (by omega), eF, ec1]; rfl, ⟨0, by omega, by rw [eF, ec1]; rfl, so 12 (by omega) (by omega) 1⟩, fun i hi => by rw [so 13 (by omega) (by omega), eG, ed1]; rfl⟩
  · refine ⟨by rw [so 11 (by omega) (by omega), eF, ec2]; rfl, ⟨0, by omega, by rw [eF, ec2]; rfl, so 12 (by omega) (by omega) 2⟩, fun i hi => by rw [so 13 (by omega) (by omega), eG, ed2]; rfl⟩
  · refine ⟨by rw [so 11 (by omega) (by omega), eF, ec3]; rfl, ⟨0, by omega, by rw [eF, ec3]; rfl, so 12 (by omega) (by omega) 3⟩, fun i hi => by rw [so 13 (by omega) (by omega), eG, ed3]; rfl⟩
