/-! calls: the best leash -/
def dg (i r : Nat) : Nat := if i = 0 then r / 125 % 5 else if i = 1 then r / 25 % 5 else if i = 2 then r / 5 % 5 else r % 5
theorem dg_le (i r : Nat) : dg i r ≤ 4 := by
  unfold dg
  split
  · omega
  · split
    · omega
    · split <;> omega
def lsW (w : wW) (f r : Nat) : wW := fun j => if 45 + 9 * f ≤ j ∧ j < 49 + 9 * f then dg (j - (45 + 9 * f)) r else w j
theorem lsW_ne {w : wW} {f r j : Nat} (h : j < 45 + 9 * f ∨ 49 + 9 * f ≤ j) : lsW w f r j = w j := by
  unfold lsW
  rw [if_neg (by omega)]
theorem lsW_i {w : wW} {f r i : Nat} (hi : i < 4) : wF (lsW w f r) f (5 + i) = dg i r := by
  unfold wF lsW
  rw [if_pos (by omega), show 40 + 9 * f + (5 + i) - (45 + 9 * f) = i by omega]
theorem lsW_mk {w w' : wW} {f r : Nat} (h : ∀ j, (j < 45 + 9 * f ∨ 49 + 9 * f ≤ j) → w' j = w j) : wU (wU (wU (wU w' (40 + 9 * f + (5 + 0)) (dg 0 r)) (40 + 9 * f + (5 + 1)) (dg 1 r)) (40 + 9 * f + (5 + 2)) (dg 2 r)) (40 + 9 * f + (5 + 3)) (dg 3 r) = lsW w f r := by
  funext j
  by_cases c : 45 + 9 * f ≤ j ∧ j < 49 + 9 * f
  · obtain ⟨i, rfl⟩ : ∃ i, j = 45 + 9 * f + i := ⟨j - (45 + 9 * f), by omega⟩
    unfold lsW
    rw [if_pos c, Nat.add_sub_cancel_left]
    rcases (by omega : i = 0 ∨ i = 1 ∨ i = 2 ∨ i = 3) with rfl | rfl | rfl | rfl
    · rw [wU_ne (by omega), wU_ne (by omega), wU_ne (by omega), show 45 + 9 * f + 0 = 40 + 9 * f + (5 + 0) by omega, wU_at]
    · rw [wU_ne (by omega), wU_ne (by omega), show 45 + 9 * f + 1 = 40 + 9 * f + (5 + 1) by omega, wU_at]
    · rw [wU_ne (by omega), show 45 + 9 * f + 2 = 40 + 9 * f + (5 + 2) by omega, wU_at]
    · rw [show 45 + 9 * f + 3 = 40 + 9 * f + (5 + 3) by omega, wU_at]
  · rw [wU_ne (by omega), wU_ne (by omega), wU_ne (by omega), wU_ne (by omega), lsW_ne (by omega)]
    exact h j (by omega)
theorem lsW_dn {w : wW} {f r : Nat} : wU (wU (wU (wU w (40 + 9 * f + (5 + 3)) (dg 3 r)) (40 + 9 * f + (5 + 2)) (dg 2 r)) (40 + 9 * f + (5 + 1)) (dg 1 r)) (40 + 9 * f + (5 + 0)) (dg 0 r) = lsW w f r := by
  rw [← lsW_mk (w := w) (w' := w) (fun _ _ => rfl)]
  funext j
  unfold wU
  repeat' split
  all_goals first | rfl | omega
theorem Wok_lsW {w : wW} {f r : Nat} (hf : f < 9) (h : Wok w) : Wok (lsW w f r) := by
  rw [← lsW_mk (w := w) (w' := w) (fun _ _ => rfl)]
  exact Wok_s_leash (Wok_s_leash (Wok_s_leash (Wok_s_leash h hf (by omega) (dg_le _ _)) hf (by omega) (dg_le _ _)) hf (by omega) (dg_le _ _)) hf (by omega) (dg_le _ _)
theorem morn_ls {w : wW} {f r : Nat} : mornW (lsW w f r) = lsW (mornW w) f r := by
  funext j
  unfold mornW
  by_cases c : 24 ≤ j ∧ j < 24 + 16
  · rw [lsW_ne (by omega)]
    unfold mornK
    rw [if_pos c, if_pos c, lsW_ne (by omega), lsW_ne (by omega)]
  · have a : ∀ w' : wW, mornK w' 16 j = w' j := fun w' => by unfold mornK; rw [if_neg c]
    rw [a]
    by_cases d : 45 + 9 * f ≤ j ∧ j < 49 + 9 * f
    · unfold lsW; rw [if_pos d, if_pos d]
    · rw [lsW_ne (by omega), lsW_ne (by omega), a]
/-- what is found by row r -/
def foR (t1 : wT) (w : wW) (f r : Nat) : Nat := (digW t1 f (lsW w f r)).2.2
theorem foR_le {t1 : wT} {w : wW} {f r : Nat} (hw : Wok w) (hf : f < 9) : foR t1 w f r ≤ 99 := (digW_ok (Wok_lsW hf hw) hf).2.1
def blS (t1 : wT) (w : wW) (f : Nat) : Nat → Nat × Nat
  | 0 => (0, foR t1 w f 0)
  | k + 1 => if foR t1 w f (k + 1) ≤ (blS t1 w f k).2 then blS t1 w f k else (k + 1, foR t1 w f (k + 1))
theorem blS_s {t1 : wT} {w : wW} {f k : Nat} : blS t1 w f (k + 1) = if foR t1 w f (k + 1) ≤ (blS t1 w f k).2 then blS t1 w f k else (k + 1, foR t1 w f (k + 1)) := rfl
theorem blS_ok {t1 : wT} {w : wW} {f : Nat} (hw : Wok w) (hf : f < 9) : ∀ k, (blS t1 w f k).1 ≤ k ∧ (blS t1 w f k).2 ≤ 99
  | 0 => ⟨Nat.le_refl _, foR_le hw hf⟩
  | k + 1 => by
    obtain ⟨a, b⟩ := blS_ok (t1 := t1) (f := f) hw hf k
    rw [blS_s]
    split
    · exact ⟨by omega, b⟩
    · exact ⟨Nat.le_refl _, foR_le hw hf⟩
/-- the answer by what is asked -/
def blQ (b : Nat) (s : Nat × Nat) : Nat := if b = 0 then s.2 else dg (b - 1) s.1
theorem d5 {r : Nat} (hr : r < 2 ^ 31) : nI r / (5 : Int32) = nI (r / 5) := pk_div (d := 5) hr (by omega) (by omega)
theorem r5' {r : Nat} (hr : r < 2 ^ 31) : nI r - nI r / (5 : Int32) * (5 : Int32) = nI (r % 5) := pk_rem (d := 5) hr (by omega) (by omega)
theorem s7_bestLeash {w : wW} {t0 t1 : wT} {F : xF} {G : xA} {b : Nat} {Q : Int32 → xF → xA → Prop} (hw : Wok w) (hd : w 0 ≤ 9999) (h1 : wTx t1) (r7 : R7 w t0 t1 (G 0)) (hb : b ≤ 4) (h : ∀ G3, G3 0 = G 0 → (∀ k, k = 1 ∨ k = 3 ∨ (10 ≤ k ∧ k < 14) → G3 k = G k) → Q (nI (blQ b (blS t1 w (whoW w) 624))) F G3) : qX7_bestLeash (nI b) F G Q := by
  obtain ⟨hf, _, _⟩ := whoW_ok hw
  unfold qX7_bestLeash
  refine s7_inG (l := 0) (n := 4) (by omega) hb (by decide) ?_; (first | refine pY1 ?_ | refine pY2 ?_)
  refine s7_who hw (by omega) r7 (s7_down (fun G1 d1 k1 => ⟨626, ?_⟩))
  have fin : ∀ (s : Nat × Nat) (G2 : xA), s = blS t1 w (whoW w) 624 → dur7 G G2 → G2 0 = G 0 → ((¬ nI b = 0 → ((¬ nI b = (1 : Int32) → ((¬ nI b = (2 : Int32) → ((¬ nI b = (3 : Int32) → Q (nI s.1 - nI s.1 / (5 : Int32) * (5 : Int32)) F G2) ∧ (nI b = (3 : Int32) → Q ((nI s.1 / (5 : Int32)) - (nI s.1 / (5 : Int32)) / (5 : Int32) * (5 : Int32)) F G2))) ∧ (nI b = (2 : Int32) → Q ((nI s.1 / (25 : Int32)) - (nI s.1 / (25 : Int32)) / (5 : Int32) * (5 : Int32)) F G2))) ∧ (nI b = (1 : Int32) → Q (nI s.1 / (125 : Int32)) F G2))) ∧ (nI b = 0 → Q (nI s.2) F G2)) := by
    intro s G2 es d2 e2
    obtain ⟨q1, q2⟩ := blS_ok (t1 := t1) hw hf 624
    rw [← es] at q1 q2
    have hQ := h G2 e2 (fun k hk => d2.1 k hk)
    rw [← es] at hQ
    unfold blQ at hQ
    refine eq_dec' (b := 0) (by omega) (by decide) (fun e => ?_) (fun n0 => eq_dec' (b := 1) (by omega) (by decide) (fun e => ?_) (fun n1 => eq_dec' (b := 2) (by omega) (by decide) (fun e => ?_) (fun n2 => eq_dec' (b := 3) (by omega) (by decide) (fun e => ?_) (fun n3 => ?_))))
    · rw [if_pos e] at hQ; exact hQ
    · subst e
      rw [if_neg (by omega)] at hQ
      rw [show nI s.1 / (125 : Int32) = nI (s.1 / 125) from pk_div (d := 125) (by omega) (by omega) (by omega)]
      have : dg (1 - 1) s.1 = s.1 / 125 := by show s.1 / 125 % 5 = _; omega
      rw [this] at hQ; exact hQ
    · subst e
      rw [if_neg (by omega)] at hQ
      rw [show nI s.1 / (25 : Int32) = nI (s.1 / 25) from pk_div (d := 25) (by omega) (by omega) (by omega), r5' (by omega)]
      exact hQ
    · subst e
      rw [if_neg (by omega)] at hQ
      rw [d5 (by omega), r5' (by omega)]
      exact hQ
    · obtain rfl : b = 4 := by omega
      rw [if_neg (by omega)] at hQ
      rw [r5' (by omega)]
      exact hQ
  have key : ∀ (n k : Nat) (x3 x4 : Int32) (G2 : xA), k + n = 625 → dur7 G G2 → G2 0 = G 0 → ((k = 0 ∧ x3 = -1) ∨ (∃ u, k = u + 1 ∧ x3 = nI (blS t1 w (whoW w) u).1 ∧ x4 = nI (blS t1 w (whoW w) u).2)) → qX7_bestLeash_32 Q (n + 1) (nI b) (nI (whoW w)) x3 x4 (nI k) F G2 := by
    intro n
    induction n with
    | zero =>
      intro k x3 x4 G2 hk d2 e2 hx
      obtain rfl : k = 625 := by omega
      rcases hx with ⟨q, _⟩ | ⟨u, hu, rfl, rfl⟩
      · exact absurd q (by decide)
      · obtain rfl : u = 624 := by omega
        exact ⟨fun _ => fin _ G2 rfl d2 e2, fun c => absurd (nI_le (a := 625) (b := 625) (Nat.le_refl _) (by decide)) c⟩
    | succ n ih =>
      intro k x3 x4 G2 hk d2 e2 hx
      refine ⟨fun c => absurd (show nI 625 ≤ nI k from c) (nI_ge (by omega) (by omega)), fun _ => ⟨5, ?_⟩⟩
      have q0 : R7 w t0 t1 (G2 0) := by rw [e2]; exact r7
      refine ⟨fun c => absurd c (by decide), fun _ => ?_⟩
      rw [r5' (by omega), d5 (by omega)]
      refine s7_lays1 (what := 8) hf (by omega) ⟨fun c => absurd c (by decide), fun _ => ?_⟩
      rw [r5' (by omega), d5 (by omega)]
      refine s7_lays1 (what := 7) hf (by omega) ⟨fun c => absurd c (by decide), fun _ => ?_⟩
      rw [r5' (by omega), d5 (by omega)]
      refine s7_lays1 (what := 6) hf (by omega) ⟨fun c => absurd c (by decide), fun _ => ?_⟩
      rw [r5' (by omega), d5 (by omega)]
      refine s7_lays1 (what := 5) hf (by omega) ⟨fun _ => ?_, fun c => absurd (by decide) c⟩
      have q4 : R7 (lsW w (whoW w) k) t0 t1 ((xst (xst (xst (xst G2 0 (40 + 9 * whoW w + 8) (nI (k % 5))) 0 (40 + 9 * whoW w + 7) (nI (k / 5 % 5))) 0 (40 + 9 * whoW w + 6) (nI (k / 5 / 5 % 5))) 0 (40 + 9 * whoW w + 5) (nI (k / 5 / 5 / 5 % 5))) 0) := by
        rw [xst_at, xst_at, xst_at, xst_at, ← lsW_dn, show k / 5 / 5 / 5 % 5 = dg 0 k by show _ = k / 125 % 5; omega, show k / 5 / 5 % 5 = dg 1 k by show _ = k / 25 % 5; omega]
        exact R7_upd (R7_upd (R7_upd (R7_upd q0 (by omega)) (by omega)) (by omega)) (by omega)
      refine s7_digs (Wok_lsW hf hw) hf h1 q4 (fun G3 f3 r3 _ => ?_)
      have d3 : dur7 G G3 := dur_fr d2 (fr7_tr (fr7_tr (fr7_tr (fr7_tr (fr7_0 (by omega)) (fr7_0 (by omega))) (fr7_0 (by omega))) (fr7_0 (by omega))) f3)
      have hfo : foR t1 w (whoW w) k ≤ 99 := foR_le hw hf
      show qX7_layBack F G3 (fun F85 G85 => ((x3 = (-1 : Int32) → qX7_bestLeash_32 Q (n + 1) (nI b) (nI (whoW w)) (nI k) (nI (foR t1 w (whoW w) k)) (nI k + (1 : Int32)) F85 G85) ∧ (¬ x3 = (-1 : Int32) → ((nI (foR t1 w (whoW w) k) ≤ x4 → qX7_bestLeash_32 Q (n + 1) (nI b) (nI (whoW w)) x3 x4 (nI k + (1 : Int32)) F85 G85) ∧ (¬ nI (foR t1 w (whoW w) k) ≤ x4 → qX7_bestLeash_32 Q (n + 1) (nI b) (nI (whoW w)) (nI k) (nI (foR t1 w (whoW w) k)) (nI k + (1 : Int32)) F85 G85)))))
      refine s7_back d3 (fun G4 e4 o4 k4 => ?_)
      have d4 : dur7 G G4 := ⟨k4, fun j hj => by rw [o4 2 (by omega)]; exact d3.2.1 j hj, fun j _ => by rw [e4]⟩
      rw [show nI k + (1 : Int32) = nI (k + 1) from nI_1 k]
      rcases hx with ⟨z, z3⟩ | ⟨u, hu, e3, ex4⟩
      · subst z
        exact ⟨fun _ => ih 1 _ _ G4 (by omega) d4 e4 (Or.inr ⟨0, rfl, rfl, rfl⟩), fun c => absurd z3 c⟩
      · subst hu
        obtain ⟨p1, p2⟩ := blS_ok (t1 := t1) hw hf u
        rw [e3, ex4]
        refine ⟨fun c => absurd c (nI_nem1 (by omega)), fun _ => le_dec (by omega) (by omega) (fun c => ih (u + 1 + 1) _ _ G4 (by omega) d4 e4 (Or.inr ⟨u + 1, rfl, ?_, ?_⟩)) (fun c => ih (u + 1 + 1) _ _ G4 (by omega) d4 e4 (Or.inr ⟨u + 1, rfl, ?_, ?_⟩))⟩
        · rw [blS_s, if_pos c]
        · rw [blS_s, if_pos c]
        · rw [blS_s, if_neg (by omega)]
        · rw [blS_s, if_neg (by omega)]
  exact key 625 0 (-1) 0 G1 (by omega) d1 (k1 0 (by omega)) (Or.inl ⟨rfl, rfl⟩)
