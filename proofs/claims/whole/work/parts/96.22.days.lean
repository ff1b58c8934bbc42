/-! the class's day, days -/
theorem s5_toPurse {w : wW} {t0 t1 : wT} {f n : Nat} (hw : Wok w) (hf : f < 9) (hn : n ≤ 9999) {F : xF} {G : xA} (hr : R5 w t0 t1 F G) {Q : xF → xA → Prop} (h : ∀ G', (∀ k, k ≠ 4 → G' k = G k) → R5 (wU w (40 + 9 * f + 2) (min 99999999 (w (40 + 9 * f + 2) + n))) t0 t1 F G' → Q F G') : qX5_toPurse (nI f) (nI n) F G Q := by
  have hm : wF w f 2 ≤ 99999999 := (hw.2.2.2.2.1 f hf).2.2.1
  have e4 : G 4 f = nI (wF w f 2) := hr.2.2.2.2.2.1 f hf
  unfold qX5_toPurse
  rw [nI_clamp (show f < 2 ^ 31 by omega), e4, nI_add, show (99999999 : Int32) = nI 99999999 from rfl, nI_min (by omega) (by omega), Nat.min_comm]
  exact ⟨xvin hf (by omega), xvin hf (by omega), fun G1 e => h G1 (fun k hk => by rw [e, xst_ne hk]) (by rw [e]; exact R5_s_purse hr hf)⟩
/-- purses of the first k farmers grown alike -/
theorem partW_5 (w : wW) (f hid rest : Nat) (hf : f < 9) : wU (wU (purK w (rest / 9) 0 f 9) (40 + 9 * f + 2) (min 99999999 (purK w (rest / 9) 0 f 9 (40 + 9 * f + 2) + (hid + rest % 9)))) (40 + 9 * f + 3) (min 99999999 (wF (wU (purK w (rest / 9) 0 f 9) (40 + 9 * f + 2) (min 99999999 (purK w (rest / 9) 0 f 9 (40 + 9 * f + 2) + (hid + rest % 9)))) f 3 + hid)) = partW w f hid rest := by
  have e2 : purK w (rest / 9) 0 f 9 (40 + 9 * f + 2) = min 99999999 (w (40 + 9 * f + 2) + rest / 9) := by
    unfold purK
    rw [if_pos (show 40 ≤ 40 + 9 * f + 2 ∧ 40 + 9 * f + 2 < 40 + 9 * 9 ∧ (40 + 9 * f + 2 - 40) % 9 = 2 by omega)]
    split <;> rfl
  have e3 : wF (wU (purK w (rest / 9) 0 f 9) (40 + 9 * f + 2) (min 99999999 (purK w (rest / 9) 0 f 9 (40 + 9 * f + 2) + (hid + rest % 9)))) f 3 = wF w f 3 := by
    unfold wF
    rw [wU_ne (by omega), purK_ne (by omega)]
  rw [e3, e2]
  funext j
  unfold partW
  by_cases c3 : j = 40 + 9 * f + 3
  · subst c3
    rw [wU_at, purK_ne (by omega), wU_at]
  · rw [wU_ne c3]
    by_cases c2 : j = 40 + 9 * f + 2
    · subst c2
      rw [wU_at]
      unfold purK
      rw [if_pos (show 40 ≤ 40 + 9 * f + 2 ∧ 40 + 9 * f + 2 < 40 + 9 * 9 ∧ (40 + 9 * f + 2 - 40) % 9 = 2 by omega), wU_ne (by omega), if_pos (show (40 + 9 * f + 2 - 40) / 9 = f by omega)]
      omega
    · rw [wU_ne c2]
      unfold purK
      rw [wU_ne c3]
      by_cases d : 40 ≤ j ∧ j < 40 + 9 * 9 ∧ (j - 40) % 9 = 2
      · rw [if_pos d, if_pos d]
        have : ¬ (j - 40) / 9 = f := by omega
        simp only [if_neg this]
      · rw [if_neg d, if_neg d]
theorem s5_partOut {w : wW} {t0 t1 : wT} {f found : Nat} (hw : Wok w) (hf : f < 9) (hn : found ≤ 9999) {F : xF} {G : xA} (hr : R5 w t0 t1 F G) {Q : xF → xA → Prop} (h : ∀ G', (∀ k, k ≠ 4 → k ≠ 5 → G' k = G k) → R5 (partW w f (hidW w f found) (found - hidW w f found)) t0 t1 F G' → Q F G') : qX5_partOut (nI f) (nI found) F G Q := by
  obtain ⟨k6, m9, _⟩ := hw.2.2.2.2.1 f hf
  have e2 : G 2 f = nI (wF w f 0) := hr.2.2.2.1 f hf
  have e3 : G 3 f = nI (wF w f 1) := hr.2.2.2.2.1 f hf
  have hb : found * wF w f 1 ≤ 9999 * 9 := Nat.mul_le_mul hn m9
  have hl := hidW_le (found := found) hw hf
  have main : ∃ j41, qX5_partOut_41 Q j41 (nI f) (nI (hidW w f found)) (nI (found - hidW w f found)) (nI ((found - hidW w f found) / 9)) (0 : Int32) F G := by
    have key : ∀ (n k : Nat) (G' : xA), k + n = 9 → (∀ k, k ≠ 4 → G' k = G k) → R5 (purK w ((found - hidW w f found) / 9) 0 f k) t0 t1 F G' → qX5_partOut_41 Q (n + 1) (nI f) (nI (hidW w f found)) (nI (found - hidW w f found)) (nI ((found - hidW w f found) / 9)) (nI k) F G' := by
      intro n
      induction n with
      | zero =>
        intro k G' hk hG r
        obtain rfl : k = 9 := by omega
        have okP := Wok_purK (nin := (found - hidW w f found) / 9) (ex := 0) (f := f) (k := 9) hw
        refine ⟨fun _ => ?_, fun c => absurd (nI_le (a := 9) (b := 9) (Nat.le_refl _) (by decide)) c⟩
        rw [rem9 (by omega), nI_add]
        refine s5_toPurse okP hf (by omega) r (fun G1 h1 r1 => ?_)
        have b3 : wF (wU (purK w ((found - hidW w f found) / 9) 0 f 9) (40 + 9 * f + 2) (min 99999999 (purK w ((found - hidW w f found) / 9) 0 f 9 (40 + 9 * f + 2) + (hidW w f found + (found - hidW w f found) % 9)))) f 3 ≤ 99999999 := by
          have := (hw.2.2.2.2.1 f hf).2.2.2.1
          unfold wF at this ⊢
          rw [wU_ne (by omega), purK_ne (by omega)]
          exact this
        have e5 := r1.2.2.2.2.2.2.1 f hf
        rw [nI_clamp (show f < 2 ^ 31 by omega), e5, nI_add, show (99999999 : Int32) = nI 99999999 from rfl, nI_min (by omega) (by omega), Nat.min_comm]
        refine ⟨xvin hf (by omega), xvin hf (by omega), fun G2 eG2 => h G2 (fun k a b => by rw [eG2, xst_ne b, h1 k a, hG k a]) ?_⟩
        rw [eG2, ← partW_5 w f _ _ hf]
        exact R5_s_hid r1 hf
      | succ n ih =>
        intro k G' hk hG r
        have okP := Wok_purK (nin := (found - hidW w f found) / 9) (ex := 0) (f := f) (k := k) hw
        refine ⟨fun c => absurd (show nI 9 ≤ nI k from c) (nI_ge (by omega) (by omega)), fun _ => ?_⟩
        rw [show nI k + (1 : Int32) = nI (k + 1) from nI_1 k]
        refine s5_toPurse okP (by omega) (by omega) r (fun G1 h1 r1 => ih (k + 1) G1 (by omega) (fun k a => by rw [h1 k a, hG k a]) ?_)
        rw [← purK_s]
        rw [show (found - hidW w f found) / 9 + (if k = f then 0 else 0) = (found - hidW w f found) / 9 by split <;> rfl]
        exact r1
    exact ⟨10, key 9 0 G (by omega) (fun _ _ => rfl) (by rw [purK_0]; exact hr)⟩
  unfold qX5_partOut
  rw [nI_clamp (show f < 2 ^ 31 by omega), e2, e3]
  refine ⟨xvin hf (by omega), eq_dec' (b := 3) (by omega) (by decide) (fun e => ⟨xvin hf (by omega), ?_⟩) (fun e => ?_)⟩
  · have eh : hidW w f found = found * wF w f 1 / 9 := by unfold hidW; rw [if_pos e]
    rw [pk_mul, show (9 : Int32) = nI 9 from rfl, pk_div (by omega) (by omega) (by omega), ← eh, pk_sub hl, pk_div (by omega) (by omega) (by omega)]
    exact main
  · have eh : hidW w f found = 0 := by unfold hidW; rw [if_neg e]
    rw [show (0 : Int32) = nI 0 from rfl, pk_sub (Nat.zero_le _), show (9 : Int32) = nI 9 from rfl, pk_div (by omega) (by omega) (by omega)]
    rw [eh] at main
    exact main
theorem s5_oneDay {w : wW} {t0 t1 : wT} {F : xF} {G : xA} {Q : Int32 → xF → xA → Prop} {v : Nat} {x : Int32} (hw : Wok w) (hd : w 0 < 2 ^ 30) (h0 : wTx t0) (h1 : wTx t1) (hr : R5 w t0 t1 F G) (hv : (x = -1 ∧ v = feW t0 (dayP t1 w) (whoW w) (dayF t1 w)) ∨ (¬ x = -1 ∧ v ≤ 9 ∧ x = nI v)) (h : ∀ F' G', R5 (dayX v (dayP t1 w)) t0 t1 F' G' → F' 4 = F 4 → (∀ a, a < 16 → G' 9 a = nI (dayD t1 w a)) → Q (nI (dayF t1 w)) F' G') : qX5_oneDay x F G Q := by
  obtain ⟨hf, _, _⟩ := whoW_ok hw
  obtain ⟨ok, b99, bd, hi⟩ := digW_ok (t1 := t1) hw hf
  have bF : dayF t1 w ≤ 99 := b99
  have bH : dayH t1 w ≤ dayF t1 w := hidW_le ok hf
  have okP := Wok_dayP (t1 := t1) hw
  unfold qX5_oneDay
  refine s5_who hw (by omega) hr (s5_morning hw h1 hr (fun G1 r1 s1 => ?_))
  have em : mornW w 3 = w 3 := mornK_ne (by omega) (by omega)
  refine s5_hours (Wok_mornK hw (Nat.le_refl 16)) hf h1 r1 s1 (fun F2 G2 r2 z2 d2 => ?_)
  rw [show mornK w 16 3 = w 3 from em] at r2 d2 ⊢
  refine s5_partOut ok hf (Nat.le_trans b99 (by decide)) r2 (fun G3 h3 r3 => ?_)
  have r3' : R5 (dayP t1 w) t0 t1 F2 G3 := r3
  have d3 : ∀ a, a < 16 → G3 9 a = nI (dayD t1 w a) := fun a ha => by rw [h3 9 (by omega) (by omega)]; exact d2 a ha
  have fin : ∀ G4 : xA, R5 (dayP t1 w) t0 t1 F2 G4 → (∀ a, a < 16 → G4 9 a = nI (dayD t1 w a)) → v ≤ 9 → (∀ F40 : xF, F40 = va_up F2 2 ((9 : Int32) - nI v) → (∀ F50 : xF, F50 = va_up F40 3 ((F40 3) + (1 : Int32)) → Q (nI (dayF t1 w)) F50 G4)) := by
    intro G4 r4 d4 hv9 F3 e3 F4 e4
    rw [show (9 : Int32) = nI 9 from rfl, pk_sub hv9] at e3
    have r5 : R5 (wU (dayP t1 w) 3 (9 - v)) t0 t1 F3 G4 := by rw [e3]; exact R5_s_hunger r4
    have z : F3 3 = nI (dayP t1 w 0) := by rw [r5.1.2.2.2, wU_ne (by omega)]
    rw [z, nI_1] at e4
    refine h F4 G4 ?_ ?_ d4
    · rw [e4]; exact R5_s_day r5
    · rw [e4, vu_ne (by omega), e3, vu_ne (by omega), z2]
  refine ⟨fun c => ?_, fun c => ?_⟩
  · rcases hv with ⟨q, _⟩ | ⟨_, hv9, q⟩
    · exact absurd q c
    · rw [q]
      exact fin G3 r3' d3 hv9
  · rcases hv with ⟨_, q⟩ | ⟨q, _, _⟩
    · refine s5_feedsOf okP r3' h0 hf (fun G4 h4 => ?_)
      show ∀ F40 : xF, F40 = va_up F2 2 ((9 : Int32) - nI (feW t0 (dayP t1 w) (whoW w) (dayF t1 w))) → _
      rw [← q]
      exact fin G4 (R5_fr r3' rfl (fun k hk => h4 k (by omega))) (fun a ha => by rw [h4 9 (by omega)]; exact d3 a ha) (by rw [q]; exact feW_le okP hf)
    · exact absurd c q
/-- days, one behind the other; what they find together -/
def goW (t0 t1 : wT) (w : wW) : Nat → wW
  | 0 => w
  | n + 1 => dayW t0 t1 (goW t0 t1 w n)
def goS (t0 t1 : wT) (w : wW) : Nat → Nat
  | 0 => 0
  | n + 1 => goS t0 t1 w n + dayF t1 (goW t0 t1 w n)
theorem dayW_0 {t0 t1 : wT} {w : wW} (hw : Wok w) : dayW t0 t1 w 0 = w 0 + 1 := by
  unfold dayW
  rw [dayX_0, dayP_hi hw (by omega)]
theorem goW_ok {t0 t1 : wT} {w : wW} (hw : Wok w) : ∀ n, Wok (goW t0 t1 w n) ∧ goW t0 t1 w n 0 = w 0 + n
  | 0 => ⟨hw, rfl⟩
  | n + 1 => by
    obtain ⟨a, b⟩ := goW_ok (t0 := t0) (t1 := t1) hw n
    exact ⟨Wok_dayW a, by show dayW t0 t1 (goW t0 t1 w n) 0 = _; rw [dayW_0 a, b]; omega⟩
theorem goW_1 {t0 t1 : wT} {w : wW} : ∀ n, goW t0 t1 (dayW t0 t1 w) n = goW t0 t1 w (n + 1)
  | 0 => rfl
  | n + 1 => by
    show dayW t0 t1 (goW t0 t1 (dayW t0 t1 w) n) = dayW t0 t1 (goW t0 t1 w (n + 1))
    rw [goW_1 n]
theorem s7_day {w : wW} {t0 t1 : wT} {F : xF} {G : xA} {Q : Int32 → xF → xA → Prop} (hw : Wok w) (hd : w 0 < 2 ^ 30) (h0 : wTx t0) (h1 : wTx t1) (hr : R7 w t0 t1 (G 0)) (h5 : F 5 = -1) (h : ∀ G', fr7 G G' → R7 (dayW t0 t1 w) t0 t1 (G' 0) → (∀ a, a < 16 → G' 7 a = nI (dayD t1 w a)) → Q (nI (dayF t1 w)) F G') : qX7_day F G Q := s7_day_g hw hd h0 h1 hr (Or.inl ⟨h5, rfl⟩) h
theorem s7_go {w : wW} {t0 t1 : wT} {F : xF} {G : xA} {Q : Int32 → xF → xA → Prop} {N : Nat} (hN : N ≤ 9999) (hw : Wok w) (hd : w 0 < 2 ^ 29) (h0 : wTx t0) (h1 : wTx t1) (hr : R7 w t0 t1 (G 0)) (h5 : F 5 = -1) (h : ∀ G', fr7 G G' → R7 (goW t0 t1 w N) t0 t1 (G' 0) → Q (nI (goS t0 t1 w N)) F G') : qX7_go (nI N) F G Q := by
  have key : ∀ (n k : Nat) (G' : xA), k + n = N → fr7 G G' → R7 (goW t0 t1 w k) t0 t1 (G' 0) → qX7_go_4 Q (n + 1) (nI N) (nI (goS t0 t1 w k)) (nI k) F G' := by
    intro n
    induction n with
    | zero =>
      intro k G' hk fr r
      obtain rfl : k = N := by omega
      exact ⟨fun _ => h G' fr r, fun c => absurd (nI_le (Nat.le_refl _) (by omega)) c⟩
    | succ n ih =>
      intro k G' hk fr r
      obtain ⟨a, b⟩ := goW_ok (t0 := t0) (t1 := t1) hw k
      refine ⟨fun c => absurd c (nI_ge (by omega) (by omega)), fun _ => s7_day a (by omega) h0 h1 r h5 (fun G2 f2 r2 _ => ?_)⟩
      rw [nI_add, show nI k + (1 : Int32) = nI (k + 1) from nI_1 k]
      exact ih (k + 1) G2 (by omega) (fr7_tr fr f2) r2
  exact ⟨N + 1, key N 0 G (by omega) fr7_rfl hr⟩
theorem s5_goOn {w : wW} {t0 t1 : wT} {F : xF} {G : xA} {Q : Int32 → xF → xA → Prop} {N : Nat} (hN : N ≤ 9999) (hw : Wok w) (hd : w 0 < 2 ^ 29) (h0 : wTx t0) (h1 : wTx t1) (hr : R5 w t0 t1 F G) (h : ∀ F' G', R5 (goW t0 t1 w N) t0 t1 F' G' → F' 4 = F 4 → Q (nI (goS t0 t1 w N)) F' G') : qX5_goOn (nI N) F G Q := by
  have key : ∀ (n k : Nat) (F' : xF) (G' : xA), k + n = N → F' 4 = F 4 → R5 (goW t0 t1 w k) t0 t1 F' G' → qX5_goOn_4 Q (n + 1) (nI N) (nI (goS t0 t1 w k)) (nI k) F' G' := by
    intro n
    induction n with
    | zero =>
      intro k F' G' hk e r
      obtain rfl : k = N := by omega
      exact ⟨fun _ => h F' G' r e, fun c => absurd (nI_le (Nat.le_refl _) (by omega)) c⟩
    | succ n ih =>
      intro k F' G' hk e r
      obtain ⟨a, b⟩ := goW_ok (t0 := t0) (t1 := t1) hw k
      refine ⟨fun c => absurd c (nI_ge (by omega) (by omega)), fun _ => s5_oneDay a (by omega) h0 h1 r (Or.inl ⟨rfl, rfl⟩) (fun F2 G2 r2 z2 _ => ?_)⟩
      rw [nI_add, show nI k + (1 : Int32) = nI (k + 1) from nI_1 k]
      exact ih (k + 1) F2 G2 (by omega) (by rw [z2, e]) r2
  exact ⟨N + 1, key N 0 F G (by omega) rfl hr⟩
