/-! a day, days: in numbers, and both sides' -/
def whoS (w : wW) : Nat → Nat → Nat
  | 0, k => k
  | n + 1, k => if wF w k 4 = w 0 % 9 then k else whoS w n (k + 1)
def whoW (w : wW) : Nat := whoS w 9 0
theorem whoS_ok {w : wW} : ∀ n k, (∃ f, k ≤ f ∧ f < k + n ∧ wF w f 4 = w 0 % 9) → (whoS w n k < k + n ∧ wF w (whoS w n k) 4 = w 0 % 9 ∧ ∀ f, k ≤ f → f < whoS w n k → ¬ wF w f 4 = w 0 % 9)
  | 0, k, ⟨f, a, b, _⟩ => by omega
  | n + 1, k, ⟨f, a, b, c⟩ => by
    unfold whoS
    by_cases d : wF w k 4 = w 0 % 9
    · rw [if_pos d]
      exact ⟨by omega, d, fun f x y => by omega⟩
    · rw [if_neg d]
      have hk : f ≠ k := fun q => d (by rw [← q]; exact c)
      obtain ⟨q1, q2, q3⟩ := whoS_ok (w := w) n (k + 1) ⟨f, by omega, by omega, c⟩
      refine ⟨by omega, q2, fun g x y => ?_⟩
      by_cases e : g = k
      · rw [e]; exact d
      · exact q3 g (by omega) y
theorem whoW_ok {w : wW} (hw : Wok w) : whoW w < 9 ∧ wF w (whoW w) 4 = w 0 % 9 ∧ ∀ f, f < whoW w → ¬ wF w f 4 = w 0 % 9 := by
  obtain ⟨f, hf, q⟩ := hw.2.2.2.2.2.2 (w 0 % 9) (Nat.mod_lt _ (by omega))
  obtain ⟨a, b, c⟩ := whoS_ok (w := w) 9 0 ⟨f, by omega, by omega, q⟩
  exact ⟨by unfold whoW; omega, b, fun f hf => c f (by omega) hf⟩
theorem rem9 {d : Nat} (hd : d < 2 ^ 31) : nI d - nI d / (9 : Int32) * (9 : Int32) = nI (d % 9) := pk_rem (d := 9) hd (by omega) (by omega)
theorem s7_who {w : wW} {t0 t1 : wT} {F : xF} {G : xA} {Q : Int32 → xF → xA → Prop} (hw : Wok w) (hd : w 0 < 2 ^ 31) (hr : R7 w t0 t1 (G 0)) (h : Q (nI (whoW w)) F G) : qX7_whoHas F G Q := by
  obtain ⟨a, b, c⟩ := whoW_ok hw
  have e0 : G 0 0 = nI (w 0) := hr.1 0 (by omega) (by omega)
  have h9 : w 0 % 9 < 9 := Nat.mod_lt _ (by omega)
  refine s7_whoHas a ?_ (fun f hf => ?_) h
  · rw [R7_f hr a (by omega), e0, rem9 hd, b]
  · rw [R7_f hr (by omega) (by omega), e0, rem9 hd]
    intro q
    have hk := (hw.2.2.2.2.1 f (by omega)).2.2.2.2
    exact c f hf ((nI_eq (by omega) (by omega)).mp q)
theorem s5_who {w : wW} {t0 t1 : wT} {F : xF} {G : xA} {Q : Int32 → xF → xA → Prop} (hw : Wok w) (hd : w 0 < 2 ^ 31) (hr : R5 w t0 t1 F G) (h : Q (nI (whoW w)) F G) : qX5_whoHasIt F G Q := by
  obtain ⟨a, b, c⟩ := whoW_ok hw
  have e0 : F 3 = nI (w 0) := hr.1.2.2.2
  have h9 : w 0 % 9 < 9 := Nat.mod_lt _ (by omega)
  have et : ∀ f, f < 9 → G 6 f = nI (wF w f 4) := hr.2.2.2.2.2.2.2.1
  refine s5_whoHasIt a ?_ (fun f hf => ?_) h
  · rw [et _ a, e0, rem9 hd, b]
  · rw [et f (by omega), e0, rem9 hd]
    intro q
    have hk := (hw.2.2.2.2.1 f (by omega)).2.2.2.2
    exact c f hf ((nI_eq (by omega) (by omega)).mp q)
/-- purses of the first k farmers grown -/
def purK (w : wW) (nin ex f k : Nat) : wW := fun j => if 40 ≤ j ∧ j < 40 + 9 * k ∧ (j - 40) % 9 = 2 then min 99999999 (w j + (nin + if (j - 40) / 9 = f then ex else 0)) else w j
def hidW (w : wW) (f found : Nat) : Nat := if wF w f 0 = 3 then found * wF w f 1 / 9 else 0
def partW (w : wW) (f hid rest : Nat) : wW := purK (wU w (40 + 9 * f + 3) (min 99999999 (wF w f 3 + hid))) (rest / 9) (rest % 9 + hid) f 9
theorem purK_s (w : wW) (nin ex f k : Nat) : wU (purK w nin ex f k) (40 + 9 * k + 2) (min 99999999 (purK w nin ex f k (40 + 9 * k + 2) + (nin + if k = f then ex else 0))) = purK w nin ex f (k + 1) := by
  funext j
  have e2 : purK w nin ex f k (40 + 9 * k + 2) = w (40 + 9 * k + 2) := by unfold purK; rw [if_neg (by omega)]
  rw [e2]
  by_cases c : j = 40 + 9 * k + 2
  · subst c
    rw [wU_at]
    unfold purK
    rw [if_pos (show 40 ≤ 40 + 9 * k + 2 ∧ 40 + 9 * k + 2 < 40 + 9 * (k + 1) ∧ (40 + 9 * k + 2 - 40) % 9 = 2 by omega), show (40 + 9 * k + 2 - 40) / 9 = k by omega]
  · rw [wU_ne c]
    unfold purK
    by_cases d : 40 ≤ j ∧ j < 40 + 9 * k ∧ (j - 40) % 9 = 2
    · rw [if_pos d, if_pos (show 40 ≤ j ∧ j < 40 + 9 * (k + 1) ∧ (j - 40) % 9 = 2 by omega)]
    · rw [if_neg d, if_neg (show ¬ (40 ≤ j ∧ j < 40 + 9 * (k + 1) ∧ (j - 40) % 9 = 2) by omega)]
theorem purK_0 (w : wW) (nin ex f : Nat) : purK w nin ex f 0 = w := by
  funext j
  unfold purK
  rw [if_neg (by omega)]
theorem purK_ne {w : wW} {nin ex f k j : Nat} (h : ¬ (40 ≤ j ∧ (j - 40) % 9 = 2)) : purK w nin ex f k j = w j := by unfold purK; rw [if_neg (by omega)]
theorem purK_le {w : wW} {nin ex f k j : Nat} (h : w j ≤ 99999999) : purK w nin ex f k j ≤ 99999999 := by
  unfold purK
  split <;> omega
theorem Wok_purK {w : wW} {nin ex f k : Nat} (h : Wok w) : Wok (purK w nin ex f k) := by
  obtain ⟨a1, a2, a3, a4, a5, a6, a7⟩ := h
  have e : ∀ b i, i < 9 → i ≠ 2 → wF (purK w nin ex f k) b i = wF w b i := fun b i hi h2 => purK_ne (by omega)
  refine ⟨by rw [purK_ne (by omega)]; exact a1, by rw [purK_ne (by omega)]; exact a2, by rw [purK_ne (by omega)]; exact a3, fun a ha => ⟨?_, ?_⟩, fun b hb => ⟨?_, ?_, ?_, ?_, ?_⟩, fun b hb i hi => ?_, fun d hd => ?_⟩
  · show purK w nin ex f k (8 + a) < 9
    rw [purK_ne (by omega)]; exact (a4 a ha).1
  · show purK w nin ex f k (24 + a) ≤ 999
    rw [purK_ne (by omega)]; exact (a4 a ha).2
  · rw [e b 0 (by omega) (by omega)]; exact (a5 b hb).1
  · rw [e b 1 (by omega) (by omega)]; exact (a5 b hb).2.1
  · exact purK_le (a5 b hb).2.2.1
  · rw [e b 3 (by omega) (by omega)]; exact (a5 b hb).2.2.2.1
  · rw [e b 4 (by omega) (by omega)]; exact (a5 b hb).2.2.2.2
  · rw [e b (5 + i) (by omega) (by omega)]; exact a6 b hb i hi
  · obtain ⟨f', hf', q⟩ := a7 d hd
    exact ⟨f', hf', by rw [e f' 4 (by omega) (by omega)]; exact q⟩
theorem hidW_le {w : wW} {f found : Nat} (hw : Wok w) (hf : f < 9) : hidW w f found ≤ found := by
  have hm := (hw.2.2.2.2.1 f hf).2.1
  unfold hidW
  split
  · have : found * wF w f 1 ≤ found * 9 := Nat.mul_le_mul_left _ hm
    omega
  · omega
def dayF (t1 : wT) (w : wW) : Nat := (digW t1 (whoW w) w).2.2
def dayD (t1 : wT) (w : wW) : Nat → Nat := (digW t1 (whoW w) w).2.1
def dayH (t1 : wT) (w : wW) : Nat := hidW (digW t1 (whoW w) w).1 (whoW w) (dayF t1 w)
def dayP (t1 : wT) (w : wW) : wW := partW (digW t1 (whoW w) w).1 (whoW w) (dayH t1 w) (dayF t1 w - dayH t1 w)
def dayX (v : Nat) (w : wW) : wW := wU (wU w 3 (9 - v)) 0 (w 0 + 1)
def dayW (t0 t1 : wT) (w : wW) : wW := dayX (feW t0 (dayP t1 w) (whoW w) (dayF t1 w)) (dayP t1 w)
theorem digW_ok {t1 : wT} {w : wW} {f : Nat} (hw : Wok w) (hf : f < 9) : Wok (digW t1 f w).1 ∧ (digW t1 f w).2.2 ≤ 99 ∧ (∀ a, (digW t1 f w).2.1 a ≤ 99) ∧ ∀ j, (j = 0 ∨ j = 1 ∨ j = 3 ∨ (8 ≤ j ∧ j < 24) ∨ 40 ≤ j) → (digW t1 f w).1 j = w j := by
  have h3 := hw.2.2.1
  obtain ⟨a, b, c, d⟩ := hrs_ok (t1 := t1) (Wok_mornK hw (Nat.le_refl 16)) hf (w 3)
  refine ⟨a, by show (hrs t1 f (mornK w 16) (w 3)).2.2 ≤ 99; omega, fun x => ?_, fun j hj => ?_⟩
  · have := d x
    show (hrs t1 f (mornK w 16) (w 3)).2.1 x ≤ 99
    omega
  · show (hrs t1 f (mornK w 16) (w 3)).1 j = w j
    rw [b j hj, mornK_ne (by omega) (by omega)]
theorem Wok_partW {w : wW} {f hid rest : Nat} (h : Wok w) (hf : f < 9) : Wok (partW w f hid rest) := Wok_purK (Wok_s_hid h hf (by omega))
theorem Wok_dayP {t1 : wT} {w : wW} (h : Wok w) : Wok (dayP t1 w) := Wok_partW (digW_ok h (whoW_ok h).1).1 (whoW_ok h).1
theorem partW_ne {w : wW} {f hid rest j : Nat} (h : ¬ (40 ≤ j ∧ (j - 40) % 9 = 2)) (h3 : ¬ (40 ≤ j ∧ (j - 40) % 9 = 3)) : partW w f hid rest j = w j := by
  unfold partW
  rw [purK_ne h, wU_ne (by omega)]
theorem dayP_hi {t1 : wT} {w : wW} (hw : Wok w) {j : Nat} (h : j = 0 ∨ j = 1 ∨ j = 3 ∨ (8 ≤ j ∧ j < 24) ∨ (40 ≤ j ∧ (j - 40) % 9 ≠ 2 ∧ (j - 40) % 9 ≠ 3)) : dayP t1 w j = w j := by
  unfold dayP
  rw [partW_ne (by omega) (by omega), (digW_ok hw (whoW_ok hw).1).2.2.2 j (by omega)]
theorem Wok_dayX {w : wW} {v : Nat} (h : Wok w) : Wok (dayX v w) := Wok_s_day (Wok_s_hunger h (by omega))
theorem Wok_dayW {t0 t1 : wT} {w : wW} (h : Wok w) : Wok (dayW t0 t1 w) := Wok_dayX (Wok_dayP h)
theorem dayX_0 {v : Nat} {w : wW} : dayX v w 0 = w 0 + 1 := wU_at _ _ _
theorem dayX_ne {v j : Nat} {w : wW} (h : j ≠ 0) (h3 : j ≠ 3) : dayX v w j = w j := by
  unfold dayX
  rw [wU_ne h, wU_ne h3]
theorem feW_le {t0 : wT} {w : wW} {f found : Nat} (hw : Wok w) (hf : f < 9) : feW t0 w f found ≤ 9 := by
  have hm := (hw.2.2.2.2.1 f hf).2.1
  have := cl9_le (tdW t0 w f found)
  unfold feW
  repeat' split
  all_goals omega
theorem s7_gets {w : wW} {t0 t1 : wT} {f n : Nat} (hw : Wok w) (hf : f < 9) (hn : n ≤ 9999) {F : xF} {G : xA} (hr : R7 w t0 t1 (G 0)) {Q : xF → xA → Prop} (h : ∀ G', fr7 G G' → G' 7 = G 7 → R7 (wU w (40 + 9 * f + 2) (min 99999999 (w (40 + 9 * f + 2) + n))) t0 t1 (G' 0) → Q F G') : qX7_gets (nI f) (nI n) F G Q := by
  have hm : wF w f 2 ≤ 99999999 := (hw.2.2.2.2.1 f hf).2.2.1
  unfold qX7_gets
  refine s7_itsW (i := 2) hf (by omega) hr ?_
  rw [nI_add]
  refine s7_heldN (N := 99999999) (by omega) (by decide) (s7_lays1 (what := 2) hf (by omega) (h _ (fr7_0 (by omega)) (xst_ne (by omega)) ?_))
  rw [xst_at, show wF w f 2 = w (40 + 9 * f + 2) from rfl, Nat.min_comm]
  exact R7_upd hr (by omega)
theorem s7_hides {w : wW} {t0 t1 : wT} {f found : Nat} (hw : Wok w) (hf : f < 9) (hd : found ≤ 9999) {F : xF} {G : xA} (hr : R7 w t0 t1 (G 0)) {Q : Int32 → xF → xA → Prop} (h : Q (nI (hidW w f found)) F G) : qX7_hides (nI f) (nI found) F G Q := by
  obtain ⟨k6, m9, _⟩ := hw.2.2.2.2.1 f hf
  unfold qX7_hides
  unfold hidW at h
  have hb : found * wF w f 1 ≤ 9999 * 9 := Nat.mul_le_mul hd m9
  refine s7_itsW (i := 0) hf (by omega) hr (eq_dec' (b := 3) (by omega) (by decide) (fun e => ?_) (fun e => ?_))
  · rw [if_pos e] at h
    refine s7_itsW (i := 1) hf (by omega) hr ?_
    rw [pk_mul, show (9 : Int32) = nI 9 from rfl, pk_div (by omega) (by omega) (by omega)]
    exact h
  · rw [if_neg e] at h
    exact h
/-- the end of a day: fed is what the farmer feeds -/
theorem s7_day_g {w : wW} {t0 t1 : wT} {F : xF} {G : xA} {Q : Int32 → xF → xA → Prop} {v : Nat} (hw : Wok w) (hd : w 0 < 2 ^ 30) (h0 : wTx t0) (h1 : wTx t1) (hr : R7 w t0 t1 (G 0)) (hv : (F 5 = -1 ∧ v = feW t0 (dayP t1 w) (whoW w) (dayF t1 w)) ∨ (¬ F 5 = -1 ∧ v ≤ 9 ∧ F 5 = nI v)) (h : ∀ G', fr7 G G' → R7 (dayX v (dayP t1 w)) t0 t1 (G' 0) → (∀ a, a < 16 → G' 7 a = nI (dayD t1 w a)) → Q (nI (dayF t1 w)) F G') : qX7_day F G Q := by
  obtain ⟨hf, _, _⟩ := whoW_ok hw
  obtain ⟨ok, b99, bd, hi⟩ := digW_ok (t1 := t1) hw hf
  have bF : dayF t1 w ≤ 99 := b99
  have bH : dayH t1 w ≤ dayF t1 w := hidW_le ok hf
  have okP := Wok_dayP (t1 := t1) hw
  unfold qX7_day
  refine s7_who hw (by omega) hr (s7_digs hw hf h1 hr (fun G1 f1 r1 d1 => s7_hides ok hf (by omega) r1 (s7_itsW (i := 3) hf (by omega) r1 ?_)))
  have b3 : wF (digW t1 (whoW w) w).1 (whoW w) 3 ≤ 99999999 := (ok.2.2.2.2.1 _ hf).2.2.2.1
  show qX7_held (nI (wF (digW t1 (whoW w) w).1 (whoW w) 3) + nI (dayH t1 w)) _ _ _
  rw [nI_add]
  refine s7_heldN (N := 99999999) (by omega) (by decide) (s7_lays1 (what := 3) hf (by omega) ?_)
  show ∃ j46, qX7_day_46 Q j46 (nI (whoW w)) (nI (dayF t1 w)) (nI (dayH t1 w)) (nI (dayF t1 w) - nI (dayH t1 w)) 0 F _
  rw [pk_sub bH]
  have hh := Wok_s_hid (v := min 99999999 (wF (digW t1 (whoW w) w).1 (whoW w) 3 + dayH t1 w)) ok hf (by omega)
  have key : ∀ (n k : Nat) (G' : xA), k + n = 9 → fr7 G G' → (∀ a, a < 16 → G' 7 a = nI (dayD t1 w a)) → R7 (purK (wU (digW t1 (whoW w) w).1 (40 + 9 * whoW w + 3) (min 99999999 (wF (digW t1 (whoW w) w).1 (whoW w) 3 + dayH t1 w))) ((dayF t1 w - dayH t1 w) / 9) ((dayF t1 w - dayH t1 w) % 9 + dayH t1 w) (whoW w) k) t0 t1 (G' 0) → qX7_day_46 Q (n + 1) (nI (whoW w)) (nI (dayF t1 w)) (nI (dayH t1 w)) (nI (dayF t1 w - dayH t1 w)) (nI k) F G' := by
    intro n
    induction n with
    | zero =>
      intro k G' hk fr d r
      obtain rfl : k = 9 := by omega
      have r' : R7 (dayP t1 w) t0 t1 (G' 0) := r
      have fin : ∀ G2 : xA, (∀ k, k ≠ 5 → k ≠ 6 → G2 k = G' k) → v ≤ 9 → (∀ G117 : xA, G117 = xst G2 0 3 ((9 : Int32) - nI v) → (∀ G127 : xA, G127 = xst G117 0 0 ((G117 0 0) + (1 : Int32)) → Q (nI (dayF t1 w)) F G127)) := by
        intro G2 h2 hv G3 e3 G4 e4
        rw [show (9 : Int32) = nI 9 from rfl, pk_sub hv] at e3
        have r3 : R7 (wU (dayP t1 w) 3 (9 - v)) t0 t1 (G3 0) := by rw [e3, xst_at, h2 0 (by omega) (by omega)]; exact R7_upd r' (by omega)
        have z : G3 0 0 = nI (dayP t1 w 0) := by rw [r3.1 0 (by omega) (by omega), wU_ne (by omega)]
        rw [z, nI_1] at e4
        refine h G4 ?_ ?_ (fun a ha => ?_)
        · rw [e4]; refine fr7_tr ?_ (fr7_0 (by omega))
          rw [e3]; refine fr7_tr ?_ (fr7_0 (by omega))
          exact fr7_tr fr (fr7_56 h2)
        · rw [e4, xst_at]; exact R7_upd r3 (by omega)
        · rw [e4, xst_ne (by omega), e3, xst_ne (by omega), h2 7 (by omega) (by omega)]; exact d a ha
      refine ⟨fun _ => ⟨fun c => ?_, fun c => ?_⟩, fun c => absurd (nI_le (a := 9) (b := 9) (Nat.le_refl _) (by decide)) c⟩
      · rcases hv with ⟨q, _⟩ | ⟨_, hv9, q⟩
        · exact absurd q c
        · rw [q]
          exact fin G' (fun _ _ _ => rfl) hv9
      · rcases hv with ⟨_, q⟩ | ⟨q, _, _⟩
        · refine s7_feeds okP r' h0 hf (fun G2 h2 => ?_)
          rw [← q]
          exact fin G2 h2 (by rw [q]; exact feW_le okP hf)
        · exact absurd c q
    | succ n ih =>
      intro k G' hk fr d r
      have hwk := Wok_purK (nin := (dayF t1 w - dayH t1 w) / 9) (ex := (dayF t1 w - dayH t1 w) % 9 + dayH t1 w) (f := whoW w) (k := k) hh
      refine ⟨fun c => absurd (show nI 9 ≤ nI k from c) (nI_ge (by omega) (by omega)), fun _ => ?_⟩
      rw [rem9 (by omega), show (9 : Int32) = nI 9 from rfl, pk_div (by omega) (by omega) (by omega), nI_add, nI_add, show (0 : Int32) = nI 0 from rfl, nI_add, show nI k + (1 : Int32) = nI (k + 1) from nI_1 k]
      refine eq_dec' (by omega) (by omega) (fun e => ?_) (fun e => ?_)
      · refine s7_gets hwk (by omega) (by omega) r (fun G2 f2 g2 r2 => ih (k + 1) G2 (by omega) (fr7_tr fr f2) (fun a ha => by rw [g2]; exact d a ha) ?_)
        rw [← purK_s, if_pos e]
        exact r2
      · refine s7_gets hwk (by omega) (by omega) r (fun G2 f2 g2 r2 => ih (k + 1) G2 (by omega) (fr7_tr fr f2) (fun a ha => by rw [g2]; exact d a ha) ?_)
        rw [← purK_s, if_neg e]
        exact r2
  refine ⟨10, key 9 0 _ (by omega) (fr7_tr f1 (fr7_0 (by omega))) (fun a ha => by rw [xst_ne (by omega)]; exact d1 a ha) ?_⟩
  rw [purK_0, xst_at, Nat.min_comm]
  exact R7_upd r1 (by omega)
