/-! an hour, the hours of a day: in numbers, and the reference's -/
theorem nI_nem1 {n : Nat} (h : n < 2 ^ 31) : ¬ nI n = (-1 : Int32) := fun q => by
  have e := nI_pos' h
  rw [q] at e
  exact absurd e (by decide)
theorem nxv_cases {p way : Nat} (hp : p < 16) (hw : way < 4) : nxv p way = -1 ∨ ∃ b, b < 16 ∧ nxv p way = nI b := by
  rcases (by omega : way = 0 ∨ way = 1 ∨ way = 2 ∨ way = 3) with rfl | rfl | rfl | rfl
  · by_cases c : 4 ≤ p
    · exact Or.inr ⟨p - 4, by omega, by simp [nxv, c]⟩
    · exact Or.inl (by simp [nxv, c])
  · by_cases c : p % 4 = 3
    · exact Or.inl (by simp [nxv, c])
    · exact Or.inr ⟨p + 1, by omega, by simp [nxv, c]⟩
  · by_cases c : 12 ≤ p
    · exact Or.inl (by simp [nxv, c])
    · exact Or.inr ⟨p + 4, by omega, by simp [nxv, c]⟩
  · by_cases c : p % 4 = 0
    · exact Or.inl (by simp [nxv, c])
    · exact Or.inr ⟨p - 1, by omega, by simp [nxv, c]⟩
def bst (sm : Nat → Int32) (b : Nat) (c : Int32) : Nat := if c = -1 then b else if sm b < sm c.toNatClampNeg then c.toNatClampNeg else if sm c.toNatClampNeg = sm b then (if b ≤ c.toNatClampNeg then b else c.toNatClampNeg) else b
def bsN (sm : Nat → Int32) (p : Nat) : Nat → Nat
  | 0 => p
  | n + 1 => bst sm (bsN sm p n) (nxv p n)
def bsW (t1 : wT) (w : wW) : Nat := bsN (smW t1 w) (w 2) 4
theorem bst_no {sm : Nat → Int32} {b : Nat} : bst sm b (-1) = b := if_pos rfl
theorem bst_nI {sm : Nat → Int32} {b c : Nat} (hc : c < 2 ^ 31) : bst sm b (nI c) = if sm b < sm c then c else if sm c = sm b then (if b ≤ c then b else c) else b := by
  unfold bst
  rw [if_neg (nI_nem1 hc), nI_clamp hc]
theorem bsN_lt {sm : Nat → Int32} {p : Nat} (hp : p < 16) : ∀ n, n ≤ 4 → bsN sm p n < 16
  | 0, _ => hp
  | n + 1, h => by
    have ih := bsN_lt (sm := sm) hp n (by omega)
    show bst sm (bsN sm p n) (nxv p n) < 16
    rcases nxv_cases hp (show n < 4 by omega) with e | ⟨b, hb, e⟩
    · rw [e, bst_no]; exact ih
    · rw [e, bst_nI (by omega)]
      split
      · exact hb
      · split
        · split <;> assumption
        · exact ih
theorem bsW_lt {t1 : wT} {w : wW} (h : w 2 < 16) : bsW t1 w < 16 := bsN_lt h 4 (by omega)
theorem s7_bySmell {w : wW} {t0 t1 : wT} {F : xF} {G : xA} {Q : Int32 → xF → xA → Prop} (hw2 : w 2 < 16) (hr : R7 w t0 t1 (G 0)) (h1 : wTx t1) (h : ∀ G', (∀ k, k ≠ 5 → k ≠ 6 → G' k = G k) → Q (nI (bsW t1 w)) F G') : qX7_bySmell F G Q := by
  have e2 : G 0 2 = nI (w 2) := hr.1 2 (by omega) (by omega)
  have key : ∀ (n k : Nat) (G' : xA), k + n = 4 → (∀ k, k ≠ 5 → k ≠ 6 → G' k = G k) → qX7_bySmell_15 Q (n + 1) (nI (bsN (smW t1 w) (w 2) k)) (smW t1 w (bsN (smW t1 w) (w 2) k)) (nI k) F G' := by
    intro n
    induction n with
    | zero =>
      intro k G' hk hG
      obtain rfl : k = 4 := by omega
      exact ⟨fun _ => h G' hG, fun c => absurd (nI_le (a := 4) (b := 4) (Nat.le_refl _) (by decide)) c⟩
    | succ n ih =>
      intro k G' hk hG
      have eG : G' 0 = G 0 := hG 0 (by omega) (by omega)
      refine ⟨fun c => absurd (show nI 4 ≤ nI k from c) (nI_ge (by omega) (by omega)), fun _ => ?_⟩
      rw [eG, e2]
      refine s7_next hw2 (by omega) ?_
      rw [show nI k + (1 : Int32) = nI (k + 1) from nI_1 k]
      have hs : bsN (smW t1 w) (w 2) (k + 1) = bst (smW t1 w) (bsN (smW t1 w) (w 2) k) (nxv (w 2) k) := rfl
      rcases nxv_cases hw2 (show k < 4 by omega) with e | ⟨b, hb, e⟩
      · rw [e]
        refine ⟨fun _ => ?_, fun c => absurd rfl c⟩
        have := ih (k + 1) G' (by omega) hG
        rw [hs, e, bst_no] at this
        exact this
      · rw [e]
        have hb0 := bsN_lt (sm := smW t1 w) hw2 k (by omega)
        refine ⟨fun c => absurd c (nI_nem1 (by omega)), fun _ => s7_smell (w := w) (t0 := t0) (t1 := t1) (by rw [eG]; exact hr) h1 hb (fun G2 h2 => ?_)⟩
        have := ih (k + 1) G2 (by omega) (fun j p q => by rw [h2 j p q, hG j p q])
        rw [hs, e, bst_nI (by omega)] at this
        refine ⟨fun c => ?_, fun c => ⟨fun d => ?_, fun d => le_dec (by omega) (by omega) (fun q => ?_) (fun q => ?_)⟩⟩
        · rw [if_pos c] at this; exact this
        · rw [if_neg c, if_neg d] at this; exact this
        · rw [if_neg c, if_pos d, if_pos q] at this; exact this
        · rw [if_neg c, if_pos d, if_neg (by omega)] at this; exact this
  unfold qX7_bySmell
  rw [e2]
  exact s7_smell (w := w) (t0 := t0) (t1 := t1) hr h1 hw2 (fun G' hG => ⟨5, key 4 0 G' (by omega) hG⟩)
/-! what a row of the reference keeps -/
def fr7 (G G' : xA) : Prop := (∀ k, k ≠ 0 → k ≠ 5 → k ≠ 6 → k ≠ 7 → G' k = G k) ∧ ∀ j, ((4 ≤ j ∧ j < 8) ∨ 121 ≤ j) → G' 0 j = G 0 j
theorem fr7_rfl {G : xA} : fr7 G G := ⟨fun _ _ _ _ _ => rfl, fun _ _ => rfl⟩
theorem fr7_tr {G G' G'' : xA} (h : fr7 G G') (h' : fr7 G' G'') : fr7 G G'' := ⟨fun k a b c d => by rw [h'.1 k a b c d, h.1 k a b c d], fun j q => by rw [h'.2 j q, h.2 j q]⟩
theorem fr7_0 {G : xA} {k : Nat} {x : Int32} (hk : k < 4 ∨ (8 ≤ k ∧ k < 121)) : fr7 G (xst G 0 k x) := ⟨fun j a _ _ _ => xst_ne a, fun j q => by rw [xst_at, upd_ne (by omega)]⟩
theorem fr7_7 {G : xA} {k : Nat} {x : Int32} : fr7 G (xst G 7 k x) := ⟨fun j _ _ _ d => xst_ne d, fun j q => by rw [xst_ne (by omega)]⟩
theorem fr7_56 {G G' : xA} (h : ∀ k, k ≠ 5 → k ≠ 6 → G' k = G k) : fr7 G G' := ⟨fun j _ b c _ => h j b c, fun j _ => by rw [h 0 (by omega) (by omega)]⟩
def mornK (w : wW) (k : Nat) : wW := fun j => if 24 ≤ j ∧ j < 24 + k then min 999 (w j + w 1) else w j
theorem mornK_0 (w : wW) : mornK w 0 = w := by
  funext j
  unfold mornK
  rw [if_neg (by omega)]
theorem mornK_s (w : wW) (k : Nat) : wU (mornK w k) (24 + k) (min 999 (mornK w k (24 + k) + mornK w k 1)) = mornK w (k + 1) := by
  funext j
  have e1 : mornK w k 1 = w 1 := by unfold mornK; rw [if_neg (by omega)]
  have e2 : mornK w k (24 + k) = w (24 + k) := by unfold mornK; rw [if_neg (by omega)]
  rw [e1, e2]
  unfold wU
  by_cases c : j = 24 + k
  · subst c
    rw [if_pos rfl]
    unfold mornK
    rw [if_pos (by omega)]
  · rw [if_neg c]
    unfold mornK
    by_cases d : 24 ≤ j ∧ j < 24 + k
    · rw [if_pos d, if_pos (by omega)]
    · rw [if_neg d, if_neg (by omega)]
def gotAt (w : wW) (p : Nat) : Nat := min (wD w p) (2 + w 3)
def digAt (w : wW) (p : Nat) : wW := wU (wU w 2 p) (24 + p) (wD w p - gotAt w p)
def toW (t1 : wT) (f h : Nat) (w : wW) : Nat := if h < 4 then (if wF w f (5 + h) = 4 then bsW t1 w else if nxv (w 2) (wF w f (5 + h)) = -1 then bsW t1 w else (nxv (w 2) (wF w f (5 + h))).toNatClampNeg) else bsW t1 w
def hrs (t1 : wT) (f : Nat) (w : wW) : Nat → wW × (Nat → Nat) × Nat
  | 0 => (w, fun _ => 0, 0)
  | h + 1 => (digAt (hrs t1 f w h).1 (toW t1 f h (hrs t1 f w h).1), fun a => if a = toW t1 f h (hrs t1 f w h).1 then (hrs t1 f w h).2.1 a + gotAt (hrs t1 f w h).1 (toW t1 f h (hrs t1 f w h).1) else (hrs t1 f w h).2.1 a, (hrs t1 f w h).2.2 + gotAt (hrs t1 f w h).1 (toW t1 f h (hrs t1 f w h).1))
theorem digAt_hi {w : wW} {p j : Nat} (hp : p < 16) (h : j = 0 ∨ j = 1 ∨ j = 3 ∨ (8 ≤ j ∧ j < 24) ∨ 40 ≤ j) : digAt w p j = w j := by
  unfold digAt
  rw [wU_ne (by omega), wU_ne (by omega)]
theorem digAt_2 {w : wW} {p : Nat} : digAt w p 2 = p := by
  unfold digAt
  rw [wU_ne (by omega), wU_at]
theorem digAt_p {w : wW} {p : Nat} : wD (digAt w p) p = wD w p - gotAt w p := by
  unfold digAt
  show wU _ _ _ (24 + p) = _
  rw [wU_at]
theorem digAt_d {w : wW} {p a : Nat} (h : a ≠ p) : wD (digAt w p) a = wD w a := by
  unfold digAt
  show wU _ _ _ (24 + a) = _
  rw [wU_ne (by omega), wU_ne (by omega)]; rfl
theorem Wok_digAt {w : wW} {p : Nat} (h : Wok w) (hp : p < 16) : Wok (digAt w p) := by
  obtain ⟨a1, a2, a3, a4, a5, a6, a7⟩ := h
  refine ⟨by rw [digAt_hi hp (by omega)]; exact a1, by rw [digAt_2]; exact hp, by rw [digAt_hi hp (by omega)]; exact a3, fun a ha => ⟨?_, ?_⟩, fun f hf => ?_, fun f hf i hi => ?_, fun d hd => ?_⟩
  · show digAt w p (8 + a) < 9
    rw [digAt_hi hp (by omega)]; exact (a4 a ha).1
  · by_cases c : a = p
    · subst c
      rw [digAt_p]
      have := (a4 a ha).2
      omega
    · rw [digAt_d c]; exact (a4 a ha).2
  · have e : ∀ i, wF (digAt w p) f i = wF w f i := fun i => digAt_hi hp (by omega)
    rw [e, e, e, e, e]; exact a5 f hf
  · have e : ∀ i, wF (digAt w p) f i = wF w f i := fun i => digAt_hi hp (by omega)
    rw [e]; exact a6 f hf i hi
  · obtain ⟨f, hf, q⟩ := a7 d hd
    exact ⟨f, hf, by rw [← q]; exact digAt_hi hp (by omega)⟩
theorem toW_lt {t1 : wT} {f h : Nat} {w : wW} (hw : Wok w) (hf : f < 9) : toW t1 f h w < 16 := by
  have hb := bsW_lt (t1 := t1) hw.2.1
  unfold toW
  split
  · rename_i c
    split
    · exact hb
    · rename_i d
      have h4 : wF w f (5 + h) ≤ 4 := hw.2.2.2.2.2.1 f hf h c
      rcases nxv_cases hw.2.1 (show wF w f (5 + h) < 4 by omega) with e | ⟨b, hb', e⟩
      · rw [if_pos e]; exact hb
      · rw [e, if_neg (nI_nem1 (by omega)), nI_clamp (by omega)]; exact hb'
  · exact hb
/-- what the hours keep -/
theorem hrs_ok {t1 : wT} {f : Nat} {w : wW} (hw : Wok w) (hf : f < 9) : ∀ h, Wok (hrs t1 f w h).1 ∧ (∀ j, (j = 0 ∨ j = 1 ∨ j = 3 ∨ (8 ≤ j ∧ j < 24) ∨ 40 ≤ j) → (hrs t1 f w h).1 j = w j) ∧ (hrs t1 f w h).2.2 ≤ 11 * h ∧ ∀ a, (hrs t1 f w h).2.1 a ≤ 11 * h
  | 0 => ⟨hw, fun _ _ => rfl, Nat.le_refl _, fun _ => Nat.le_refl _⟩
  | h + 1 => by
    obtain ⟨a1, a2, a3, a4⟩ := hrs_ok (t1 := t1) hw hf h
    have hp := toW_lt (t1 := t1) (h := h) a1 hf
    have h3 := a1.2.2.1
    have hg : gotAt (hrs t1 f w h).1 (toW t1 f h (hrs t1 f w h).1) ≤ 11 := by unfold gotAt; omega
    refine ⟨Wok_digAt a1 hp, fun j hj => ?_, ?_, fun a => ?_⟩
    · show digAt _ _ j = _
      rw [digAt_hi hp hj]; exact a2 j hj
    · show (hrs t1 f w h).2.2 + gotAt _ _ ≤ _
      omega
    · show (if a = toW t1 f h (hrs t1 f w h).1 then (hrs t1 f w h).2.1 a + gotAt (hrs t1 f w h).1 (toW t1 f h (hrs t1 f w h).1) else (hrs t1 f w h).2.1 a) ≤ _
      have := a4 a
      split <;> omega
/-- one goes somewhere and digs -/
theorem s7_dig1 {w : wW} {t0 t1 : wT} {F : xF} {G : xA} {Q : Int32 → xF → xA → Prop} {K : Int32 → Int32 → Int32 → xF → xA → Prop} {p f fd h : Nat} {d : Nat → Nat} (hw : Wok w) (hp : p < 16) (hr : R7 w t0 t1 (G 0)) (hd : ∀ a, a < 16 → G 7 a = nI (d a)) (k : ∀ G', fr7 G G' → R7 (digAt w p) t0 t1 (G' 0) → (∀ a, a < 16 → G' 7 a = nI (if a = p then d a + gotAt w p else d a)) → K (nI f) (nI (fd + gotAt w p)) (nI (h + 1)) F G') : qX7_digs_129 Q K (nI f) (nI fd) (nI h) (nI p) (2 : Int32) F G := by
  unfold qX7_digs_129
  rw [show (2 : Int32) = nI 2 from rfl, nI_clamp (show 2 < 2 ^ 31 by decide)]
  refine ⟨xvin (by omega) (by omega), fun G1 e1 => ?_⟩
  have r1 : R7 (wU w 2 p) t0 t1 (G1 0) := by rw [e1, xst_at]; exact R7_upd hr (by omega)
  have p1 : G1 0 2 = nI p := by rw [r1.1 2 (by omega) (by omega), wU_at]
  have h1 : G1 0 3 = nI (w 3) := by rw [r1.1 3 (by omega) (by omega), wU_ne (by omega)]
  have u1 : G1 0 (24 + p) = nI (wD w p) := by
    rw [r1.1 (24 + p) (by omega) (by omega), wU_ne (by omega)]; rfl
  have h3 := hw.2.2.1
  have hu := (hw.2.2.2.1 p hp).2
  have eL : (24 : Int32) + nI p = nI (24 + p) := nI_add 24 p
  rw [p1, h1, eL, nI_clamp (show 24 + p < 2 ^ 31 by omega), u1, nI_add 2 (w 3)]
  refine ⟨xvin (by omega) (by omega), s7_heldN (by omega) (by omega) ⟨xvin (by omega) (by omega), xvin (by omega) (by omega), fun G2 e2 => ?_⟩⟩
  have eg : min (wD w p) (2 + w 3) = gotAt w p := rfl
  have hg : gotAt w p ≤ wD w p := by unfold gotAt; omega
  rw [eg] at e2 ⊢
  rw [pk_sub hg] at e2
  have r2 : R7 (digAt w p) t0 t1 (G2 0) := by rw [e2, xst_at]; exact R7_upd r1 (by omega)
  have p2 : G2 0 2 = nI p := by rw [r2.1 2 (by omega) (by omega), digAt_2]
  have d2 : G2 7 = G 7 := by rw [e2, xst_ne (by omega), e1, xst_ne (by omega)]
  rw [p2, nI_clamp (show p < 2 ^ 31 by omega), d2, hd p hp, nI_add, nI_add, show nI h + (1 : Int32) = nI (h + 1) from nI_1 h]
  refine ⟨xvin hp (by omega), xvin hp (by omega), fun G3 e3 => k G3 ?_ ?_ ?_⟩
  · rw [e3]; refine fr7_tr ?_ fr7_7
    rw [e2]; refine fr7_tr ?_ (fr7_0 (by omega))
    rw [e1]; exact fr7_0 (by omega)
  · rw [e3, xst_ne (by omega)]; exact r2
  · intro a ha
    rw [e3, xst_at]
    by_cases c : a = p
    · subst c; rw [upd_at, if_pos rfl]
    · rw [upd_ne c, if_neg c, d2]; exact hd a ha
theorem s7_hours {t0 t1 : wT} {F : xF} {Q : Int32 → xF → xA → Prop} {w : wW} {f : Nat} (hw : Wok w) (hf : f < 9) (h1 : wTx t1) (G : xA) (h : ∀ G', fr7 G G' → R7 (hrs t1 f w (w 3)).1 t0 t1 (G' 0) → (∀ a, a < 16 → G' 7 a = nI ((hrs t1 f w (w 3)).2.1 a)) → Q (nI (hrs t1 f w (w 3)).2.2) F G') :
    ∀ (n k : Nat) (G' : xA), k + n = w 3 → fr7 G G' → R7 (hrs t1 f w k).1 t0 t1 (G' 0) → (∀ a, a < 16 → G' 7 a = nI ((hrs t1 f w k).2.1 a)) → qX7_digs_57 Q (n + 1) (nI f) (nI (hrs t1 f w k).2.2) (nI k) F G' := by
  intro n
  induction n with
  | zero =>
    intro k G' hk fr r d
    obtain rfl : k = w 3 := by omega
    have h3 := hw.2.2.1
    have e3 : G' 0 3 = nI (w 3) := by rw [r.1 3 (by omega) (by omega), (hrs_ok hw hf (w 3)).2.1 3 (by omega)]
    rw [qX7_digs_57, e3]
    exact ⟨fun _ => h G' fr r d, fun c => absurd (nI_le (Nat.le_refl _) (by omega)) c⟩
  | succ n ih =>
    intro k G' hk fr r d
    have h3 := hw.2.2.1
    obtain ⟨ok, a2, _, _⟩ := hrs_ok (t1 := t1) hw hf k
    have e3 : G' 0 3 = nI (w 3) := by rw [r.1 3 (by omega) (by omega), a2 3 (by omega)]
    have e2 : G' 0 2 = nI ((hrs t1 f w k).1 2) := r.1 2 (by omega) (by omega)
    have hb := bsW_lt (t1 := t1) ok.2.1
    have next : ∀ G2, fr7 G G2 → R7 (hrs t1 f w k).1 t0 t1 (G2 0) → (∀ a, a < 16 → G2 7 a = nI ((hrs t1 f w k).2.1 a)) → qX7_digs_129 Q (fun x1 x2 x3 F G => qX7_digs_57 Q (n + 1) x1 x2 x3 F G) (nI f) (nI (hrs t1 f w k).2.2) (nI k) (nI (toW t1 f k (hrs t1 f w k).1)) (2 : Int32) F G2 := fun G2 f2 r2 d2 => s7_dig1 ok (toW_lt ok hf) r2 d2 (fun G3 f3 r3 d3 => ih (k + 1) G3 (by omega) (fr7_tr f2 f3) r3 d3)
    have smell : toW t1 f k (hrs t1 f w k).1 = bsW t1 (hrs t1 f w k).1 → qX7_bySmell F G' (fun r121 F121 G121 => qX7_digs_129 Q (fun x1 x2 x3 F G => qX7_digs_57 Q (n + 1) x1 x2 x3 F G) (nI f) (nI (hrs t1 f w k).2.2) (nI k) r121 (2 : Int32) F121 G121) := fun e => s7_bySmell ok.2.1 r h1 (fun G2 h2 => by
      rw [← e]
      exact next G2 (fr7_tr fr (fr7_56 h2)) (by rw [h2 0 (by omega) (by omega)]; exact r) (fun a ha => by rw [h2 7 (by omega) (by omega)]; exact d a ha))
    rw [qX7_digs_57, e3]
    refine ⟨fun c => absurd c (nI_ge (by omega) (by omega)), fun _ => le_dec (a := 4) (b := k) (by decide) (by omega) (fun c => ?_) (fun c => ?_)⟩
    · have e : toW t1 f k (hrs t1 f w k).1 = bsW t1 (hrs t1 f w k).1 := by unfold toW; rw [if_neg (by omega)]
      exact ⟨fun q => absurd rfl q, fun _ => ⟨fun q => absurd rfl q, fun _ => smell e⟩⟩
    · have h4 : wF (hrs t1 f w k).1 f (5 + k) ≤ 4 := ok.2.2.2.2.2.1 f hf k c
      have eL : (5 : Int32) + nI k = nI (5 + k) := nI_add 5 k
      rw [eL]
      refine s7_itsW hf (by omega) r ?_
      unfold qX7_digs_84
      rw [e2]
      refine eq_dec' (b := 4) (by omega) (by decide) (fun q => ?_) (fun q => s7_next ok.2.1 (by omega) ?_)
      · have e : toW t1 f k (hrs t1 f w k).1 = bsW t1 (hrs t1 f w k).1 := by unfold toW; rw [if_pos c, if_pos q]
        exact ⟨fun q => absurd rfl q, fun _ => smell e⟩
      · refine ⟨fun z => ?_, fun z => ?_⟩
        · have e : nI (toW t1 f k (hrs t1 f w k).1) = nxv ((hrs t1 f w k).1 2) (wF (hrs t1 f w k).1 f (5 + k)) := by
            unfold toW
            rw [if_pos c, if_neg q, if_neg z]
            rcases nxv_cases ok.2.1 (show wF (hrs t1 f w k).1 f (5 + k) < 4 by omega) with e | ⟨b, hb', e⟩
            · exact absurd e z
            · rw [e, nI_clamp (by omega)]
          rw [← e]
          exact next G' fr r d
        · have e : toW t1 f k (hrs t1 f w k).1 = bsW t1 (hrs t1 f w k).1 := by unfold toW; rw [if_pos c, if_neg q, if_pos z]
          exact smell e
def mornW (w : wW) : wW := mornK w 16
theorem mornK_ne {w : wW} {k j : Nat} (h : j < 24 ∨ 40 ≤ j) (hk : k ≤ 16) : mornK w k j = w j := by unfold mornK; rw [if_neg (by omega)]
theorem Wok_mornK {w : wW} (h : Wok w) {k : Nat} (hk : k ≤ 16) : Wok (mornK w k) := by
  obtain ⟨a1, a2, a3, a4, a5, a6, a7⟩ := h
  have e : ∀ f i, wF (mornK w k) f i = wF w f i := fun f i => mornK_ne (by omega) hk
  refine ⟨by rw [mornK_ne (by omega) hk]; exact a1, by rw [mornK_ne (by omega) hk]; exact a2, by rw [mornK_ne (by omega) hk]; exact a3, fun a ha => ⟨?_, ?_⟩, fun f hf => ?_, fun f hf i hi => ?_, fun d hd => ?_⟩
  · show mornK w k (8 + a) < 9
    rw [mornK_ne (by omega) hk]; exact (a4 a ha).1
  · show mornK w k (24 + a) ≤ 999
    have h9 : w (24 + a) ≤ 999 := (a4 a ha).2
    unfold mornK
    split <;> omega
  · rw [e, e, e, e, e]; exact a5 f hf
  · rw [e]; exact a6 f hf i hi
  · obtain ⟨f, hf, q⟩ := a7 d hd
    exact ⟨f, hf, by rw [e]; exact q⟩
def digW (t1 : wT) (f : Nat) (w : wW) : wW × (Nat → Nat) × Nat := hrs t1 f (mornW w) (w 3)
theorem s7_digs {t0 t1 : wT} {F : xF} {G : xA} {Q : Int32 → xF → xA → Prop} {w : wW} {f : Nat} (hw : Wok w) (hf : f < 9) (h1 : wTx t1) (hr : R7 w t0 t1 (G 0)) (h : ∀ G', fr7 G G' → R7 (digW t1 f w).1 t0 t1 (G' 0) → (∀ a, a < 16 → G' 7 a = nI ((digW t1 f w).2.1 a)) → Q (nI (digW t1 f w).2.2) F G') : qX7_digs (nI f) F G Q := by
  have key : ∀ (n k : Nat) (G' : xA), k + n = 16 → fr7 G G' → R7 (mornK w k) t0 t1 (G' 0) → (∀ a, a < k → G' 7 a = 0) → qX7_digs_4 Q (n + 1) (nI f) (0 : Int32) (nI k) F G' := by
    intro n
    induction n with
    | zero =>
      intro k G' hk fr r d
      obtain rfl : k = 16 := by omega
      refine ⟨fun _ => ⟨w 3 + 1, ?_⟩, fun c => absurd (nI_le (a := 16) (b := 16) (Nat.le_refl _) (by decide)) c⟩
      have e3 : mornW w 3 = w 3 := mornK_ne (by omega) (by omega)
      have := s7_hours (t0 := t0) (F := F) (Q := Q) (Wok_mornK hw (Nat.le_refl 16)) hf h1 G (fun G' a b c => h G' a (by rw [show mornK w 16 3 = w 3 from e3] at b; exact b) (by rw [show mornK w 16 3 = w 3 from e3] at c; exact c) |> fun q => by rw [show mornK w 16 3 = w 3 from e3]; exact q) (w 3) 0 G' (by rw [show mornK w 16 3 = w 3 from e3]; omega) fr r (fun a ha => d a ha)
      exact this
    | succ n ih =>
      intro k G' hk fr r d
      have hwk := Wok_mornK hw (show k ≤ 16 by omega)
      have eu : G' 0 (24 + k) = nI (mornK w k (24 + k)) := r.1 _ (by omega) (by omega)
      have e1 : G' 0 1 = nI (mornK w k 1) := r.1 1 (by omega) (by omega)
      have b1 := hwk.1
      have b2 : mornK w k (24 + k) ≤ 999 := (hwk.2.2.2.1 k (by omega)).2
      refine ⟨fun c => absurd (show nI 16 ≤ nI k from c) (nI_ge (by omega) (by omega)), fun _ => ?_⟩
      rw [show (24 : Int32) + nI k = nI (24 + k) from nI_add 24 k, nI_clamp (show 24 + k < 2 ^ 31 by omega), nI_clamp (show k < 2 ^ 31 by omega), eu, e1, nI_add, show nI k + (1 : Int32) = nI (k + 1) from nI_1 k]
      refine ⟨xvin (by omega) (by omega), s7_heldN (N := 999) (by omega) (by decide) ⟨xvin (by omega) (by omega), fun G1 e1 => ⟨xvin (by omega) (by omega), fun G2 e2 => ?_⟩⟩⟩
      refine ih (k + 1) G2 (by omega) ?_ ?_ ?_
      · rw [e2]; refine fr7_tr ?_ fr7_7
        rw [e1]; exact fr7_tr fr (fr7_0 (by omega))
      · rw [e2, xst_ne (by omega), e1, xst_at, ← mornK_s, Nat.min_comm]
        exact R7_upd r (by omega)
      · intro a ha
        rw [e2, xst_at]
        by_cases c : a = k
        · subst c; rw [upd_at]
        · rw [upd_ne c, e1, xst_ne (by omega)]; exact d a (by omega)
  exact ⟨17, key 16 0 G (by omega) fr7_rfl (by rw [mornK_0]; exact hr) (fun a ha => by omega)⟩
