/-! the world in numbers; a word of it; what both sides hold of it -/
theorem il0 : (0 : Int32) = nI 0 := rfl
theorem il1 : (1 : Int32) = nI 1 := rfl
theorem il2 : (2 : Int32) = nI 2 := rfl
theorem il3 : (3 : Int32) = nI 3 := rfl
theorem il4 : (4 : Int32) = nI 4 := rfl
theorem il5 : (5 : Int32) = nI 5 := rfl
theorem il6 : (6 : Int32) = nI 6 := rfl
theorem il7 : (7 : Int32) = nI 7 := rfl
theorem il8 : (8 : Int32) = nI 8 := rfl
theorem il9 : (9 : Int32) = nI 9 := rfl
theorem il10 : (10 : Int32) = nI 10 := rfl
theorem il11 : (11 : Int32) = nI 11 := rfl
theorem il12 : (12 : Int32) = nI 12 := rfl
theorem il15 : (15 : Int32) = nI 15 := rfl
theorem il16 : (16 : Int32) = nI 16 := rfl
theorem il18 : (18 : Int32) = nI 18 := rfl
theorem il24 : (24 : Int32) = nI 24 := rfl
theorem il40 : (40 : Int32) = nI 40 := rfl
theorem il45 : (45 : Int32) = nI 45 := rfl
theorem il60 : (60 : Int32) = nI 60 := rfl
theorem il121 : (121 : Int32) = nI 121 := rfl
theorem il125 : (125 : Int32) = nI 125 := rfl
theorem il455 : (455 : Int32) = nI 455 := rfl
theorem il999 : (999 : Int32) = nI 999 := rfl
theorem ilM : (99999999 : Int32) = nI 99999999 := rfl
theorem xvinT {k N : Nat} (h : k < N) (hN : N < 2 ^ 31) : vp_in (nI k) N = True := eq_true (xvin h hN)
theorem vu_at {α : Type} (f : Nat → α) (k : Nat) (x : α) : va_up f k x k = x := by simp [va_up]
theorem vu_ne {α : Type} {f : Nat → α} {k j : Nat} {x : α} (h : j ≠ k) : va_up f k x j = f j := by simp [va_up, h]
abbrev wW : Type := Nat → Nat
abbrev wT : Type := List (Nat × Nat)
def wU (w : wW) (k v : Nat) : wW := fun j => if j = k then v else w j
theorem wU_at (w : wW) (k v : Nat) : wU w k v k = v := by simp [wU]
theorem wU_ne {w : wW} {k v j : Nat} (h : j ≠ k) : wU w k v j = w j := by simp [wU, h]
def wTx (t : wT) : Prop := t = [] ∨ tkOk t 0 = true
def wF (w : wW) (f i : Nat) : Nat := w (40 + 9 * f + i)
def wO (w : wW) (a : Nat) : Nat := w (8 + a)
def wD (w : wW) (a : Nat) : Nat := w (24 + a)
def R7 (w : wW) (t0 t1 : wT) (s : Nat → Int32) : Prop := (∀ k, k < 121 → (k < 4 ∨ 8 ≤ k) → s k = nI (w k)) ∧ tkS 0 s 121 t0 ∧ tkS 1 s 246 t1
def Wok (w : wW) : Prop := w 1 ≤ 9 ∧ w 2 < 16 ∧ w 3 ≤ 9 ∧ (∀ a, a < 16 → wO w a < 9 ∧ wD w a ≤ 999) ∧ (∀ f, f < 9 → wF w f 0 ≤ 6 ∧ wF w f 1 ≤ 9 ∧ wF w f 2 ≤ 99999999 ∧ wF w f 3 ≤ 99999999 ∧ wF w f 4 < 9) ∧ (∀ f, f < 9 → ∀ i, i < 4 → wF w f (5 + i) ≤ 4) ∧ (∀ d, d < 9 → ∃ f, f < 9 ∧ wF w f 4 = d)
theorem tkS_congr {u b : Nat} {s s' : Nat → Int32} {t : wT} (hb : 121 ≤ b) (h : ∀ k, 121 ≤ k → k < 371 → s' k = s k) (hb2 : b ≤ 246) (ht : tkS u s b t) : tkS u s' b t := by
  refine ⟨by rw [h b hb (by omega)]; exact ht.1, ht.2.1, ht.2.2.1, fun i hi => ?_⟩
  have h60 := ht.2.1
  rw [h _ (by omega) (by omega), h _ (by omega) (by omega)]
  exact ht.2.2.2 i hi
theorem R7_upd {w : wW} {t0 t1 : wT} {s : Nat → Int32} {k v : Nat} (h : R7 w t0 t1 s) (hk : k < 121) : R7 (wU w k v) t0 t1 (upd s k (nI v)) := by
  refine ⟨fun j hj h8 => ?_, tkS_congr (by omega) (fun j h1 _ => upd_ne (by omega)) (by omega) h.2.1, tkS_congr (by omega) (fun j h1 _ => upd_ne (by omega)) (by omega) h.2.2⟩
  by_cases e : j = k
  · subst e; rw [upd_at, wU_at]
  · rw [upd_ne e, wU_ne e]; exact h.1 j hj h8
theorem R7_g {w : wW} {t0 t1 : wT} {s : Nat → Int32} (h : R7 w t0 t1 s) {k : Nat} (hk : k < 121) (h8 : k < 4 ∨ 8 ≤ k) : s k = nI (w k) := h.1 k hk h8
theorem R7_d {w : wW} {t0 t1 : wT} {s : Nat → Int32} (h : R7 w t0 t1 s) {a : Nat} (ha : a < 16) : s (24 + a) = nI (wD w a) := h.1 _ (by omega) (by omega)
theorem R7_f {w : wW} {t0 t1 : wT} {s : Nat → Int32} (h : R7 w t0 t1 s) {f i : Nat} (hf : f < 9) (hi : i < 9) : s (40 + 9 * f + i) = nI (wF w f i) := h.1 _ (by omega) (by omega)
theorem s7_itsW {w : wW} {t0 t1 : wT} {f i : Nat} (hf : f < 9) (hi : i < 9) {F : xF} {G : xA} (hr : R7 w t0 t1 (G 0)) {Q : Int32 → xF → xA → Prop} (h : Q (nI (wF w f i)) F G) : qX7_its (nI f) (nI i) F G Q := s7_its hf hi (by rw [R7_f hr hf hi]; exact h)
/-! what an oak smells of, and what one feeds -/
def smW (t1 : wT) (w : wW) (a : Nat) : Int32 := if t1 = [] then nI (wD w a) else (tkEv (tkN 1 (nI (wD w a)) (nI a) (nI (w 3))) t1 []).headD 0
def cl9 (x : Int32) : Nat := if 0 ≤ x then (if x ≤ 9 then x.toNatClampNeg else 9) else 0
theorem cl9_le (x : Int32) : cl9 x ≤ 9 := by
  unfold cl9
  by_cases c : 0 ≤ x
  · rw [if_pos c]
    by_cases d : x ≤ 9
    · rw [if_pos d]
      obtain ⟨j, hj, e⟩ := nI_of2 (x := x) (M := 9) (n := 9) (by decide) (by rw [Int32.not_lt]; exact c) d
      rw [e, nI_clamp (by omega)]; exact hj
    · rw [if_neg d]; exact Nat.le_refl _
  · rw [if_neg c]; omega
theorem cl9_nI (x : Int32) : nI (cl9 x) = if 0 ≤ x then (if x ≤ 9 then x else 9) else 0 := by
  unfold cl9
  by_cases c : 0 ≤ x
  · rw [if_pos c, if_pos c]
    by_cases d : x ≤ 9
    · rw [if_pos d, if_pos d]
      obtain ⟨j, hj, e⟩ := nI_of2 (x := x) (M := 9) (n := 9) (by decide) (by rw [Int32.not_lt]; exact c) d
      rw [e, nI_clamp (by omega)]
    · rw [if_neg d, if_neg d]; rfl
  · rw [if_neg c, if_neg c]; rfl
theorem cl9_of {k : Nat} (h : k < 2 ^ 31) : cl9 (nI k) = min 9 k := by
  unfold cl9
  rw [if_pos (nI_pos' h), nI_clamp h]
  by_cases d : k ≤ 9
  · rw [if_pos (show nI k ≤ 9 from nI_le (b := 9) d (by decide))]; omega
  · rw [if_neg (show ¬ nI k ≤ 9 from nI_ge (b := k) (a := 9) (by omega) (by omega))]; omega
theorem s7_held9 {x : Int32} {Q : Int32 → Prop} (h : Q (nI (cl9 x))) : qX7_held x 0 9 Q := s7_held (by rw [cl9_nI] at h; exact h)
theorem s5_held9 {x : Int32} {Q : Int32 → Prop} (h : Q (nI (cl9 x))) : qX5_held x Q := by
  unfold qX5_held
  rw [cl9_nI] at h
  by_cases c : x < 9
  · rw [if_pos c]
    by_cases d : 0 < x
    · rw [if_pos d]
      rw [if_pos (Int32.le_of_lt d), if_pos (Int32.le_of_lt c)] at h
      exact h
    · rw [if_neg d]
      by_cases e : 0 ≤ x
      · rw [if_pos e, if_pos (Int32.le_of_lt c)] at h
        have : x = 0 := Int32.le_antisymm (Int32.not_lt.mp d) e
        rw [this] at h; exact h
      · rw [if_neg e] at h; exact h
  · rw [if_neg c, if_pos (by decide)]
    have c' := Int32.not_lt.mp c
    rw [if_pos (Int32.le_trans (by decide) c')] at h
    by_cases e : x ≤ 9
    · rw [if_pos e] at h
      have : x = 9 := Int32.le_antisymm e c'
      rw [this] at h; exact h
    · rw [if_neg e] at h; exact h
theorem s7_heldN {k N : Nat} (hk : k < 2 ^ 31) (hN : N < 2 ^ 31) {Q : Int32 → Prop} (h : Q (nI (min k N))) : qX7_held (nI k) 0 (nI N) Q := s7_held (by
  rw [if_pos (nI_pos' hk)]
  by_cases c : k ≤ N
  · rw [if_pos (nI_le c hN)]; rw [Nat.min_eq_left c] at h; exact h
  · rw [if_neg (nI_ge (by omega) hk)]; rw [Nat.min_eq_right (by omega)] at h; exact h)
theorem nI_min {k N : Nat} (hk : k < 2 ^ 31) (hN : N < 2 ^ 31) : (if nI k < nI N then nI k else nI N) = nI (min k N) := by
  by_cases c : k < N
  · rw [if_pos (nI_lt c hN), Nat.min_eq_left (by omega)]
  · rw [if_neg (nI_nlt (by omega) hk), Nat.min_eq_right (by omega)]
def tdW (t0 : wT) (w : wW) (f found : Nat) : Int32 := if t0 = [] then 4 else (tkEv (tkN 0 (nI found) (nI (w 3)) (nI (wF w f 1))) t0 []).headD 0
def feW (t0 : wT) (w : wW) (f found : Nat) : Nat := if wF w f 0 = 1 then 4 - wF w f 1 / 2 else if wF w f 0 = 2 then 4 + wF w f 1 / 2 else if wF w f 0 = 4 then 2 - wF w f 1 / 2 else if wF w f 0 = 5 then min 9 (2 * (4 + wF w f 1 / 2)) else if wF w f 0 = 6 then cl9 (tdW t0 w f found) else 4
theorem s7_hasText {u : Nat} (hu : u < 2) {t : wT} {F : xF} {G : xA} {Q : Int32 → xF → xA → Prop} (ht : tkS u (G 0) (121 + 125 * u) t) (h : Q (if t = [] then 0 else 1) F G) : qX7_hasText (nI u) F G Q := by
  unfold qX7_hasText
  have h60 := ht.2.1
  simp (disch := omega) only [il0, il1, il2, il3, il4, il5, il6, il7, il8, il9, il10, il11, il12, il15, il16, il18, il24, il40, il45, il60, il121, il125, il455, il999, ilM, nI_add, pk_mul, pk_div, pk_sub, nI_clamp]
  rw [ht.1]
  refine ⟨xvin (by omega) (by omega), fun c => ?_, fun c => ?_⟩
  · have e : t.length = 0 := by have := (nI_leI (by omega) (by omega)).mp c; omega
    rw [if_pos (List.eq_nil_of_length_eq_zero e)] at h; exact h
  · have e : ¬ t = [] := fun q => by rw [q] at c; exact c (nI_le (Nat.le_refl _) (by omega))
    rw [if_neg e] at h; exact h
theorem s7_smell {w : wW} {t0 t1 : wT} {F : xF} {G : xA} {Q : Int32 → xF → xA → Prop} {a : Nat} (hr : R7 w t0 t1 (G 0)) (h1 : wTx t1) (ha : a < 16) (h : ∀ G', (∀ k, k ≠ 5 → k ≠ 6 → G' k = G k) → Q (smW t1 w a) F G') : qX7_smell (nI a) F G Q := by
  unfold qX7_smell
  refine s7_hasText (u := 1) (by omega) (t := t1) hr.2.2 ?_
  have eu : G 0 (24 + a) = nI (wD w a) := R7_d hr ha
  have eh : G 0 3 = nI (w 3) := hr.1 3 (by omega) (by omega)
  by_cases c : t1 = []
  · rw [if_pos c]
    refine ⟨fun q => absurd rfl q, fun _ => ?_⟩
    simp (disch := omega) only [il0, il1, il2, il3, il4, il5, il6, il7, il8, il9, il10, il11, il12, il15, il16, il18, il24, il40, il45, il60, il121, il125, il455, il999, ilM, nI_add, pk_mul, pk_div, pk_sub, nI_clamp]
    rw [eu]
    refine ⟨xvin (by omega) (by omega), ?_⟩
    have := h G (fun _ _ _ => rfl)
    unfold smW at this; rw [if_pos c] at this; exact this
  · rw [if_neg c]
    refine ⟨fun _ => ?_, fun q => absurd q (by decide)⟩
    simp (disch := omega) only [il0, il1, il2, il3, il4, il5, il6, il7, il8, il9, il10, il11, il12, il15, il16, il18, il24, il40, il45, il60, il121, il125, il455, il999, ilM, nI_add, pk_mul, pk_div, pk_sub, nI_clamp]
    rw [eu]
    refine ⟨xvin (by omega) (by omega), fun G1 e1 G2 e2 G3 e3 => ?_⟩
    have z1 : G1 0 = G 0 := by rw [e1, xst_ne (by omega)]
    have z2 : G2 0 = G 0 := by rw [e2, xst_ne (by omega), z1]
    have z3 : G3 0 = G 0 := by rw [e3, xst_ne (by omega), z2]
    refine s7_worked (u := 1) (t := t1) (by omega) (by rw [z3]; exact hr.2.2) (h1.resolve_left c) (fun p => ?_)
    have hv : ∀ q ∈ t1, tkV 1 q := hr.2.2.2.2.1
    have en : tkEv (G3 5) t1 [] = tkEv (tkN 1 (nI (wD w a)) (nI a) (nI (w 3))) t1 [] := by
      refine tkEv_congr (u := 1) (fun v hvn => ?_) t1 [] hv
      have hvn' : v = 117 ∨ v = 97 ∨ v = 104 := by simpa [tkName] using hvn
      rw [e3, e2, e1]
      simp only [xst_at]
      rcases hvn' with rfl | rfl | rfl
      · rw [upd_ne (by omega), upd_ne (by omega), upd_at]; rfl
      · rw [upd_ne (by omega), upd_at]; rfl
      · rw [upd_at, xst_ne (by omega), xst_ne (by omega), eh]; rfl
    rw [en]
    have := h (va_up G3 6 p) (fun k h5 h6 => by rw [vu_ne h6, e3, xst_ne h5, e2, xst_ne h5, e1, xst_ne h5])
    unfold smW at this; rw [if_neg c] at this; exact this
theorem s7_feedsTold {w : wW} {t0 t1 : wT} {F : xF} {G : xA} {Q : Int32 → xF → xA → Prop} {f found : Nat} (hr : R7 w t0 t1 (G 0)) (h1 : wTx t0) (hf : f < 9) (h : ∀ G', (∀ k, k ≠ 5 → k ≠ 6 → G' k = G k) → Q (tdW t0 w f found) F G') : qX7_feedsTold (nI f) (nI found) F G Q := by
  unfold qX7_feedsTold
  refine s7_hasText (u := 0) (by omega) (t := t0) hr.2.1 ?_
  have eh : G 0 3 = nI (w 3) := hr.1 3 (by omega) (by omega)
  by_cases c : t0 = []
  · rw [if_pos c]
    refine ⟨fun q => absurd rfl q, fun _ => ?_⟩
    have := h G (fun _ _ _ => rfl)
    unfold tdW at this; rw [if_pos c] at this; exact this
  · rw [if_neg c]
    refine ⟨fun _ G1 e1 G2 e2 => ?_, fun q => absurd q (by decide)⟩
    have z1 : G1 0 = G 0 := by rw [e1, xst_ne (by omega)]
    have z2 : G2 0 = G 0 := by rw [e2, xst_ne (by omega), z1]
    refine s7_itsW (i := 1) (w := w) (t0 := t0) (t1 := t1) hf (by omega) (by rw [z2]; exact hr) (fun G3 e3 => ?_)
    have z3 : G3 0 = G 0 := by rw [e3, xst_ne (by omega), z2]
    refine s7_worked (u := 0) (t := t0) (by omega) (by rw [z3]; exact hr.2.1) (h1.resolve_left c) (fun p => ?_)
    have hv : ∀ q ∈ t0, tkV 0 q := hr.2.1.2.2.1
    have en : tkEv (G3 5) t0 [] = tkEv (tkN 0 (nI found) (nI (w 3)) (nI (wF w f 1))) t0 [] := by
      refine tkEv_congr (u := 0) (fun v hvn => ?_) t0 [] hv
      have hvn' : v = 102 ∨ v = 104 ∨ v = 109 := by simpa [tkName] using hvn
      rw [e3, e2, e1]
      simp only [xst_at]
      rcases hvn' with rfl | rfl | rfl
      · rw [upd_ne (by omega), upd_ne (by omega), upd_at]; rfl
      · rw [upd_ne (by omega), upd_at, xst_ne (by omega), eh]; rfl
      · rw [upd_at]; rfl
    rw [en]
    have := h (va_up G3 6 p) (fun k h5 h6 => by rw [vu_ne h6, e3, xst_ne h5, e2, xst_ne h5, e1, xst_ne h5])
    unfold tdW at this; rw [if_neg c] at this; exact this

theorem eq_dec {a b : Nat} (ha : a < 2 ^ 31) (hb : b < 2 ^ 31) {P R : Prop} (p : a = b → P) (r : a ≠ b → R) : (nI a = nI b → P) ∧ (¬ nI a = nI b → R) := ⟨fun c => p ((nI_eq ha hb).mp c), fun c => r (fun e => c (by rw [e]))⟩
theorem eq_dec' {a b : Nat} (ha : a < 2 ^ 31) (hb : b < 2 ^ 31) {P R : Prop} (p : a = b → P) (r : a ≠ b → R) : (¬ nI a = nI b → R) ∧ (nI a = nI b → P) := ⟨fun c => r (fun e => c (by rw [e])), fun c => p ((nI_eq ha hb).mp c)⟩
theorem le_dec {a b : Nat} (ha : a < 2 ^ 31) (hb : b < 2 ^ 31) {P R : Prop} (p : a ≤ b → P) (r : b < a → R) : (nI a ≤ nI b → P) ∧ (¬ nI a ≤ nI b → R) := ⟨fun c => p ((nI_leI ha hb).mp c), fun c => r (by
  by_cases q : a ≤ b
  · exact absurd ((nI_leI ha hb).mpr q) c
  · omega)⟩
theorem le_dec' {a b : Nat} (ha : a < 2 ^ 31) (hb : b < 2 ^ 31) {P R : Prop} (p : a ≤ b → P) (r : b < a → R) : (¬ nI a ≤ nI b → R) ∧ (nI a ≤ nI b → P) := ⟨(le_dec ha hb p r).2, (le_dec ha hb p r).1⟩
theorem lt_dec {a b : Nat} (ha : a < 2 ^ 31) (hb : b < 2 ^ 31) {P R : Prop} (p : a < b → P) (r : b ≤ a → R) : (nI a < nI b → P) ∧ (¬ nI a < nI b → R) := ⟨fun c => p ((nI_ltI ha hb).mp c), fun c => r (by
  by_cases q : a < b
  · exact absurd ((nI_ltI ha hb).mpr q) c
  · omega)⟩
theorem lt_dec' {a b : Nat} (ha : a < 2 ^ 31) (hb : b < 2 ^ 31) {P R : Prop} (p : a < b → P) (r : b ≤ a → R) : (¬ nI a < nI b → R) ∧ (nI a < nI b → P) := ⟨(lt_dec ha hb p r).2, (lt_dec ha hb p r).1⟩
theorem s7_feeds {w : wW} {t0 t1 : wT} {F : xF} {G : xA} {Q : Int32 → xF → xA → Prop} {f found : Nat} (hw : Wok w) (hr : R7 w t0 t1 (G 0)) (h1 : wTx t0) (hf : f < 9) (h : ∀ G', (∀ k, k ≠ 5 → k ≠ 6 → G' k = G k) → Q (nI (feW t0 w f found)) F G') : qX7_feeds (nI f) (nI found) F G Q := by
  unfold qX7_feeds
  have hk := hw.2.2.2.2.1 f hf
  refine s7_itsW (i := 1) hf (by omega) hr (s7_itsW (i := 0) hf (by omega) hr ?_)
  unfold feW at h
  simp only [show (2 : Int32) = nI 2 from rfl, pk_div (show wF w f 1 < 2 ^ 31 by omega) (show 0 < 2 by omega) (show 2 < 2 ^ 31 by omega)]
  refine eq_dec (b := 1) (by omega) (by omega) (fun e => ?_) (fun e1 => ?_)
  · rw [il4, pk_sub (by omega)]
    refine s7_held9 ?_
    rw [cl9_of (by omega), show min 9 (4 - wF w f 1 / 2) = 4 - wF w f 1 / 2 by omega]
    simp only [if_pos e] at h
    exact h G (fun _ _ _ => rfl)
  refine eq_dec (b := 2) (by omega) (by omega) (fun e => ?_) (fun e2 => ?_)
  · rw [il4, nI_add]
    refine s7_held9 ?_
    rw [cl9_of (by omega), show min 9 (4 + wF w f 1 / 2) = 4 + wF w f 1 / 2 by omega]
    simp only [if_neg e1, if_pos e] at h
    exact h G (fun _ _ _ => rfl)
  refine eq_dec (b := 4) (by omega) (by omega) (fun e => ?_) (fun e4 => ?_)
  · simp only [if_neg e1, if_neg e2, if_pos e] at h
    refine s7_held9 ?_
    by_cases c : wF w f 1 / 2 ≤ 2
    · rw [pk_sub c, cl9_of (by omega), show min 9 (2 - wF w f 1 / 2) = 2 - wF w f 1 / 2 by omega]
      exact h G (fun _ _ _ => rfl)
    · have e0 : cl9 (nI 2 - nI (wF w f 1 / 2)) = 0 := by
        unfold cl9
        rw [if_neg (by rw [Int32.not_le]; exact pk_sneg (by omega) (by omega))]
      rw [e0]
      rw [show 2 - wF w f 1 / 2 = 0 by omega] at h
      exact h G (fun _ _ _ => rfl)
  refine eq_dec (b := 5) (by omega) (by omega) (fun e => ?_) (fun e5 => ?_)
  · simp only [if_neg e1, if_neg e2, if_neg e4, if_pos e] at h
    rw [il4, nI_add, pk_mul]
    refine s7_held9 ?_
    rw [cl9_of (by omega)]
    exact h G (fun _ _ _ => rfl)
  refine eq_dec (b := 6) (by omega) (by omega) (fun e => ?_) (fun e6 => ?_)
  · simp only [if_neg e1, if_neg e2, if_neg e4, if_neg e5, if_pos e] at h
    exact s7_feedsTold hr h1 hf (fun G' hG => s7_held9 (h G' hG))
  · simp only [if_neg e1, if_neg e2, if_neg e4, if_neg e5, if_neg e6] at h
    refine s7_held9 ?_
    rw [il4, cl9_of (by omega)]
    exact h G (fun _ _ _ => rfl)
/-! the class's world -/
def R5 (w : wW) (t0 t1 : wT) (F : xF) (G : xA) : Prop := (F 0 = nI (w 1) ∧ F 1 = nI (w 2) ∧ F 2 = nI (w 3) ∧ F 3 = nI (w 0)) ∧ (∀ a, a < 16 → G 0 a = nI (wO w a)) ∧ (∀ a, a < 16 → G 1 a = nI (wD w a)) ∧ (∀ f, f < 9 → G 2 f = nI (wF w f 0)) ∧ (∀ f, f < 9 → G 3 f = nI (wF w f 1)) ∧ (∀ f, f < 9 → G 4 f = nI (wF w f 2)) ∧ (∀ f, f < 9 → G 5 f = nI (wF w f 3)) ∧ (∀ f, f < 9 → G 6 f = nI (wF w f 4)) ∧ (∀ f, f < 9 → ∀ i, i < 4 → G 7 (4 * f + i) = nI (wF w f (5 + i))) ∧ tkCd 0 (F 5) (G 11) t0 ∧ tkCd 1 (F 6) (G 13) t1
theorem R5_c0 {w t0 t1 F G} (h : R5 w t0 t1 F G) : tkCd 0 (F 5) (G 11) t0 := h.2.2.2.2.2.2.2.2.2.1
theorem R5_c1 {w t0 t1 F G} (h : R5 w t0 t1 F G) : tkCd 1 (F 6) (G 13) t1 := h.2.2.2.2.2.2.2.2.2.2
/-- stacks and the like apart -/
theorem R5_fr {w t0 t1 F G F' G'} (h : R5 w t0 t1 F G) (hF : F' = F) (hG : ∀ k, k < 8 ∨ k = 11 ∨ k = 13 → G' k = G k) : R5 w t0 t1 F' G' := by
  subst hF
  unfold R5
  rw [hG 0 (by omega), hG 1 (by omega), hG 2 (by omega), hG 3 (by omega), hG 4 (by omega), hG 5 (by omega), hG 6 (by omega), hG 7 (by omega), hG 11 (by omega), hG 13 (by omega)]
  exact h
theorem s3_isThere {u : Nat} {t : wT} {F : xF} {G : xA} {Q : Int32 → xF → xA → Prop} {g : Nat → Int32} (ht : tkCd u (F 0) g t) (h : Q (if t = [] then 0 else 1) F G) : qX3_isThere F G Q := by
  unfold qX3_isThere
  have h60 := ht.2.1
  rw [ht.1]
  refine ⟨fun c => ?_, fun c => ?_⟩
  · have e : t.length = 0 := by have := (nI_leI (b := 0) (by omega) (by omega)).mp c; omega
    rw [if_pos (List.eq_nil_of_length_eq_zero e)] at h; exact h
  · have e : ¬ t = [] := fun q => by rw [q] at c; exact c (nI_le (a := 0) (b := 0) (Nat.le_refl 0) (by decide))
    rw [if_neg e] at h; exact h
theorem xspl_up {α : Type} (G : Nat → α) (o n j : Nat) (p : α) (k : Nat) (hk : k ≠ o + j) : xspl G o n (va_up (xsub G o) j p) k = G k := by
  unfold xspl
  by_cases h1 : k < o
  · rw [if_pos h1]
  · rw [if_neg h1]
    by_cases h2 : k < o + n
    · rw [if_pos h2, vu_ne (by omega)]
      unfold xsub
      rw [show o + (k - o) = k by omega]
    · rw [if_neg h2]
theorem s5_smellOf {w : wW} {t0 t1 : wT} {F : xF} {G : xA} {Q : Int32 → xF → xA → Prop} {a : Nat} (hr : R5 w t0 t1 F G) (h1 : wTx t1) (ha : a < 16) (h : ∀ G', (∀ k, k ≠ 12 → G' k = G k) → Q (smW t1 w a) F G') : qX5_smellOf (nI a) F G Q := by
  unfold qX5_smellOf
  have hc := R5_c1 hr
  have eu : G 1 a = nI (wD w a) := hr.2.2.1 a ha
  refine s3_isThere (u := 1) (t := t1) (g := G 13) hc ?_
  intro E eE H eH
  rw [xspl_sub] at eE eH
  rw [eE, eH]
  rw [nI_clamp (by omega), eu]
  by_cases c : t1 = []
  · rw [if_pos c]
    refine ⟨fun _ => ⟨xvin (by omega) (by omega), ?_⟩, fun q => absurd rfl q⟩
    have := h G (fun _ _ => rfl)
    unfold smW at this; rw [if_pos c] at this; exact this
  · rw [if_neg c]
    refine ⟨fun q => absurd q (by decide), fun _ => ⟨xvin (by omega) (by omega), ?_⟩⟩
    rw [hr.1.2.2.1]
    refine s3_value (u := 1) (t := t1) hc (h1.resolve_left c) (fun p => ?_)
    intro E eE H eH
    rw [xspl_sub] at eE
    rw [eE, eH]
    have := h (xspl G 12 2 (va_up (xsub G 12) 0 p)) (fun k hk => xspl_up _ _ _ _ _ _ (by omega))
    unfold smW at this; rw [if_neg c] at this; exact this
theorem s5_feedsOf {w : wW} {t0 t1 : wT} {F : xF} {G : xA} {Q : Int32 → xF → xA → Prop} {f found : Nat} (hw : Wok w) (hr : R5 w t0 t1 F G) (h1 : wTx t0) (hf : f < 9) (h : ∀ G', (∀ k, k ≠ 10 → G' k = G k) → Q (nI (feW t0 w f found)) F G') : qX5_feedsOf (nI f) (nI found) F G Q := by
  unfold qX5_feedsOf
  have hk := hw.2.2.2.2.1 f hf
  have hc := R5_c0 hr
  have e0 : G 2 f = nI (wF w f 0) := hr.2.2.2.1 f hf
  have em : G 3 f = nI (wF w f 1) := hr.2.2.2.2.1 f hf
  rw [nI_clamp (by omega), e0, em]
  unfold feW at h
  simp only [show (2 : Int32) = nI 2 from rfl, pk_div (show wF w f 1 < 2 ^ 31 by omega) (show 0 < 2 by omega) (show 2 < 2 ^ 31 by omega)]
  refine ⟨xvin (by omega) (by omega), xvin (by omega) (by omega), ?_⟩
  refine eq_dec (b := 1) (by omega) (by omega) (fun e => ?_) (fun e1 => ?_)
  · rw [il4, pk_sub (by omega)]
    refine s5_held9 ?_
    rw [cl9_of (by omega), show min 9 (4 - wF w f 1 / 2) = 4 - wF w f 1 / 2 by omega]
    simp only [if_pos e] at h
    exact h G (fun _ _ => rfl)
  refine eq_dec (b := 2) (by omega) (by omega) (fun e => ?_) (fun e2 => ?_)
  · rw [il4, nI_add]
    refine s5_held9 ?_
    rw [cl9_of (by omega), show min 9 (4 + wF w f 1 / 2) = 4 + wF w f 1 / 2 by omega]
    simp only [if_neg e1, if_pos e] at h
    exact h G (fun _ _ => rfl)
  refine eq_dec (b := 4) (by omega) (by omega) (fun e => ?_) (fun e4 => ?_)
  · simp only [if_neg e1, if_neg e2, if_pos e] at h
    refine s5_held9 ?_
    rw [il4, pk_sub (by omega)]
    by_cases c : wF w f 1 / 2 ≤ 2
    · rw [pk_sub (by omega), cl9_of (by omega), show min 9 (4 - wF w f 1 / 2 - 2) = 2 - wF w f 1 / 2 by omega]
      exact h G (fun _ _ => rfl)
    · have e0 : cl9 (nI (4 - wF w f 1 / 2) - nI 2) = 0 := by
        unfold cl9
        rw [if_neg (by rw [Int32.not_le]; exact pk_sneg (by omega) (by omega))]
      rw [e0]
      rw [show 2 - wF w f 1 / 2 = 0 by omega] at h
      exact h G (fun _ _ => rfl)
  refine eq_dec (b := 5) (by omega) (by omega) (fun e => ?_) (fun e5 => ?_)
  · simp only [if_neg e1, if_neg e2, if_neg e4, if_pos e] at h
    rw [il4, nI_add, pk_mul]
    refine s5_held9 ?_
    rw [cl9_of (by omega)]
    exact h G (fun _ _ => rfl)
  refine eq_dec (b := 6) (by omega) (by omega) (fun e => ?_) (fun e6 => ?_)
  · simp only [if_neg e1, if_neg e2, if_neg e4, if_neg e5, if_pos e] at h
    refine s3_isThere (u := 0) (t := t0) (g := G 11) hc ?_
    intro E eE H eH
    rw [xspl_sub] at eE eH
    rw [eE, eH]
    by_cases c : t0 = []
    · rw [if_pos c]
      refine ⟨fun _ => ?_, fun q => absurd rfl q⟩
      have := h G (fun _ _ => rfl)
      unfold tdW at this; rw [if_pos c, il4, cl9_of (by omega)] at this; exact this
    · rw [if_neg c]
      refine ⟨fun q => absurd q (by decide), fun _ => ?_⟩
      rw [hr.1.2.2.1]
      refine s3_value (u := 0) (t := t0) hc (h1.resolve_left c) (fun p => ?_)
      intro E eE H eH
      rw [xspl_sub] at eE
      rw [eE, eH]
      refine s5_held9 ?_
      have := h (xspl G 10 2 (va_up (xsub G 10) 0 p)) (fun k hk => xspl_up _ _ _ _ _ _ (by omega))
      unfold tdW at this; rw [if_neg c] at this; exact this
  · simp only [if_neg e1, if_neg e2, if_neg e4, if_neg e5, if_neg e6] at h
    exact h G (fun _ _ => rfl)
