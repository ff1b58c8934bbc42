/-! voices: what they give, which bodies begin -/
def ldV (own f : Nat) (x : Int32) : Int32 := match own with
  | 1 => x + nI f - 4
  | 4 => (x + nI f - 4) * 3
  | 6 => 9
  | _ => x + nI f
def ldT (own : Nat) : List Nat := match own with
  | 1 => [20, 10]
  | 4 => [50, 20, 10]
  | 6 => [70]
  | _ => [10]
def vfB (own f : Nat) (x : Int32) : Int32 := ldV own f x * 2
def fdV (own f m : Nat) (x : Int32) : Int32 := match own with
  | 2 => 0 - vfB 2 f x
  | 5 => 0 - vfB 5 f (x + 1)
  | 6 => vfB 6 f x + nI m
  | o => vfB o f x
def fdT (own : Nat) : List Nat := match own with
  | 2 => 30 :: 11 :: ldT 2
  | 5 => 60 :: 30 :: 11 :: ldT 5
  | 6 => 71 :: 11 :: ldT 6
  | o => 11 :: ldT o
def hdB (own f m : Nat) (x : Int32) : Int32 := fdV own f m x - nI m
def hdV (own f m : Nat) (x : Int32) : Int32 := match own with
  | 3 => hdB 3 f m (x / 2)
  | 4 => hdB 4 f m x ^^^ nI f
  | o => hdB o f m x
def hdT (own : Nat) : List Nat := match own with
  | 3 => 40 :: 12 :: fdT 3
  | 4 => 51 :: 12 :: fdT 4
  | o => 12 :: fdT o
def ptV (own f m : Nat) (x : Int32) : Int32 := match own with
  | 1 => x / (nI m - nI f) + fdV 1 f m 1
  | 4 => x / (nI m - nI f) + fdV 4 f m 1
  | _ => x / (nI m - nI f)
def ptT (own : Nat) : List Nat := match own with
  | 1 => 21 :: 13 :: fdT 1
  | 4 => 21 :: 13 :: fdT 4
  | _ => [13]
def ptZ (own : Nat) : List Nat := match own with
  | 1 => [21, 13]
  | 4 => [21, 13]
  | _ => [13]
def trL (T : List Nat) (x : Int32) (g : Nat → Int32) : Prop := x = nI T.length ∧ ∀ i, i < T.length → g i = nI (T.getD i 0)
theorem trL_push {T : List Nat} {x : Int32} {g : Nat → Int32} {b : Nat} (h : trL T x g) : trL (T ++ [b]) (nI (T.length + 1)) (upd g T.length (nI b)) := by
  refine ⟨by rw [List.length_append]; rfl, fun i hi => ?_⟩
  rw [List.length_append] at hi
  have hi : i < T.length + 1 := hi
  by_cases c : i = T.length
  · subst c
    rw [upd_at]
    simp [List.getD]
  · rw [upd_ne c, h.2 i (by omega)]
    congr 1
    simp [List.getD, List.getElem?_append_left (show i < T.length by omega)]
theorem sub_z {m f : Nat} (hm : m ≤ 9) (hf : f < 9) (h : nI m - nI f = 0) : m = f := by
  have := pk_sub_toInt (a := m) (b := f) (by omega) (by omega)
  rw [h] at this
  have z : (0 : Int32).toInt = 0 := rfl
  omega
/-- the reference in a voice -/
def rS (f : Nat) (w : wW) (t0 t1 : wT) (T : List Nat) (F0 : xF) (G0 : xA) (F : xF) (G : xA) : Prop := F 7 = nI f ∧ F 8 = 0 ∧ trL T (F 6) (G 10) ∧ (∀ k, k ≠ 6 → k ≠ 8 → F k = F0 k) ∧ (∀ k, k ≠ 10 → G k = G0 k) ∧ R7 w t0 t1 (G0 0)
def rZ (f : Nat) (w : wW) (t0 t1 : wT) (T : List Nat) (F0 : xF) (G0 : xA) (F : xF) (G : xA) : Prop := F 7 = nI f ∧ F 8 = 1 ∧ trL T (F 6) (G 10) ∧ (∀ k, k ≠ 6 → k ≠ 8 → F k = F0 k) ∧ (∀ k, k ≠ 10 → G k = G0 k) ∧ R7 w t0 t1 (G0 0)
theorem rS_as {f : Nat} {w : wW} {t0 t1 : wT} {T L : List Nat} {b : Nat} {F0 F : xF} {G0 G : xA} (h : rS f w t0 t1 (T ++ [b] ++ L) F0 G0 F G) : rS f w t0 t1 (T ++ (b :: L)) F0 G0 F G := by
  rw [List.append_assoc] at h; exact h
theorem rZ_as {f : Nat} {w : wW} {t0 t1 : wT} {T L : List Nat} {b : Nat} {F0 F : xF} {G0 G : xA} (h : rZ f w t0 t1 (T ++ [b] ++ L) F0 G0 F G) : rZ f w t0 t1 (T ++ (b :: L)) F0 G0 F G := by
  rw [List.append_assoc] at h; exact h
theorem rS_8 {f : Nat} {w : wW} {t0 t1 : wT} {T : List Nat} {F0 F : xF} {G0 G : xA} (h : rS f w t0 t1 T F0 G0 F G) : rS f w t0 t1 T F0 G0 (va_up F 8 0) G := by
  obtain ⟨a, b, c, d, e, g⟩ := h
  exact ⟨by rw [vu_ne (by omega)]; exact a, vu_at _ _ _, by rw [vu_ne (by omega)]; exact c, fun k h1 h2 => by rw [vu_ne h2]; exact d k h1 h2, e, g⟩
theorem rS_part {f : Nat} {w : wW} {t0 t1 : wT} {T : List Nat} {F0 F : xF} {G0 G : xA} (h : rS f w t0 t1 T F0 G0 F G) : rZ f w t0 t1 T F0 G0 (va_up F 8 1) G := by
  obtain ⟨a, b, c, d, e, g⟩ := h
  exact ⟨by rw [vu_ne (by omega)]; exact a, vu_at _ _ _, by rw [vu_ne (by omega)]; exact c, fun k h1 h2 => by rw [vu_ne h2]; exact d k h1 h2, e, g⟩
theorem s7_begins {f b : Nat} {w : wW} {t0 t1 : wT} {T : List Nat} {F0 F : xF} {G0 G : xA} {Q : xF → xA → Prop} (hr : rS f w t0 t1 T F0 G0 F G) (hT : T.length < 30) (h : ∀ F1 G1, rS f w t0 t1 (T ++ [b]) F0 G0 F1 G1 → Q F1 G1) : qX7_begins (nI b) F G Q := by
  obtain ⟨a, p, c, d, e, g⟩ := hr
  unfold qX7_begins
  rw [c.1, nI_clamp (by omega), nI_1]
  refine ⟨fun q => absurd (show nI 30 ≤ nI T.length from q) (nI_ge hT (by omega)), fun _ => ⟨xvin hT (by omega), fun G1 e1 F1 f1 => h F1 G1 ⟨?_, ?_, ?_, fun k h1 h2 => ?_, fun k hk => ?_, g⟩⟩⟩
  · rw [f1, vu_ne (by omega)]; exact a
  · rw [f1, vu_ne (by omega)]; exact p
  · rw [f1, vu_at, e1, xst_at]; exact trL_push c
  · rw [f1, vu_ne h1]; exact d k h1 h2
  · rw [e1, xst_ne hk]; exact e k hk
theorem s7_above {k : Nat} {Q : Int32 → Prop} (hk : k ≤ 6) (h : Q (nI (if k = 4 then 1 else if k = 5 then 2 else 0))) : qX7_above (nI k) Q := by
  refine eq_dec' (b := 4) (by omega) (by decide) (fun e => ?_) (fun n4 => eq_dec' (b := 5) (by omega) (by decide) (fun e => ?_) (fun n5 => ?_))
  · rw [if_pos e] at h; exact h
  · rw [if_neg n4, if_pos e] at h; exact h
  · rw [if_neg n4, if_neg n5] at h; exact h
theorem s7_kind {f own : Nat} {w : wW} {t0 t1 : wT} {T : List Nat} {F0 F : xF} {G0 G : xA} {Q : Int32 → xF → xA → Prop} (hr : rS f w t0 t1 T F0 G0 F G) (hf : f < 9) (ek : wF w f 0 = own) (h : Q (nI own) F G) : qX7_kindNow F G Q := by
  obtain ⟨a, p, c, d, e, g⟩ := hr
  unfold qX7_kindNow
  rw [a]
  exact s7_itsW (i := 0) hf (by omega) (by rw [e 0 (by omega)]; exact g) (by rw [ek]; exact h)
theorem s7_m {f m : Nat} {w : wW} {t0 t1 : wT} {T : List Nat} {F0 F : xF} {G0 G : xA} {Q : Int32 → xF → xA → Prop} (hr : rS f w t0 t1 T F0 G0 F G) (hf : f < 9) (em : wF w f 1 = m) (h : Q (nI m) F G) : qX7_mNow F G Q := by
  obtain ⟨a, p, c, d, e, g⟩ := hr
  unfold qX7_mNow
  rw [a]
  exact s7_itsW (i := 1) hf (by omega) (by rw [e 0 (by omega)]; exact g) (by rw [em]; exact h)
/-- the class in a voice -/
def vS (f m own : Nat) (T : List Nat) (F : xF) (G : xA) : Prop := F 0 = 0 ∧ F 1 = nI f ∧ F 2 = nI m ∧ F 3 = nI own ∧ trL T (F 4) (G 0)
def vZ (f m own : Nat) (T : List Nat) (F : xF) (G : xA) : Prop := F 0 = 1 ∧ F 1 = nI f ∧ F 2 = nI m ∧ F 3 = nI own ∧ trL T (F 4) (G 0)
theorem vS_as {f m own b : Nat} {T L : List Nat} {F : xF} {G : xA} (h : vS f m own (T ++ [b] ++ L) F G) : vS f m own (T ++ (b :: L)) F G := by
  rw [List.append_assoc] at h; exact h
theorem vZ_as {f m own b : Nat} {T L : List Nat} {F : xF} {G : xA} (h : vZ f m own (T ++ [b] ++ L) F G) : vZ f m own (T ++ (b :: L)) F G := by
  rw [List.append_assoc] at h; exact h
theorem vS_part {f m own : Nat} {T : List Nat} {F : xF} {G : xA} (h : vS f m own T F G) : vZ f m own T (va_up F 0 1) G := by
  obtain ⟨a, b, c, d, e⟩ := h
  exact ⟨vu_at _ _ _, by rw [vu_ne (by omega)]; exact b, by rw [vu_ne (by omega)]; exact c, by rw [vu_ne (by omega)]; exact d, by rw [vu_ne (by omega)]; exact e⟩
theorem s1_appendB {N o o2 n : Nat} {x : Int32} {F : xF} {G : xA} {K : xF → xA → Prop} (hN : N < 2 ^ 31) (hn : n < N) (en : F o = nI n) (h : K (va_up F o (nI (n + 1))) (xst G o2 n x)) : qX1_append N x (xsub F o) (xsub G o2) (fun F1 G1 => (∀ E : xF, E = (xspl F o 1 F1) → (∀ H : xA, H = (xspl G o2 1 G1) → K E H))) := by
  have f0 : xsub F o 0 = nI n := en
  unfold qX1_append
  rw [f0, nI_clamp (by omega), nI_1]
  refine ⟨fun c => absurd (show nI N ≤ nI n from c) (nI_ge hn (by omega)), fun _ => ⟨xvin hn hN, fun G1 e1 F1 f1 E eE H eH => ?_⟩⟩
  have hE : E = va_up F o (nI (n + 1)) := by
    rw [eE, f1]
    funext k
    by_cases c : k = o
    · subst c
      rw [show xspl F k 1 (va_up (xsub F k) 0 (nI (n + 1))) k = va_up (xsub F k) 0 (nI (n + 1)) 0 from xspl_in (k := 0) (by omega), vu_at, vu_at]
    · rw [xspl_out (by omega), vu_ne c]
  have hH : H = xst G o2 n x := by rw [eH, e1]; exact xspl_xst
  rw [hE, hH]
  exact h
abbrev woC (wown : Int32 → Int32 → Int32 → xF → xA → (Int32 → xF → xA → Prop) → Prop) (wabove : Int32 → Int32 → Int32 → Int32 → xF → xA → (Int32 → xF → xA → Prop) → Prop) (x1 x2 x3 x4 : Int32) (E21 : xF) (H21 : xA) (Q : Int32 → xF → xA → Prop) : Prop := ((x1 = (10 : Int32) → Q (x3 + (E21 1)) E21 H21) ∧ (¬ x1 = (10 : Int32) → ((x1 = (11 : Int32) → wown (0 : Int32) x3 x4 E21 H21 (fun r144 F144 G144 => Q (r144 * (2 : Int32)) F144 G144)) ∧ (¬ x1 = (11 : Int32) → ((x1 = (12 : Int32) → wown (1 : Int32) x3 x4 E21 H21 (fun r155 F155 G155 => Q (r155 - (F155 2)) F155 G155)) ∧ (¬ x1 = (12 : Int32) → ((x1 = (13 : Int32) → qX4_partedBy x3 ((E21 2) - (E21 1)) E21 H21 (fun r175 F175 G175 => Q r175 F175 G175)) ∧ (¬ x1 = (13 : Int32) → ((x1 = (20 : Int32) → wabove x2 (0 : Int32) x3 x4 E21 H21 (fun r185 F185 G185 => Q (r185 - (4 : Int32)) F185 G185)) ∧ (¬ x1 = (20 : Int32) → ((x1 = (21 : Int32) → wabove x2 (3 : Int32) x3 x4 E21 H21 (fun r197 F197 G197 => wown (1 : Int32) (1 : Int32) x4 F197 G197 (fun r205 F205 G205 => Q (r197 + r205) F205 G205))) ∧ (¬ x1 = (21 : Int32) → ((x1 = (30 : Int32) → wabove x2 (1 : Int32) x3 x4 E21 H21 (fun r217 F217 G217 => Q ((0 : Int32) - r217) F217 G217)) ∧ (¬ x1 = (30 : Int32) → ((x1 = (40 : Int32) → wabove x2 (2 : Int32) (x3 / (2 : Int32)) x4 E21 H21 (fun r230 F230 G230 => Q r230 F230 G230)) ∧ (¬ x1 = (40 : Int32) → ((x1 = (50 : Int32) → wabove x2 (0 : Int32) x3 x4 E21 H21 (fun r240 F240 G240 => Q (r240 * (3 : Int32)) F240 G240)) ∧ (¬ x1 = (50 : Int32) → ((x1 = (51 : Int32) → wabove x2 (2 : Int32) x3 x4 E21 H21 (fun r252 F252 G252 => Q (r252 ^^^ (F252 1)) F252 G252)) ∧ (¬ x1 = (51 : Int32) → ((x1 = (60 : Int32) → wabove x2 (1 : Int32) (x3 + (1 : Int32)) x4 E21 H21 (fun r269 F269 G269 => Q r269 F269 G269)) ∧ (¬ x1 = (60 : Int32) → ((x1 = (70 : Int32) → Q (9 : Int32) E21 H21) ∧ (¬ x1 = (70 : Int32) → wabove x2 (1 : Int32) x3 x4 E21 H21 (fun r282 F282 G282 => Q (r282 + (F282 2)) F282 G282)))))))))))))))))))))))))
theorem wo_st {b f m own dep : Nat} {T : List Nat} {wown : Int32 → Int32 → Int32 → xF → xA → (Int32 → xF → xA → Prop) → Prop} {wabove : Int32 → Int32 → Int32 → Int32 → xF → xA → (Int32 → xF → xA → Prop) → Prop} {x2 x3 : Int32} {F : xF} {G : xA} {Q : Int32 → xF → xA → Prop} (hs : vS f m own T F G) (hT : T.length < 30) (hd : dep ≤ 40) (h : ∀ E1 H1, vS f m own (T ++ [b]) E1 H1 → woC wown wabove (nI b) x2 x3 (nI dep) E1 H1 Q) : qX4_workedOut wown wabove (nI b) x2 x3 (nI dep) F G Q := by
  obtain ⟨a, p, c, d, e⟩ := hs
  refine ⟨fun q => absurd a q, fun _ => ⟨fun _ => s1_appendB (N := 30) (o := 4) (o2 := 0) (by decide) hT e.1 (h _ _ ⟨?_, ?_, ?_, ?_, ?_⟩), fun q => absurd (nI_le (b := 40) hd (by decide)) q⟩⟩
  · rw [vu_ne (by omega)]; exact a
  · rw [vu_ne (by omega)]; exact p
  · rw [vu_ne (by omega)]; exact c
  · rw [vu_ne (by omega)]; exact d
  · rw [vu_at, xst_at]; exact trL_push e
theorem fb_ix {k v : Nat} : (4 : Int32) * nI k + nI v = nI (4 * k + v) := by rw [show (4 : Int32) = nI 4 from rfl, pk_mul, nI_add]
theorem fb_up {W : Int32 → Int32 → Int32 → Int32 → xF → xA → (Int32 → xF → xA → Prop) → Prop} {k v u s n : Nat} {x e : Int32} {F : xF} {G : xA} {Q : Int32 → xF → xA → Prop} (hs : s < 7) (hk : k ≤ 6) (hv : v ≤ 3) (hb : xt_bodies.getD (4 * k + v) 0 = 0) (hu : xt_above.getD k 0 = nI u) (h : qX4_from_6 W Q n (nI v) x e (nI u) (nI (s + 1)) F G) : qX4_from_6 W Q (n + 1) (nI v) x e (nI k) (nI s) F G := by
  rw [qX4_from_6, fb_ix, nI_clamp (show 4 * k + v < 2 ^ 31 by omega), nI_clamp (show k < 2 ^ 31 by omega), hb, hu, show nI s + (1 : Int32) = nI (s + 1) from nI_1 s]
  exact ⟨fun c => absurd (show nI 7 ≤ nI s from c) (nI_ge hs (by omega)), fun _ => ⟨fun c => absurd c (nI_pos (by omega)), fun _ => ⟨xvin (show 4 * k + v < 28 by omega) (by decide), fun _ => ⟨xvin (show k < 7 by omega) (by decide), h⟩, fun c => absurd rfl c⟩⟩⟩
theorem fb_at {W : Int32 → Int32 → Int32 → Int32 → xF → xA → (Int32 → xF → xA → Prop) → Prop} {k v b s n : Nat} {x e : Int32} {F : xF} {G : xA} {Q : Int32 → xF → xA → Prop} (hs : s < 7) (hk : k ≤ 6 ∧ v ≤ 3) (hb0 : 0 < b ∧ b < 100) (hb : xt_bodies.getD (4 * k + v) 0 = nI b) (h : W (nI b) (nI k) x e F G Q) : qX4_from_6 W Q (n + 1) (nI v) x e (nI k) (nI s) F G := by
  rw [qX4_from_6, fb_ix, nI_clamp (show 4 * k + v < 2 ^ 31 by omega), nI_clamp (show k < 2 ^ 31 by omega), hb]
  exact ⟨fun c => absurd (show nI 7 ≤ nI s from c) (nI_ge hs (by omega)), fun _ => ⟨fun c => absurd c (nI_pos (by omega)), fun _ => ⟨xvin (show 4 * k + v < 28 by omega) (by decide), fun c => absurd c (nI_ne0 (by omega) (by omega)), fun _ => h⟩⟩⟩

/-! the reference's voices -/
theorem r_ld0 {f : Nat} {w : wW} {t0 t1 : wT} {T : List Nat} {F0 F : xF} {G0 G : xA} {x : Int32} {d : Nat} {Q : Int32 → xF → xA → Prop} (hr : rS f w t0 t1 T F0 G0 F G) (hT : T.length < 24) (h : ∀ F1 G1, rS f w t0 t1 (T ++ [10]) F0 G0 F1 G1 → Q (x + nI f) F1 G1) : qX7_leadsAs_d (d + 1) (nI 0) x F G Q := ⟨fun _ => s7_begins (b := 10) hr (by omega) (fun F1 G1 h1 => by rw [h1.1]; exact h F1 G1 h1), fun c => absurd rfl c⟩
theorem r_ld1 {f : Nat} {w : wW} {t0 t1 : wT} {T : List Nat} {F0 F : xF} {G0 G : xA} {x : Int32} {d : Nat} {Q : Int32 → xF → xA → Prop} (hr : rS f w t0 t1 T F0 G0 F G) (hT : T.length < 20) (h : ∀ F1 G1, rS f w t0 t1 (T ++ [20, 10]) F0 G0 F1 G1 → Q (x + nI f - 4) F1 G1) : qX7_leadsAs_d (d + 2) (nI 1) x F G Q := ⟨fun c => absurd c (by decide), fun _ => ⟨fun _ => s7_begins (b := 20) hr (by omega) (fun F1 G1 h1 => s7_above (k := 1) (by omega) (r_ld0 h1 (by simp; omega) (fun F2 G2 h2 => h F2 G2 (rS_as h2)))), fun c => absurd rfl c⟩⟩
theorem r_ld2 {f : Nat} {w : wW} {t0 t1 : wT} {T : List Nat} {F0 F : xF} {G0 G : xA} {x : Int32} {d : Nat} {Q : Int32 → xF → xA → Prop} (hr : rS f w t0 t1 T F0 G0 F G) (hT : T.length < 20) (h : ∀ F1 G1, rS f w t0 t1 (T ++ [10]) F0 G0 F1 G1 → Q (x + nI f) F1 G1) : qX7_leadsAs_d (d + 2) (nI 2) x F G Q := ⟨fun c => absurd c (by decide), fun _ => ⟨fun c => absurd c (by decide), fun _ => ⟨fun c => absurd c (by decide), fun _ => ⟨fun c => absurd c (by decide), fun _ => s7_above (k := 2) (by omega) (r_ld0 hr (by omega) h)⟩⟩⟩⟩
theorem r_ld3 {f : Nat} {w : wW} {t0 t1 : wT} {T : List Nat} {F0 F : xF} {G0 G : xA} {x : Int32} {d : Nat} {Q : Int32 → xF → xA → Prop} (hr : rS f w t0 t1 T F0 G0 F G) (hT : T.length < 20) (h : ∀ F1 G1, rS f w t0 t1 (T ++ [10]) F0 G0 F1 G1 → Q (x + nI f) F1 G1) : qX7_leadsAs_d (d + 2) (nI 3) x F G Q := ⟨fun c => absurd c (by decide), fun _ => ⟨fun c => absurd c (by decide), fun _ => ⟨fun c => absurd c (by decide), fun _ => ⟨fun c => absurd c (by decide), fun _ => s7_above (k := 3) (by omega) (r_ld0 hr (by omega) h)⟩⟩⟩⟩
theorem r_ld4 {f : Nat} {w : wW} {t0 t1 : wT} {T : List Nat} {F0 F : xF} {G0 G : xA} {x : Int32} {d : Nat} {Q : Int32 → xF → xA → Prop} (hr : rS f w t0 t1 T F0 G0 F G) (hT : T.length < 18) (h : ∀ F1 G1, rS f w t0 t1 (T ++ [50, 20, 10]) F0 G0 F1 G1 → Q ((x + nI f - 4) * 3) F1 G1) : qX7_leadsAs_d (d + 3) (nI 4) x F G Q := ⟨fun c => absurd c (by decide), fun _ => ⟨fun c => absurd c (by decide), fun _ => ⟨fun _ => s7_begins (b := 50) hr (by omega) (fun F1 G1 h1 => s7_above (k := 4) (by omega) (r_ld1 h1 (by simp; omega) (fun F2 G2 h2 => h F2 G2 (rS_as h2)))), fun c => absurd rfl c⟩⟩⟩
theorem r_ld5 {f : Nat} {w : wW} {t0 t1 : wT} {T : List Nat} {F0 F : xF} {G0 G : xA} {x : Int32} {d : Nat} {Q : Int32 → xF → xA → Prop} (hr : rS f w t0 t1 T F0 G0 F G) (hT : T.length < 18) (h : ∀ F1 G1, rS f w t0 t1 (T ++ [10]) F0 G0 F1 G1 → Q (x + nI f) F1 G1) : qX7_leadsAs_d (d + 3) (nI 5) x F G Q := ⟨fun c => absurd c (by decide), fun _ => ⟨fun c => absurd c (by decide), fun _ => ⟨fun c => absurd c (by decide), fun _ => ⟨fun c => absurd c (by decide), fun _ => s7_above (k := 5) (by omega) (r_ld2 hr (by omega) h)⟩⟩⟩⟩
theorem r_ld6 {f : Nat} {w : wW} {t0 t1 : wT} {T : List Nat} {F0 F : xF} {G0 G : xA} {x : Int32} {d : Nat} {Q : Int32 → xF → xA → Prop} (hr : rS f w t0 t1 T F0 G0 F G) (hT : T.length < 20) (h : ∀ F1 G1, rS f w t0 t1 (T ++ [70]) F0 G0 F1 G1 → Q (9) F1 G1) : qX7_leadsAs_d (d + 1) (nI 6) x F G Q := ⟨fun c => absurd c (by decide), fun _ => ⟨fun c => absurd c (by decide), fun _ => ⟨fun c => absurd c (by decide), fun _ => ⟨fun _ => s7_begins (b := 70) hr (by omega) (fun F1 G1 h1 => h F1 G1 h1), fun c => absurd rfl c⟩⟩⟩⟩
theorem r_ld {f own : Nat} {w : wW} {t0 t1 : wT} {T : List Nat} {F0 F : xF} {G0 G : xA} {x : Int32} {d : Nat} {Q : Int32 → xF → xA → Prop} (hr : rS f w t0 t1 T F0 G0 F G) (hT : T.length < 18) (ho : own ≤ 6) (h : ∀ F1 G1, rS f w t0 t1 (T ++ ldT own) F0 G0 F1 G1 → Q (ldV own f x) F1 G1) : qX7_leadsAs_d (d + 4) (nI own) x F G Q := by
  rcases (by omega : own = 0 ∨ own = 1 ∨ own = 2 ∨ own = 3 ∨ own = 4 ∨ own = 5 ∨ own = 6) with rfl | rfl | rfl | rfl | rfl | rfl | rfl
  · exact r_ld0 (d := d + 3) hr (by omega) h
  · exact r_ld1 (d := d + 2) hr (by omega) h
  · exact r_ld2 (d := d + 2) hr (by omega) h
  · exact r_ld3 (d := d + 2) hr (by omega) h
  · exact r_ld4 (d := d + 1) hr (by omega) h
  · exact r_ld5 (d := d + 1) hr (by omega) h
  · exact r_ld6 (d := d + 3) hr (by omega) h
theorem r_fd0 {f m own : Nat} {w : wW} {t0 t1 : wT} {T : List Nat} {F0 F : xF} {G0 G : xA} {x : Int32} {d : Nat} {Q : Int32 → xF → xA → Prop} (hr : rS f w t0 t1 T F0 G0 F G) (hT : T.length < 16) (ho : own ≤ 6) (ek : wF w f 0 = own) (em : wF w f 1 = m) (hf : f < 9) (h : ∀ F1 G1, rS f w t0 t1 (T ++ (11 :: ldT own)) F0 G0 F1 G1 → Q (vfB own f x) F1 G1) : qX7_feedsAs_d (d + 1) (nI 0) x F G Q := ⟨fun _ => s7_begins (b := 11) hr (by omega) (fun F1 G1 h1 => s7_kind h1 hf ek (r_ld (d := 0) h1 (by simp; omega) ho (fun F2 G2 h2 => h F2 G2 (rS_as h2)))), fun c => absurd rfl c⟩
theorem r_fd2 {f m own : Nat} {w : wW} {t0 t1 : wT} {T : List Nat} {F0 F : xF} {G0 G : xA} {x : Int32} {d : Nat} {Q : Int32 → xF → xA → Prop} (hr : rS f w t0 t1 T F0 G0 F G) (hT : T.length < 14) (ho : own ≤ 6) (ek : wF w f 0 = own) (em : wF w f 1 = m) (hf : f < 9) (h : ∀ F1 G1, rS f w t0 t1 (T ++ (30 :: 11 :: ldT own)) F0 G0 F1 G1 → Q (0 - vfB own f x) F1 G1) : qX7_feedsAs_d (d + 2) (nI 2) x F G Q := ⟨fun c => absurd c (by decide), fun _ => ⟨fun _ => s7_begins (b := 30) hr (by omega) (fun F1 G1 h1 => s7_above (k := 2) (by omega) (r_fd0 h1 (by simp; omega) ho ek em hf (fun F2 G2 h2 => h F2 G2 (rS_as h2)))), fun c => absurd rfl c⟩⟩
theorem r_fd1 {f m own : Nat} {w : wW} {t0 t1 : wT} {T : List Nat} {F0 F : xF} {G0 G : xA} {x : Int32} {d : Nat} {Q : Int32 → xF → xA → Prop} (hr : rS f w t0 t1 T F0 G0 F G) (hT : T.length < 14) (ho : own ≤ 6) (ek : wF w f 0 = own) (em : wF w f 1 = m) (hf : f < 9) (h : ∀ F1 G1, rS f w t0 t1 (T ++ (11 :: ldT own)) F0 G0 F1 G1 → Q (vfB own f x) F1 G1) : qX7_feedsAs_d (d + 2) (nI 1) x F G Q := ⟨fun c => absurd c (by decide), fun _ => ⟨fun c => absurd c (by decide), fun _ => ⟨fun c => absurd c (by decide), fun _ => ⟨fun c => absurd c (by decide), fun _ => s7_above (k := 1) (by omega) (r_fd0 hr (by omega) ho ek em hf h)⟩⟩⟩⟩
theorem r_fd3 {f m own : Nat} {w : wW} {t0 t1 : wT} {T : List Nat} {F0 F : xF} {G0 G : xA} {x : Int32} {d : Nat} {Q : Int32 → xF → xA → Prop} (hr : rS f w t0 t1 T F0 G0 F G) (hT : T.length < 14) (ho : own ≤ 6) (ek : wF w f 0 = own) (em : wF w f 1 = m) (hf : f < 9) (h : ∀ F1 G1, rS f w t0 t1 (T ++ (11 :: ldT own)) F0 G0 F1 G1 → Q (vfB own f x) F1 G1) : qX7_feedsAs_d (d + 2) (nI 3) x F G Q := ⟨fun c => absurd c (by decide), fun _ => ⟨fun c => absurd c (by decide), fun _ => ⟨fun c => absurd c (by decide), fun _ => ⟨fun c => absurd c (by decide), fun _ => s7_above (k := 3) (by omega) (r_fd0 hr (by omega) ho ek em hf h)⟩⟩⟩⟩
theorem r_fd4 {f m own : Nat} {w : wW} {t0 t1 : wT} {T : List Nat} {F0 F : xF} {G0 G : xA} {x : Int32} {d : Nat} {Q : Int32 → xF → xA → Prop} (hr : rS f w t0 t1 T F0 G0 F G) (hT : T.length < 12) (ho : own ≤ 6) (ek : wF w f 0 = own) (em : wF w f 1 = m) (hf : f < 9) (h : ∀ F1 G1, rS f w t0 t1 (T ++ (11 :: ldT own)) F0 G0 F1 G1 → Q (vfB own f x) F1 G1) : qX7_feedsAs_d (d + 3) (nI 4) x F G Q := ⟨fun c => absurd c (by decide), fun _ => ⟨fun c => absurd c (by decide), fun _ => ⟨fun c => absurd c (by decide), fun _ => ⟨fun c => absurd c (by decide), fun _ => s7_above (k := 4) (by omega) (r_fd1 hr (by omega) ho ek em hf h)⟩⟩⟩⟩
theorem r_fd5 {f m own : Nat} {w : wW} {t0 t1 : wT} {T : List Nat} {F0 F : xF} {G0 G : xA} {x : Int32} {d : Nat} {Q : Int32 → xF → xA → Prop} (hr : rS f w t0 t1 T F0 G0 F G) (hT : T.length < 12) (ho : own ≤ 6) (ek : wF w f 0 = own) (em : wF w f 1 = m) (hf : f < 9) (h : ∀ F1 G1, rS f w t0 t1 (T ++ (60 :: 30 :: 11 :: ldT own)) F0 G0 F1 G1 → Q (0 - vfB own f (x + 1)) F1 G1) : qX7_feedsAs_d (d + 3) (nI 5) x F G Q := ⟨fun c => absurd c (by decide), fun _ => ⟨fun c => absurd c (by decide), fun _ => ⟨fun _ => s7_begins (b := 60) hr (by omega) (fun F1 G1 h1 => s7_above (k := 5) (by omega) (r_fd2 h1 (by simp; omega) ho ek em hf (fun F2 G2 h2 => h F2 G2 (rS_as h2)))), fun c => absurd rfl c⟩⟩⟩
theorem r_fd6 {f m own : Nat} {w : wW} {t0 t1 : wT} {T : List Nat} {F0 F : xF} {G0 G : xA} {x : Int32} {d : Nat} {Q : Int32 → xF → xA → Prop} (hr : rS f w t0 t1 T F0 G0 F G) (hT : T.length < 12) (ho : own ≤ 6) (ek : wF w f 0 = own) (em : wF w f 1 = m) (hf : f < 9) (h : ∀ F1 G1, rS f w t0 t1 (T ++ (71 :: 11 :: ldT own)) F0 G0 F1 G1 → Q (vfB own f x + nI m) F1 G1) : qX7_feedsAs_d (d + 2) (nI 6) x F G Q := ⟨fun c => absurd c (by decide), fun _ => ⟨fun c => absurd c (by decide), fun _ => ⟨fun c => absurd c (by decide), fun _ => ⟨fun _ => s7_begins (b := 71) hr (by omega) (fun F1 G1 h1 => s7_above (k := 6) (by omega) (r_fd0 h1 (by simp; omega) ho ek em hf (fun F2 G2 h2 => s7_m h2 hf em (h F2 G2 (rS_as h2))))), fun c => absurd rfl c⟩⟩⟩⟩
theorem r_fd {f m own : Nat} {w : wW} {t0 t1 : wT} {T : List Nat} {F0 F : xF} {G0 G : xA} {x : Int32} {d : Nat} {Q : Int32 → xF → xA → Prop} (hr : rS f w t0 t1 T F0 G0 F G) (hT : T.length < 12) (ho : own ≤ 6) (ek : wF w f 0 = own) (em : wF w f 1 = m) (hf : f < 9) (h : ∀ F1 G1, rS f w t0 t1 (T ++ fdT own) F0 G0 F1 G1 → Q (fdV own f m x) F1 G1) : qX7_feedsAs_d (d + 4) (nI own) x F G Q := by
  rcases (by omega : own = 0 ∨ own = 1 ∨ own = 2 ∨ own = 3 ∨ own = 4 ∨ own = 5 ∨ own = 6) with rfl | rfl | rfl | rfl | rfl | rfl | rfl
  · exact r_fd0 (d := d + 3) hr (by omega) ho ek em hf h
  · exact r_fd1 (d := d + 2) hr (by omega) ho ek em hf h
  · exact r_fd2 (d := d + 2) hr (by omega) ho ek em hf h
  · exact r_fd3 (d := d + 2) hr (by omega) ho ek em hf h
  · exact r_fd4 (d := d + 1) hr (by omega) ho ek em hf h
  · exact r_fd5 (d := d + 1) hr (by omega) ho ek em hf h
  · exact r_fd6 (d := d + 2) hr (by omega) ho ek em hf h
theorem r_hd0 {f m own : Nat} {w : wW} {t0 t1 : wT} {T : List Nat} {F0 F : xF} {G0 G : xA} {x : Int32} {d : Nat} {Q : Int32 → xF → xA → Prop} (hr : rS f w t0 t1 T F0 G0 F G) (hT : T.length < 10) (ho : own ≤ 6) (ek : wF w f 0 = own) (em : wF w f 1 = m) (hf : f < 9) (h : ∀ F1 G1, rS f w t0 t1 (T ++ (12 :: fdT own)) F0 G0 F1 G1 → Q (hdB own f m x) F1 G1) : qX7_hidesAs_d (d + 1) (nI 0) x F G Q := ⟨fun _ => s7_begins (b := 12) hr (by omega) (fun F1 G1 h1 => s7_kind h1 hf ek (r_fd (d := 0) h1 (by simp; omega) ho ek em hf (fun F2 G2 h2 => s7_m h2 hf em (h F2 G2 (rS_as h2))))), fun c => absurd rfl c⟩
theorem r_hd1 {f m own : Nat} {w : wW} {t0 t1 : wT} {T : List Nat} {F0 F : xF} {G0 G : xA} {x : Int32} {d : Nat} {Q : Int32 → xF → xA → Prop} (hr : rS f w t0 t1 T F0 G0 F G) (hT : T.length < 9) (ho : own ≤ 6) (ek : wF w f 0 = own) (em : wF w f 1 = m) (hf : f < 9) (h : ∀ F1 G1, rS f w t0 t1 (T ++ (12 :: fdT own)) F0 G0 F1 G1 → Q (hdB own f m x) F1 G1) : qX7_hidesAs_d (d + 2) (nI 1) x F G Q := ⟨fun c => absurd c (by decide), fun _ => ⟨fun c => absurd c (by decide), fun _ => ⟨fun c => absurd c (by decide), fun _ => s7_above (k := 1) (by omega) (r_hd0 hr (by omega) ho ek em hf h)⟩⟩⟩
theorem r_hd2 {f m own : Nat} {w : wW} {t0 t1 : wT} {T : List Nat} {F0 F : xF} {G0 G : xA} {x : Int32} {d : Nat} {Q : Int32 → xF → xA → Prop} (hr : rS f w t0 t1 T F0 G0 F G) (hT : T.length < 9) (ho : own ≤ 6) (ek : wF w f 0 = own) (em : wF w f 1 = m) (hf : f < 9) (h : ∀ F1 G1, rS f w t0 t1 (T ++ (12 :: fdT own)) F0 G0 F1 G1 → Q (hdB own f m x) F1 G1) : qX7_hidesAs_d (d + 2) (nI 2) x F G Q := ⟨fun c => absurd c (by decide), fun _ => ⟨fun c => absurd c (by decide), fun _ => ⟨fun c => absurd c (by decide), fun _ => s7_above (k := 2) (by omega) (r_hd0 hr (by omega) ho ek em hf h)⟩⟩⟩
theorem r_hd6 {f m own : Nat} {w : wW} {t0 t1 : wT} {T : List Nat} {F0 F : xF} {G0 G : xA} {x : Int32} {d : Nat} {Q : Int32 → xF → xA → Prop} (hr : rS f w t0 t1 T F0 G0 F G) (hT : T.length < 9) (ho : own ≤ 6) (ek : wF w f 0 = own) (em : wF w f 1 = m) (hf : f < 9) (h : ∀ F1 G1, rS f w t0 t1 (T ++ (12 :: fdT own)) F0 G0 F1 G1 → Q (hdB own f m x) F1 G1) : qX7_hidesAs_d (d + 2) (nI 6) x F G Q := ⟨fun c => absurd c (by decide), fun _ => ⟨fun c => absurd c (by decide), fun _ => ⟨fun c => absurd c (by decide), fun _ => s7_above (k := 6) (by omega) (r_hd0 hr (by omega) ho ek em hf h)⟩⟩⟩
theorem r_hd3 {f m own : Nat} {w : wW} {t0 t1 : wT} {T : List Nat} {F0 F : xF} {G0 G : xA} {x : Int32} {d : Nat} {Q : Int32 → xF → xA → Prop} (hr : rS f w t0 t1 T F0 G0 F G) (hT : T.length < 9) (ho : own ≤ 6) (ek : wF w f 0 = own) (em : wF w f 1 = m) (hf : f < 9) (h : ∀ F1 G1, rS f w t0 t1 (T ++ (40 :: 12 :: fdT own)) F0 G0 F1 G1 → Q (hdB own f m (x / 2)) F1 G1) : qX7_hidesAs_d (d + 2) (nI 3) x F G Q := ⟨fun c => absurd c (by decide), fun _ => ⟨fun _ => s7_begins (b := 40) hr (by omega) (fun F1 G1 h1 => s7_above (k := 3) (by omega) (r_hd0 h1 (by simp; omega) ho ek em hf (fun F2 G2 h2 => h F2 G2 (rS_as h2)))), fun c => absurd rfl c⟩⟩
theorem r_hd4 {f m own : Nat} {w : wW} {t0 t1 : wT} {T : List Nat} {F0 F : xF} {G0 G : xA} {x : Int32} {d : Nat} {Q : Int32 → xF → xA → Prop} (hr : rS f w t0 t1 T F0 G0 F G) (hT : T.length < 8) (ho : own ≤ 6) (ek : wF w f 0 = own) (em : wF w f 1 = m) (hf : f < 9) (h : ∀ F1 G1, rS f w t0 t1 (T ++ (51 :: 12 :: fdT own)) F0 G0 F1 G1 → Q (hdB own f m x ^^^ nI f) F1 G1) : qX7_hidesAs_d (d + 3) (nI 4) x F G Q := ⟨fun c => absurd c (by decide), fun _ => ⟨fun c => absurd c (by decide), fun _ => ⟨fun _ => s7_begins (b := 51) hr (by omega) (fun F1 G1 h1 => s7_above (k := 4) (by omega) (r_hd1 h1 (by simp; omega) ho ek em hf (fun F2 G2 h2 => by rw [h2.1]; exact h F2 G2 (rS_as h2)))), fun c => absurd rfl c⟩⟩⟩
theorem r_hd5 {f m own : Nat} {w : wW} {t0 t1 : wT} {T : List Nat} {F0 F : xF} {G0 G : xA} {x : Int32} {d : Nat} {Q : Int32 → xF → xA → Prop} (hr : rS f w t0 t1 T F0 G0 F G) (hT : T.length < 8) (ho : own ≤ 6) (ek : wF w f 0 = own) (em : wF w f 1 = m) (hf : f < 9) (h : ∀ F1 G1, rS f w t0 t1 (T ++ (12 :: fdT own)) F0 G0 F1 G1 → Q (hdB own f m x) F1 G1) : qX7_hidesAs_d (d + 3) (nI 5) x F G Q := ⟨fun c => absurd c (by decide), fun _ => ⟨fun c => absurd c (by decide), fun _ => ⟨fun c => absurd c (by decide), fun _ => s7_above (k := 5) (by omega) (r_hd2 hr (by omega) ho ek em hf h)⟩⟩⟩
theorem r_hd {f m own : Nat} {w : wW} {t0 t1 : wT} {T : List Nat} {F0 F : xF} {G0 G : xA} {x : Int32} {d : Nat} {Q : Int32 → xF → xA → Prop} (hr : rS f w t0 t1 T F0 G0 F G) (hT : T.length < 6) (ho : own ≤ 6) (ek : wF w f 0 = own) (em : wF w f 1 = m) (hf : f < 9) (h : ∀ F1 G1, rS f w t0 t1 (T ++ hdT own) F0 G0 F1 G1 → Q (hdV own f m x) F1 G1) : qX7_hidesAs_d (d + 4) (nI own) x F G Q := by
  rcases (by omega : own = 0 ∨ own = 1 ∨ own = 2 ∨ own = 3 ∨ own = 4 ∨ own = 5 ∨ own = 6) with rfl | rfl | rfl | rfl | rfl | rfl | rfl
  · exact r_hd0 (d := d + 3) hr (by omega) ho ek em hf h
  · exact r_hd1 (d := d + 2) hr (by omega) ho ek em hf h
  · exact r_hd2 (d := d + 2) hr (by omega) ho ek em hf h
  · exact r_hd3 (d := d + 2) hr (by omega) ho ek em hf h
  · exact r_hd4 (d := d + 1) hr (by omega) ho ek em hf h
  · exact r_hd5 (d := d + 1) hr (by omega) ho ek em hf h
  · exact r_hd6 (d := d + 2) hr (by omega) ho ek em hf h
theorem r_pt0 {f m own : Nat} {w : wW} {t0 t1 : wT} {T : List Nat} {F0 F : xF} {G0 G : xA} {x : Int32} {d : Nat} {Q : Int32 → xF → xA → Prop} (hr : rS f w t0 t1 T F0 G0 F G) (hT : T.length < 10) (ho : own ≤ 6) (ek : wF w f 0 = own) (em : wF w f 1 = m) (hf : f < 9) (hm : m ≤ 9) (h : (m ≠ f → ∀ F1 G1, rS f w t0 t1 (T ++ [13]) F0 G0 F1 G1 → Q (x / (nI m - nI f)) F1 G1)) (hz : m = f → ∀ F1 G1, rZ f w t0 t1 (T ++ [13]) F0 G0 F1 G1 → Q 0 F1 G1) : qX7_partsAs_d (d + 1) (nI 0) x F G Q := by
  refine ⟨fun _ => s7_begins (b := 13) hr (by omega) (fun F1 G1 h1 => s7_m h1 hf em ?_), fun c => absurd rfl c⟩
  rw [h1.1]
  by_cases e : m = f
  · refine ⟨fun c => absurd (by rw [e]; exact Int32.sub_self _) c, fun _ => ⟨Or.inr rfl, fun F2 e2 => ⟨fun c => absurd (by rw [e]; exact Int32.sub_self _) c, fun _ => hz e F2 G1 ?_⟩⟩⟩
    rw [e2]; exact rS_part h1
  · have n0 : ¬ nI m - nI f = 0 := fun c => e (sub_z hm hf c)
    refine ⟨fun _ => ⟨Or.inl rfl, fun F2 e2 => ⟨fun _ => ⟨fun _ => ⟨n0, ?_⟩, fun c => ?_⟩, fun c => absurd c n0⟩⟩, fun c => absurd c n0⟩
    · exact h e F2 G1 (by rw [e2]; exact rS_8 h1)
    · have := h e F2 G1 (by rw [e2]; exact rS_8 h1)
      rw [c, div_m1] at this
      exact this
theorem r_pt1 {f m own : Nat} {w : wW} {t0 t1 : wT} {T : List Nat} {F0 F : xF} {G0 G : xA} {x : Int32} {d : Nat} {Q : Int32 → xF → xA → Prop} (hr : rS f w t0 t1 T F0 G0 F G) (hT : T.length < 8) (ho : own ≤ 6) (ek : wF w f 0 = own) (em : wF w f 1 = m) (hf : f < 9) (hm : m ≤ 9) (h : (m ≠ f → ∀ F1 G1, rS f w t0 t1 (T ++ (21 :: 13 :: fdT own)) F0 G0 F1 G1 → Q (x / (nI m - nI f) + fdV own f m 1) F1 G1)) (hz : m = f → ∀ F1 G1, rZ f w t0 t1 (T ++ [21, 13]) F0 G0 F1 G1 → Q 0 F1 G1) : qX7_partsAs_d (d + 2) (nI 1) x F G Q := by
  refine ⟨fun c => absurd c (by decide), fun _ => ⟨fun _ => s7_begins (b := 21) hr (by omega) (fun F1 G1 h1 => s7_above (k := 1) (by omega) (r_pt0 h1 (by simp; omega) ho ek em hf hm (fun e F2 G2 h2 => ?_) (fun e F2 G2 h2 => ?_))), fun c => absurd rfl c⟩⟩
  · refine ⟨fun _ => s7_kind h2 hf ek (r_fd (d := 0) h2 (by simp; omega) ho ek em hf (fun F3 G3 h3 => h e F3 G3 (rS_as (rS_as h3)))), fun c => absurd h2.2.1 c⟩
  · refine ⟨fun c => absurd (h2.2.1.symm.trans c) (by decide), fun _ => hz e F2 G2 (rZ_as h2)⟩
theorem r_pt2 {f m own : Nat} {w : wW} {t0 t1 : wT} {T : List Nat} {F0 F : xF} {G0 G : xA} {x : Int32} {d : Nat} {Q : Int32 → xF → xA → Prop} (hr : rS f w t0 t1 T F0 G0 F G) (hT : T.length < 8) (ho : own ≤ 6) (ek : wF w f 0 = own) (em : wF w f 1 = m) (hf : f < 9) (hm : m ≤ 9) (h : (m ≠ f → ∀ F1 G1, rS f w t0 t1 (T ++ [13]) F0 G0 F1 G1 → Q (x / (nI m - nI f)) F1 G1)) (hz : m = f → ∀ F1 G1, rZ f w t0 t1 (T ++ [13]) F0 G0 F1 G1 → Q 0 F1 G1) : qX7_partsAs_d (d + 2) (nI 2) x F G Q := ⟨fun c => absurd c (by decide), fun _ => ⟨fun c => absurd c (by decide), fun _ => s7_above (k := 2) (by omega) (r_pt0 hr (by omega) ho ek em hf hm h hz)⟩⟩
theorem r_pt3 {f m own : Nat} {w : wW} {t0 t1 : wT} {T : List Nat} {F0 F : xF} {G0 G : xA} {x : Int32} {d : Nat} {Q : Int32 → xF → xA → Prop} (hr : rS f w t0 t1 T F0 G0 F G) (hT : T.length < 8) (ho : own ≤ 6) (ek : wF w f 0 = own) (em : wF w f 1 = m) (hf : f < 9) (hm : m ≤ 9) (h : (m ≠ f → ∀ F1 G1, rS f w t0 t1 (T ++ [13]) F0 G0 F1 G1 → Q (x / (nI m - nI f)) F1 G1)) (hz : m = f → ∀ F1 G1, rZ f w t0 t1 (T ++ [13]) F0 G0 F1 G1 → Q 0 F1 G1) : qX7_partsAs_d (d + 2) (nI 3) x F G Q := ⟨fun c => absurd c (by decide), fun _ => ⟨fun c => absurd c (by decide), fun _ => s7_above (k := 3) (by omega) (r_pt0 hr (by omega) ho ek em hf hm h hz)⟩⟩
theorem r_pt6 {f m own : Nat} {w : wW} {t0 t1 : wT} {T : List Nat} {F0 F : xF} {G0 G : xA} {x : Int32} {d : Nat} {Q : Int32 → xF → xA → Prop} (hr : rS f w t0 t1 T F0 G0 F G) (hT : T.length < 8) (ho : own ≤ 6) (ek : wF w f 0 = own) (em : wF w f 1 = m) (hf : f < 9) (hm : m ≤ 9) (h : (m ≠ f → ∀ F1 G1, rS f w t0 t1 (T ++ [13]) F0 G0 F1 G1 → Q (x / (nI m - nI f)) F1 G1)) (hz : m = f → ∀ F1 G1, rZ f w t0 t1 (T ++ [13]) F0 G0 F1 G1 → Q 0 F1 G1) : qX7_partsAs_d (d + 2) (nI 6) x F G Q := ⟨fun c => absurd c (by decide), fun _ => ⟨fun c => absurd c (by decide), fun _ => s7_above (k := 6) (by omega) (r_pt0 hr (by omega) ho ek em hf hm h hz)⟩⟩
theorem r_pt4 {f m own : Nat} {w : wW} {t0 t1 : wT} {T : List Nat} {F0 F : xF} {G0 G : xA} {x : Int32} {d : Nat} {Q : Int32 → xF → xA → Prop} (hr : rS f w t0 t1 T F0 G0 F G) (hT : T.length < 7) (ho : own ≤ 6) (ek : wF w f 0 = own) (em : wF w f 1 = m) (hf : f < 9) (hm : m ≤ 9) (h : (m ≠ f → ∀ F1 G1, rS f w t0 t1 (T ++ (21 :: 13 :: fdT own)) F0 G0 F1 G1 → Q (x / (nI m - nI f) + fdV own f m 1) F1 G1)) (hz : m = f → ∀ F1 G1, rZ f w t0 t1 (T ++ [21, 13]) F0 G0 F1 G1 → Q 0 F1 G1) : qX7_partsAs_d (d + 3) (nI 4) x F G Q := ⟨fun c => absurd c (by decide), fun _ => ⟨fun c => absurd c (by decide), fun _ => s7_above (k := 4) (by omega) (r_pt1 hr (by omega) ho ek em hf hm h hz)⟩⟩
theorem r_pt5 {f m own : Nat} {w : wW} {t0 t1 : wT} {T : List Nat} {F0 F : xF} {G0 G : xA} {x : Int32} {d : Nat} {Q : Int32 → xF → xA → Prop} (hr : rS f w t0 t1 T F0 G0 F G) (hT : T.length < 7) (ho : own ≤ 6) (ek : wF w f 0 = own) (em : wF w f 1 = m) (hf : f < 9) (hm : m ≤ 9) (h : (m ≠ f → ∀ F1 G1, rS f w t0 t1 (T ++ [13]) F0 G0 F1 G1 → Q (x / (nI m - nI f)) F1 G1)) (hz : m = f → ∀ F1 G1, rZ f w t0 t1 (T ++ [13]) F0 G0 F1 G1 → Q 0 F1 G1) : qX7_partsAs_d (d + 3) (nI 5) x F G Q := ⟨fun c => absurd c (by decide), fun _ => ⟨fun c => absurd c (by decide), fun _ => s7_above (k := 5) (by omega) (r_pt2 hr (by omega) ho ek em hf hm h hz)⟩⟩
theorem r_pt {f m own : Nat} {w : wW} {t0 t1 : wT} {T : List Nat} {F0 F : xF} {G0 G : xA} {x : Int32} {d : Nat} {Q : Int32 → xF → xA → Prop} (hr : rS f w t0 t1 T F0 G0 F G) (hT : T.length < 6) (ho : own ≤ 6) (ek : wF w f 0 = own) (em : wF w f 1 = m) (hf : f < 9) (hm : m ≤ 9) (h : m ≠ f → ∀ F1 G1, rS f w t0 t1 (T ++ ptT own) F0 G0 F1 G1 → Q (ptV own f m x) F1 G1) (hz : m = f → ∀ F1 G1, rZ f w t0 t1 (T ++ ptZ own) F0 G0 F1 G1 → Q 0 F1 G1) : qX7_partsAs_d (d + 4) (nI own) x F G Q := by
  rcases (by omega : own = 0 ∨ own = 1 ∨ own = 2 ∨ own = 3 ∨ own = 4 ∨ own = 5 ∨ own = 6) with rfl | rfl | rfl | rfl | rfl | rfl | rfl
  · exact r_pt0 (d := d + 3) hr (by omega) ho ek em hf hm h hz
  · exact r_pt1 (d := d + 2) hr (by omega) ho ek em hf hm h hz
  · exact r_pt2 (d := d + 2) hr (by omega) ho ek em hf hm h hz
  · exact r_pt3 (d := d + 2) hr (by omega) ho ek em hf hm h hz
  · exact r_pt4 (d := d + 1) hr (by omega) ho ek em hf hm h hz
  · exact r_pt5 (d := d + 1) hr (by omega) ho ek em hf hm h hz
  · exact r_pt6 (d := d + 2) hr (by omega) ho ek em hf hm h hz
/-! the class's voices -/
theorem fb_0_0 {W : Int32 → Int32 → Int32 → Int32 → xF → xA → (Int32 → xF → xA → Prop) → Prop} {x e : Int32} {F : xF} {G : xA} {Q : Int32 → xF → xA → Prop} (h : W (nI 10) (nI 0) x e F G Q) : qX4_from W (nI 0) (nI 0) x e F G Q := by
  refine ⟨8, ?_⟩
  exact fb_at (k := 0) (v := 0) (b := 10) (s := 0) (by decide) (by decide) (by decide) rfl h
theorem fb_0_1 {W : Int32 → Int32 → Int32 → Int32 → xF → xA → (Int32 → xF → xA → Prop) → Prop} {x e : Int32} {F : xF} {G : xA} {Q : Int32 → xF → xA → Prop} (h : W (nI 11) (nI 0) x e F G Q) : qX4_from W (nI 0) (nI 1) x e F G Q := by
  refine ⟨8, ?_⟩
  exact fb_at (k := 0) (v := 1) (b := 11) (s := 0) (by decide) (by decide) (by decide) rfl h
theorem fb_0_2 {W : Int32 → Int32 → Int32 → Int32 → xF → xA → (Int32 → xF → xA → Prop) → Prop} {x e : Int32} {F : xF} {G : xA} {Q : Int32 → xF → xA → Prop} (h : W (nI 12) (nI 0) x e F G Q) : qX4_from W (nI 0) (nI 2) x e F G Q := by
  refine ⟨8, ?_⟩
  exact fb_at (k := 0) (v := 2) (b := 12) (s := 0) (by decide) (by decide) (by decide) rfl h
theorem fb_0_3 {W : Int32 → Int32 → Int32 → Int32 → xF → xA → (Int32 → xF → xA → Prop) → Prop} {x e : Int32} {F : xF} {G : xA} {Q : Int32 → xF → xA → Prop} (h : W (nI 13) (nI 0) x e F G Q) : qX4_from W (nI 0) (nI 3) x e F G Q := by
  refine ⟨8, ?_⟩
  exact fb_at (k := 0) (v := 3) (b := 13) (s := 0) (by decide) (by decide) (by decide) rfl h
theorem fb_1_0 {W : Int32 → Int32 → Int32 → Int32 → xF → xA → (Int32 → xF → xA → Prop) → Prop} {x e : Int32} {F : xF} {G : xA} {Q : Int32 → xF → xA → Prop} (h : W (nI 20) (nI 1) x e F G Q) : qX4_from W (nI 1) (nI 0) x e F G Q := by
  refine ⟨8, ?_⟩
  exact fb_at (k := 1) (v := 0) (b := 20) (s := 0) (by decide) (by decide) (by decide) rfl h
theorem fb_1_1 {W : Int32 → Int32 → Int32 → Int32 → xF → xA → (Int32 → xF → xA → Prop) → Prop} {x e : Int32} {F : xF} {G : xA} {Q : Int32 → xF → xA → Prop} (h : W (nI 11) (nI 0) x e F G Q) : qX4_from W (nI 1) (nI 1) x e F G Q := by
  refine ⟨8, ?_⟩
  refine fb_up (k := 1) (v := 1) (u := 0) (s := 0) (by decide) (by decide) (by decide) rfl rfl ?_
  exact fb_at (k := 0) (v := 1) (b := 11) (s := 1) (by decide) (by decide) (by decide) rfl h
theorem fb_1_2 {W : Int32 → Int32 → Int32 → Int32 → xF → xA → (Int32 → xF → xA → Prop) → Prop} {x e : Int32} {F : xF} {G : xA} {Q : Int32 → xF → xA → Prop} (h : W (nI 12) (nI 0) x e F G Q) : qX4_from W (nI 1) (nI 2) x e F G Q := by
  refine ⟨8, ?_⟩
  refine fb_up (k := 1) (v := 2) (u := 0) (s := 0) (by decide) (by decide) (by decide) rfl rfl ?_
  exact fb_at (k := 0) (v := 2) (b := 12) (s := 1) (by decide) (by decide) (by decide) rfl h
theorem fb_1_3 {W : Int32 → Int32 → Int32 → Int32 → xF → xA → (Int32 → xF → xA → Prop) → Prop} {x e : Int32} {F : xF} {G : xA} {Q : Int32 → xF → xA → Prop} (h : W (nI 21) (nI 1) x e F G Q) : qX4_from W (nI 1) (nI 3) x e F G Q := by
  refine ⟨8, ?_⟩
  exact fb_at (k := 1) (v := 3) (b := 21) (s := 0) (by decide) (by decide) (by decide) rfl h
theorem fb_2_0 {W : Int32 → Int32 → Int32 → Int32 → xF → xA → (Int32 → xF → xA → Prop) → Prop} {x e : Int32} {F : xF} {G : xA} {Q : Int32 → xF → xA → Prop} (h : W (nI 10) (nI 0) x e F G Q) : qX4_from W (nI 2) (nI 0) x e F G Q := by
  refine ⟨8, ?_⟩
  refine fb_up (k := 2) (v := 0) (u := 0) (s := 0) (by decide) (by decide) (by decide) rfl rfl ?_
  exact fb_at (k := 0) (v := 0) (b := 10) (s := 1) (by decide) (by decide) (by decide) rfl h
theorem fb_2_1 {W : Int32 → Int32 → Int32 → Int32 → xF → xA → (Int32 → xF → xA → Prop) → Prop} {x e : Int32} {F : xF} {G : xA} {Q : Int32 → xF → xA → Prop} (h : W (nI 30) (nI 2) x e F G Q) : qX4_from W (nI 2) (nI 1) x e F G Q := by
  refine ⟨8, ?_⟩
  exact fb_at (k := 2) (v := 1) (b := 30) (s := 0) (by decide) (by decide) (by decide) rfl h
theorem fb_2_2 {W : Int32 → Int32 → Int32 → Int32 → xF → xA → (Int32 → xF → xA → Prop) → Prop} {x e : Int32} {F : xF} {G : xA} {Q : Int32 → xF → xA → Prop} (h : W (nI 12) (nI 0) x e F G Q) : qX4_from W (nI 2) (nI 2) x e F G Q := by
  refine ⟨8, ?_⟩
  refine fb_up (k := 2) (v := 2) (u := 0) (s := 0) (by decide) (by decide) (by decide) rfl rfl ?_
  exact fb_at (k := 0) (v := 2) (b := 12) (s := 1) (by decide) (by decide) (by decide) rfl h
theorem fb_2_3 {W : Int32 → Int32 → Int32 → Int32 → xF → xA → (Int32 → xF → xA → Prop) → Prop} {x e : Int32} {F : xF} {G : xA} {Q : Int32 → xF → xA → Prop} (h : W (nI 13) (nI 0) x e F G Q) : qX4_from W (nI 2) (nI 3) x e F G Q := by
  refine ⟨8, ?_⟩
  refine fb_up (k := 2) (v := 3) (u := 0) (s := 0) (by decide) (by decide) (by decide) rfl rfl ?_
  exact fb_at (k := 0) (v := 3) (b := 13) (s := 1) (by decide) (by decide) (by decide) rfl h
theorem fb_3_0 {W : Int32 → Int32 → Int32 → Int32 → xF → xA → (Int32 → xF → xA → Prop) → Prop} {x e : Int32} {F : xF} {G : xA} {Q : Int32 → xF → xA → Prop} (h : W (nI 10) (nI 0) x e F G Q) : qX4_from W (nI 3) (nI 0) x e F G Q := by
  refine ⟨8, ?_⟩
  refine fb_up (k := 3) (v := 0) (u := 0) (s := 0) (by decide) (by decide) (by decide) rfl rfl ?_
  exact fb_at (k := 0) (v := 0) (b := 10) (s := 1) (by decide) (by decide) (by decide) rfl h
theorem fb_3_1 {W : Int32 → Int32 → Int32 → Int32 → xF → xA → (Int32 → xF → xA → Prop) → Prop} {x e : Int32} {F : xF} {G : xA} {Q : Int32 → xF → xA → Prop} (h : W (nI 11) (nI 0) x e F G Q) : qX4_from W (nI 3) (nI 1) x e F G Q := by
  refine ⟨8, ?_⟩
  refine fb_up (k := 3) (v := 1) (u := 0) (s := 0) (by decide) (by decide) (by decide) rfl rfl ?_
  exact fb_at (k := 0) (v := 1) (b := 11) (s := 1) (by decide) (by decide) (by decide) rfl h
theorem fb_3_2 {W : Int32 → Int32 → Int32 → Int32 → xF → xA → (Int32 → xF → xA → Prop) → Prop} {x e : Int32} {F : xF} {G : xA} {Q : Int32 → xF → xA → Prop} (h : W (nI 40) (nI 3) x e F G Q) : qX4_from W (nI 3) (nI 2) x e F G Q := by
  refine ⟨8, ?_⟩
  exact fb_at (k := 3) (v := 2) (b := 40) (s := 0) (by decide) (by decide) (by decide) rfl h
theorem fb_3_3 {W : Int32 → Int32 → Int32 → Int32 → xF → xA → (Int32 → xF → xA → Prop) → Prop} {x e : Int32} {F : xF} {G : xA} {Q : Int32 → xF → xA → Prop} (h : W (nI 13) (nI 0) x e F G Q) : qX4_from W (nI 3) (nI 3) x e F G Q := by
  refine ⟨8, ?_⟩
  refine fb_up (k := 3) (v := 3) (u := 0) (s := 0) (by decide) (by decide) (by decide) rfl rfl ?_
  exact fb_at (k := 0) (v := 3) (b := 13) (s := 1) (by decide) (by decide) (by decide) rfl h
theorem fb_4_0 {W : Int32 → Int32 → Int32 → Int32 → xF → xA → (Int32 → xF → xA → Prop) → Prop} {x e : Int32} {F : xF} {G : xA} {Q : Int32 → xF → xA → Prop} (h : W (nI 50) (nI 4) x e F G Q) : qX4_from W (nI 4) (nI 0) x e F G Q := by
  refine ⟨8, ?_⟩
  exact fb_at (k := 4) (v := 0) (b := 50) (s := 0) (by decide) (by decide) (by decide) rfl h
theorem fb_4_1 {W : Int32 → Int32 → Int32 → Int32 → xF → xA → (Int32 → xF → xA → Prop) → Prop} {x e : Int32} {F : xF} {G : xA} {Q : Int32 → xF → xA → Prop} (h : W (nI 11) (nI 0) x e F G Q) : qX4_from W (nI 4) (nI 1) x e F G Q := by
  refine ⟨8, ?_⟩
  refine fb_up (k := 4) (v := 1) (u := 1) (s := 0) (by decide) (by decide) (by decide) rfl rfl ?_
  refine fb_up (k := 1) (v := 1) (u := 0) (s := 1) (by decide) (by decide) (by decide) rfl rfl ?_
  exact fb_at (k := 0) (v := 1) (b := 11) (s := 2) (by decide) (by decide) (by decide) rfl h
theorem fb_4_2 {W : Int32 → Int32 → Int32 → Int32 → xF → xA → (Int32 → xF → xA → Prop) → Prop} {x e : Int32} {F : xF} {G : xA} {Q : Int32 → xF → xA → Prop} (h : W (nI 51) (nI 4) x e F G Q) : qX4_from W (nI 4) (nI 2) x e F G Q := by
  refine ⟨8, ?_⟩
  exact fb_at (k := 4) (v := 2) (b := 51) (s := 0) (by decide) (by decide) (by decide) rfl h
theorem fb_4_3 {W : Int32 → Int32 → Int32 → Int32 → xF → xA → (Int32 → xF → xA → Prop) → Prop} {x e : Int32} {F : xF} {G : xA} {Q : Int32 → xF → xA → Prop} (h : W (nI 21) (nI 1) x e F G Q) : qX4_from W (nI 4) (nI 3) x e F G Q := by
  refine ⟨8, ?_⟩
  refine fb_up (k := 4) (v := 3) (u := 1) (s := 0) (by decide) (by decide) (by decide) rfl rfl ?_
  exact fb_at (k := 1) (v := 3) (b := 21) (s := 1) (by decide) (by decide) (by decide) rfl h
theorem fb_5_0 {W : Int32 → Int32 → Int32 → Int32 → xF → xA → (Int32 → xF → xA → Prop) → Prop} {x e : Int32} {F : xF} {G : xA} {Q : Int32 → xF → xA → Prop} (h : W (nI 10) (nI 0) x e F G Q) : qX4_from W (nI 5) (nI 0) x e F G Q := by
  refine ⟨8, ?_⟩
  refine fb_up (k := 5) (v := 0) (u := 2) (s := 0) (by decide) (by decide) (by decide) rfl rfl ?_
  refine fb_up (k := 2) (v := 0) (u := 0) (s := 1) (by decide) (by decide) (by decide) rfl rfl ?_
  exact fb_at (k := 0) (v := 0) (b := 10) (s := 2) (by decide) (by decide) (by decide) rfl h
theorem fb_5_1 {W : Int32 → Int32 → Int32 → Int32 → xF → xA → (Int32 → xF → xA → Prop) → Prop} {x e : Int32} {F : xF} {G : xA} {Q : Int32 → xF → xA → Prop} (h : W (nI 60) (nI 5) x e F G Q) : qX4_from W (nI 5) (nI 1) x e F G Q := by
  refine ⟨8, ?_⟩
  exact fb_at (k := 5) (v := 1) (b := 60) (s := 0) (by decide) (by decide) (by decide) rfl h
theorem fb_5_2 {W : Int32 → Int32 → Int32 → Int32 → xF → xA → (Int32 → xF → xA → Prop) → Prop} {x e : Int32} {F : xF} {G : xA} {Q : Int32 → xF → xA → Prop} (h : W (nI 12) (nI 0) x e F G Q) : qX4_from W (nI 5) (nI 2) x e F G Q := by
  refine ⟨8, ?_⟩
  refine fb_up (k := 5) (v := 2) (u := 2) (s := 0) (by decide) (by decide) (by decide) rfl rfl ?_
  refine fb_up (k := 2) (v := 2) (u := 0) (s := 1) (by decide) (by decide) (by decide) rfl rfl ?_
  exact fb_at (k := 0) (v := 2) (b := 12) (s := 2) (by decide) (by decide) (by decide) rfl h
theorem fb_5_3 {W : Int32 → Int32 → Int32 → Int32 → xF → xA → (Int32 → xF → xA → Prop) → Prop} {x e : Int32} {F : xF} {G : xA} {Q : Int32 → xF → xA → Prop} (h : W (nI 13) (nI 0) x e F G Q) : qX4_from W (nI 5) (nI 3) x e F G Q := by
  refine ⟨8, ?_⟩
  refine fb_up (k := 5) (v := 3) (u := 2) (s := 0) (by decide) (by decide) (by decide) rfl rfl ?_
  refine fb_up (k := 2) (v := 3) (u := 0) (s := 1) (by decide) (by decide) (by decide) rfl rfl ?_
  exact fb_at (k := 0) (v := 3) (b := 13) (s := 2) (by decide) (by decide) (by decide) rfl h
theorem fb_6_0 {W : Int32 → Int32 → Int32 → Int32 → xF → xA → (Int32 → xF → xA → Prop) → Prop} {x e : Int32} {F : xF} {G : xA} {Q : Int32 → xF → xA → Prop} (h : W (nI 70) (nI 6) x e F G Q) : qX4_from W (nI 6) (nI 0) x e F G Q := by
  refine ⟨8, ?_⟩
  exact fb_at (k := 6) (v := 0) (b := 70) (s := 0) (by decide) (by decide) (by decide) rfl h
theorem fb_6_1 {W : Int32 → Int32 → Int32 → Int32 → xF → xA → (Int32 → xF → xA → Prop) → Prop} {x e : Int32} {F : xF} {G : xA} {Q : Int32 → xF → xA → Prop} (h : W (nI 71) (nI 6) x e F G Q) : qX4_from W (nI 6) (nI 1) x e F G Q := by
  refine ⟨8, ?_⟩
  exact fb_at (k := 6) (v := 1) (b := 71) (s := 0) (by decide) (by decide) (by decide) rfl h
theorem fb_6_2 {W : Int32 → Int32 → Int32 → Int32 → xF → xA → (Int32 → xF → xA → Prop) → Prop} {x e : Int32} {F : xF} {G : xA} {Q : Int32 → xF → xA → Prop} (h : W (nI 12) (nI 0) x e F G Q) : qX4_from W (nI 6) (nI 2) x e F G Q := by
  refine ⟨8, ?_⟩
  refine fb_up (k := 6) (v := 2) (u := 0) (s := 0) (by decide) (by decide) (by decide) rfl rfl ?_
  exact fb_at (k := 0) (v := 2) (b := 12) (s := 1) (by decide) (by decide) (by decide) rfl h
theorem fb_6_3 {W : Int32 → Int32 → Int32 → Int32 → xF → xA → (Int32 → xF → xA → Prop) → Prop} {x e : Int32} {F : xF} {G : xA} {Q : Int32 → xF → xA → Prop} (h : W (nI 13) (nI 0) x e F G Q) : qX4_from W (nI 6) (nI 3) x e F G Q := by
  refine ⟨8, ?_⟩
  refine fb_up (k := 6) (v := 3) (u := 0) (s := 0) (by decide) (by decide) (by decide) rfl rfl ?_
  exact fb_at (k := 0) (v := 3) (b := 13) (s := 1) (by decide) (by decide) (by decide) rfl h
theorem wb_10 {f m own dep d : Nat} {T : List Nat} {F : xF} {G : xA} {x : Int32} {Q : Int32 → xF → xA → Prop} (hs : vS f m own T F G) (ho : own ≤ 6) (hd : dep ≤ 20) (hT : T.length < 24) (h : ∀ F1 G1, vS f m own (T ++ [10]) F1 G1 → Q (x + nI f) F1 G1) : qX4_workedOut (qX4_own (qX4_from_d (d + 0))) (qX4_above (qX4_from_d (d + 0))) (nI 10) (nI 0) x (nI dep) F G Q := wo_st (b := 10) hs (by omega) (by omega) (fun E1 H1 h1 => ⟨fun _ => by rw [h1.2.1]; exact h E1 H1 h1, fun c => absurd rfl c⟩)
theorem wb_20 {f m own dep d : Nat} {T : List Nat} {F : xF} {G : xA} {x : Int32} {Q : Int32 → xF → xA → Prop} (hs : vS f m own T F G) (ho : own ≤ 6) (hd : dep ≤ 19) (hT : T.length < 20) (h : ∀ F1 G1, vS f m own (T ++ [20, 10]) F1 G1 → Q (x + nI f - 4) F1 G1) : qX4_workedOut (qX4_own (qX4_from_d (d + 1))) (qX4_above (qX4_from_d (d + 1))) (nI 20) (nI 1) x (nI dep) F G Q := wo_st (b := 20) hs (by omega) (by omega) (fun E1 H1 h1 => ⟨fun c => absurd c (by decide), fun _ => ⟨fun c => absurd c (by decide), fun _ => ⟨fun c => absurd c (by decide), fun _ => ⟨fun c => absurd c (by decide), fun _ => ⟨fun _ => ⟨xvin (k := 1) (by decide) (by decide), by rw [show nI dep + (1 : Int32) = nI (dep + 1) from nI_1 dep, show xt_above.getD (nI 1).toNatClampNeg 0 = nI 0 from rfl]; exact fb_0_0 (wb_10 h1 ho (by omega) (by simp; omega) (fun F2 G2 h2 => h F2 G2 (vS_as h2)))⟩, fun c => absurd rfl c⟩⟩⟩⟩⟩)
theorem wb_50 {f m own dep d : Nat} {T : List Nat} {F : xF} {G : xA} {x : Int32} {Q : Int32 → xF → xA → Prop} (hs : vS f m own T F G) (ho : own ≤ 6) (hd : dep ≤ 18) (hT : T.length < 18) (h : ∀ F1 G1, vS f m own (T ++ [50, 20, 10]) F1 G1 → Q ((x + nI f - 4) * 3) F1 G1) : qX4_workedOut (qX4_own (qX4_from_d (d + 2))) (qX4_above (qX4_from_d (d + 2))) (nI 50) (nI 4) x (nI dep) F G Q := wo_st (b := 50) hs (by omega) (by omega) (fun E1 H1 h1 => ⟨fun c => absurd c (by decide), fun _ => ⟨fun c => absurd c (by decide), fun _ => ⟨fun c => absurd c (by decide), fun _ => ⟨fun c => absurd c (by decide), fun _ => ⟨fun c => absurd c (by decide), fun _ => ⟨fun c => absurd c (by decide), fun _ => ⟨fun c => absurd c (by decide), fun _ => ⟨fun c => absurd c (by decide), fun _ => ⟨fun _ => ⟨xvin (k := 4) (by decide) (by decide), by rw [show nI dep + (1 : Int32) = nI (dep + 1) from nI_1 dep, show xt_above.getD (nI 4).toNatClampNeg 0 = nI 1 from rfl]; exact fb_1_0 (wb_20 h1 ho (by omega) (by simp; omega) (fun F2 G2 h2 => h F2 G2 (vS_as h2)))⟩, fun c => absurd rfl c⟩⟩⟩⟩⟩⟩⟩⟩⟩)
theorem wb_70 {f m own dep d : Nat} {T : List Nat} {F : xF} {G : xA} {x : Int32} {Q : Int32 → xF → xA → Prop} (hs : vS f m own T F G) (ho : own ≤ 6) (hd : dep ≤ 20) (hT : T.length < 24) (h : ∀ F1 G1, vS f m own (T ++ [70]) F1 G1 → Q (9) F1 G1) : qX4_workedOut (qX4_own (qX4_from_d (d + 0))) (qX4_above (qX4_from_d (d + 0))) (nI 70) (nI 6) x (nI dep) F G Q := wo_st (b := 70) hs (by omega) (by omega) (fun E1 H1 h1 => ⟨fun c => absurd c (by decide), fun _ => ⟨fun c => absurd c (by decide), fun _ => ⟨fun c => absurd c (by decide), fun _ => ⟨fun c => absurd c (by decide), fun _ => ⟨fun c => absurd c (by decide), fun _ => ⟨fun c => absurd c (by decide), fun _ => ⟨fun c => absurd c (by decide), fun _ => ⟨fun c => absurd c (by decide), fun _ => ⟨fun c => absurd c (by decide), fun _ => ⟨fun c => absurd c (by decide), fun _ => ⟨fun c => absurd c (by decide), fun _ => ⟨fun _ => h E1 H1 h1, fun c => absurd rfl c⟩⟩⟩⟩⟩⟩⟩⟩⟩⟩⟩⟩)
theorem v_ld {f m own dep d : Nat} {T : List Nat} {F : xF} {G : xA} {x : Int32} {Q : Int32 → xF → xA → Prop} (hs : vS f m own T F G) (ho : own ≤ 6) (hd : dep ≤ 18) (hT : T.length < 18) (h : ∀ F1 G1, vS f m own (T ++ ldT own) F1 G1 → Q (ldV own f x) F1 G1) : qX4_from_d (d + 3) (nI own) (nI 0) x (nI dep) F G Q := by
  rcases (by omega : own = 0 ∨ own = 1 ∨ own = 2 ∨ own = 3 ∨ own = 4 ∨ own = 5 ∨ own = 6) with rfl | rfl | rfl | rfl | rfl | rfl | rfl
  · exact fb_0_0 (wb_10 (d := d + 2) hs ho (by omega) (by omega) h)
  · exact fb_1_0 (wb_20 (d := d + 1) hs ho (by omega) (by omega) h)
  · exact fb_2_0 (wb_10 (d := d + 2) hs ho (by omega) (by omega) h)
  · exact fb_3_0 (wb_10 (d := d + 2) hs ho (by omega) (by omega) h)
  · exact fb_4_0 (wb_50 (d := d) hs ho (by omega) (by omega) h)
  · exact fb_5_0 (wb_10 (d := d + 2) hs ho (by omega) (by omega) h)
  · exact fb_6_0 (wb_70 (d := d + 2) hs ho (by omega) (by omega) h)
theorem wb_11 {f m own dep d : Nat} {T : List Nat} {F : xF} {G : xA} {x : Int32} {Q : Int32 → xF → xA → Prop} (hs : vS f m own T F G) (ho : own ≤ 6) (hd : dep ≤ 15) (hT : T.length < 16) (h : ∀ F1 G1, vS f m own (T ++ (11 :: ldT own)) F1 G1 → Q (vfB own f x) F1 G1) : qX4_workedOut (qX4_own (qX4_from_d (d + 3))) (qX4_above (qX4_from_d (d + 3))) (nI 11) (nI 0) x (nI dep) F G Q := wo_st (b := 11) hs (by omega) (by omega) (fun E1 H1 h1 => ⟨fun c => absurd c (by decide), fun _ => ⟨fun _ => (show qX4_from_d _ (E1 3) _ _ (nI dep + 1) E1 H1 _ from by rw [h1.2.2.2.1, show nI dep + (1 : Int32) = nI (dep + 1) from nI_1 dep]; exact v_ld (d := d) h1 ho (by omega) (by simp; omega) (fun F2 G2 h2 => h F2 G2 (vS_as h2))), fun c => absurd rfl c⟩⟩)
theorem wb_30 {f m own dep d : Nat} {T : List Nat} {F : xF} {G : xA} {x : Int32} {Q : Int32 → xF → xA → Prop} (hs : vS f m own T F G) (ho : own ≤ 6) (hd : dep ≤ 12) (hT : T.length < 14) (h : ∀ F1 G1, vS f m own (T ++ (30 :: 11 :: ldT own)) F1 G1 → Q (0 - vfB own f x) F1 G1) : qX4_workedOut (qX4_own (qX4_from_d (d + 4))) (qX4_above (qX4_from_d (d + 4))) (nI 30) (nI 2) x (nI dep) F G Q := wo_st (b := 30) hs (by omega) (by omega) (fun E1 H1 h1 => ⟨fun c => absurd c (by decide), fun _ => ⟨fun c => absurd c (by decide), fun _ => ⟨fun c => absurd c (by decide), fun _ => ⟨fun c => absurd c (by decide), fun _ => ⟨fun c => absurd c (by decide), fun _ => ⟨fun c => absurd c (by decide), fun _ => ⟨fun _ => ⟨xvin (k := 2) (by decide) (by decide), by rw [show nI dep + (1 : Int32) = nI (dep + 1) from nI_1 dep, show xt_above.getD (nI 2).toNatClampNeg 0 = nI 0 from rfl]; exact fb_0_1 (wb_11 h1 ho (by omega) (by simp; omega) (fun F2 G2 h2 => h F2 G2 (vS_as h2)))⟩, fun c => absurd rfl c⟩⟩⟩⟩⟩⟩⟩)
theorem wb_60 {f m own dep d : Nat} {T : List Nat} {F : xF} {G : xA} {x : Int32} {Q : Int32 → xF → xA → Prop} (hs : vS f m own T F G) (ho : own ≤ 6) (hd : dep ≤ 11) (hT : T.length < 12) (h : ∀ F1 G1, vS f m own (T ++ (60 :: 30 :: 11 :: ldT own)) F1 G1 → Q (0 - vfB own f (x + 1)) F1 G1) : qX4_workedOut (qX4_own (qX4_from_d (d + 5))) (qX4_above (qX4_from_d (d + 5))) (nI 60) (nI 5) x (nI dep) F G Q := wo_st (b := 60) hs (by omega) (by omega) (fun E1 H1 h1 => ⟨fun c => absurd c (by decide), fun _ => ⟨fun c => absurd c (by decide), fun _ => ⟨fun c => absurd c (by decide), fun _ => ⟨fun c => absurd c (by decide), fun _ => ⟨fun c => absurd c (by decide), fun _ => ⟨fun c => absurd c (by decide), fun _ => ⟨fun c => absurd c (by decide), fun _ => ⟨fun c => absurd c (by decide), fun _ => ⟨fun c => absurd c (by decide), fun _ => ⟨fun c => absurd c (by decide), fun _ => ⟨fun _ => ⟨xvin (k := 5) (by decide) (by decide), by rw [show nI dep + (1 : Int32) = nI (dep + 1) from nI_1 dep, show xt_above.getD (nI 5).toNatClampNeg 0 = nI 2 from rfl]; exact fb_2_1 (wb_30 h1 ho (by omega) (by simp; omega) (fun F2 G2 h2 => h F2 G2 (vS_as h2)))⟩, fun c => absurd rfl c⟩⟩⟩⟩⟩⟩⟩⟩⟩⟩⟩)
theorem wb_71 {f m own dep d : Nat} {T : List Nat} {F : xF} {G : xA} {x : Int32} {Q : Int32 → xF → xA → Prop} (hs : vS f m own T F G) (ho : own ≤ 6) (hd : dep ≤ 11) (hT : T.length < 12) (h : ∀ F1 G1, vS f m own (T ++ (71 :: 11 :: ldT own)) F1 G1 → Q (vfB own f x + nI m) F1 G1) : qX4_workedOut (qX4_own (qX4_from_d (d + 4))) (qX4_above (qX4_from_d (d + 4))) (nI 71) (nI 6) x (nI dep) F G Q := wo_st (b := 71) hs (by omega) (by omega) (fun E1 H1 h1 => ⟨fun c => absurd c (by decide), fun _ => ⟨fun c => absurd c (by decide), fun _ => ⟨fun c => absurd c (by decide), fun _ => ⟨fun c => absurd c (by decide), fun _ => ⟨fun c => absurd c (by decide), fun _ => ⟨fun c => absurd c (by decide), fun _ => ⟨fun c => absurd c (by decide), fun _ => ⟨fun c => absurd c (by decide), fun _ => ⟨fun c => absurd c (by decide), fun _ => ⟨fun c => absurd c (by decide), fun _ => ⟨fun c => absurd c (by decide), fun _ => ⟨fun c => absurd c (by decide), fun _ => ⟨xvin (k := 6) (by decide) (by decide), by rw [show nI dep + (1 : Int32) = nI (dep + 1) from nI_1 dep, show xt_above.getD (nI 6).toNatClampNeg 0 = nI 0 from rfl]; exact fb_0_1 (wb_11 h1 ho (by omega) (by simp; omega) (fun F2 G2 h2 => by dsimp only; rw [h2.2.2.1]; exact h F2 G2 (vS_as h2)))⟩⟩⟩⟩⟩⟩⟩⟩⟩⟩⟩⟩⟩)
theorem v_fd {f m own dep d : Nat} {T : List Nat} {F : xF} {G : xA} {x : Int32} {Q : Int32 → xF → xA → Prop} (hs : vS f m own T F G) (ho : own ≤ 6) (hd : dep ≤ 10) (hT : T.length < 12) (h : ∀ F1 G1, vS f m own (T ++ fdT own) F1 G1 → Q (fdV own f m x) F1 G1) : qX4_from_d (d + 6) (nI own) (nI 1) x (nI dep) F G Q := by
  rcases (by omega : own = 0 ∨ own = 1 ∨ own = 2 ∨ own = 3 ∨ own = 4 ∨ own = 5 ∨ own = 6) with rfl | rfl | rfl | rfl | rfl | rfl | rfl
  · exact fb_0_1 (wb_11 (d := d + 2) hs ho (by omega) (by omega) h)
  · exact fb_1_1 (wb_11 (d := d + 2) hs ho (by omega) (by omega) h)
  · exact fb_2_1 (wb_30 (d := d + 1) hs ho (by omega) (by omega) h)
  · exact fb_3_1 (wb_11 (d := d + 2) hs ho (by omega) (by omega) h)
  · exact fb_4_1 (wb_11 (d := d + 2) hs ho (by omega) (by omega) h)
  · exact fb_5_1 (wb_60 (d := d) hs ho (by omega) (by omega) h)
  · exact fb_6_1 (wb_71 (d := d + 1) hs ho (by omega) (by omega) h)
theorem wb_12 {f m own dep d : Nat} {T : List Nat} {F : xF} {G : xA} {x : Int32} {Q : Int32 → xF → xA → Prop} (hs : vS f m own T F G) (ho : own ≤ 6) (hd : dep ≤ 8) (hT : T.length < 10) (h : ∀ F1 G1, vS f m own (T ++ (12 :: fdT own)) F1 G1 → Q (hdB own f m x) F1 G1) : qX4_workedOut (qX4_own (qX4_from_d (d + 6))) (qX4_above (qX4_from_d (d + 6))) (nI 12) (nI 0) x (nI dep) F G Q := wo_st (b := 12) hs (by omega) (by omega) (fun E1 H1 h1 => ⟨fun c => absurd c (by decide), fun _ => ⟨fun c => absurd c (by decide), fun _ => ⟨fun _ => (show qX4_from_d _ (E1 3) _ _ (nI dep + 1) E1 H1 _ from by rw [h1.2.2.2.1, show nI dep + (1 : Int32) = nI (dep + 1) from nI_1 dep]; exact v_fd (d := d) h1 ho (by omega) (by simp; omega) (fun F2 G2 h2 => by dsimp only; rw [h2.2.2.1]; exact h F2 G2 (vS_as h2))), fun c => absurd rfl c⟩⟩⟩)
theorem wb_40 {f m own dep d : Nat} {T : List Nat} {F : xF} {G : xA} {x : Int32} {Q : Int32 → xF → xA → Prop} (hs : vS f m own T F G) (ho : own ≤ 6) (hd : dep ≤ 7) (hT : T.length < 9) (h : ∀ F1 G1, vS f m own (T ++ (40 :: 12 :: fdT own)) F1 G1 → Q (hdB own f m (x / 2)) F1 G1) : qX4_workedOut (qX4_own (qX4_from_d (d + 7))) (qX4_above (qX4_from_d (d + 7))) (nI 40) (nI 3) x (nI dep) F G Q := wo_st (b := 40) hs (by omega) (by omega) (fun E1 H1 h1 => ⟨fun c => absurd c (by decide), fun _ => ⟨fun c => absurd c (by decide), fun _ => ⟨fun c => absurd c (by decide), fun _ => ⟨fun c => absurd c (by decide), fun _ => ⟨fun c => absurd c (by decide), fun _ => ⟨fun c => absurd c (by decide), fun _ => ⟨fun c => absurd c (by decide), fun _ => ⟨fun _ => ⟨xvin (k := 3) (by decide) (by decide), by rw [show nI dep + (1 : Int32) = nI (dep + 1) from nI_1 dep, show xt_above.getD (nI 3).toNatClampNeg 0 = nI 0 from rfl]; exact fb_0_2 (wb_12 h1 ho (by omega) (by simp; omega) (fun F2 G2 h2 => h F2 G2 (vS_as h2)))⟩, fun c => absurd rfl c⟩⟩⟩⟩⟩⟩⟩⟩)
theorem wb_51 {f m own dep d : Nat} {T : List Nat} {F : xF} {G : xA} {x : Int32} {Q : Int32 → xF → xA → Prop} (hs : vS f m own T F G) (ho : own ≤ 6) (hd : dep ≤ 7) (hT : T.length < 8) (h : ∀ F1 G1, vS f m own (T ++ (51 :: 12 :: fdT own)) F1 G1 → Q (hdB own f m x ^^^ nI f) F1 G1) : qX4_workedOut (qX4_own (qX4_from_d (d + 7))) (qX4_above (qX4_from_d (d + 7))) (nI 51) (nI 4) x (nI dep) F G Q := wo_st (b := 51) hs (by omega) (by omega) (fun E1 H1 h1 => ⟨fun c => absurd c (by decide), fun _ => ⟨fun c => absurd c (by decide), fun _ => ⟨fun c => absurd c (by decide), fun _ => ⟨fun c => absurd c (by decide), fun _ => ⟨fun c => absurd c (by decide), fun _ => ⟨fun c => absurd c (by decide), fun _ => ⟨fun c => absurd c (by decide), fun _ => ⟨fun c => absurd c (by decide), fun _ => ⟨fun c => absurd c (by decide), fun _ => ⟨fun _ => ⟨xvin (k := 4) (by decide) (by decide), by rw [show nI dep + (1 : Int32) = nI (dep + 1) from nI_1 dep, show xt_above.getD (nI 4).toNatClampNeg 0 = nI 1 from rfl]; exact fb_1_2 (wb_12 h1 ho (by omega) (by simp; omega) (fun F2 G2 h2 => by dsimp only; rw [h2.2.1]; exact h F2 G2 (vS_as h2)))⟩, fun c => absurd rfl c⟩⟩⟩⟩⟩⟩⟩⟩⟩⟩)
theorem v_hd {f m own dep d : Nat} {T : List Nat} {F : xF} {G : xA} {x : Int32} {Q : Int32 → xF → xA → Prop} (hs : vS f m own T F G) (ho : own ≤ 6) (hd : dep ≤ 6) (hT : T.length < 6) (h : ∀ F1 G1, vS f m own (T ++ hdT own) F1 G1 → Q (hdV own f m x) F1 G1) : qX4_from_d (d + 8) (nI own) (nI 2) x (nI dep) F G Q := by
  rcases (by omega : own = 0 ∨ own = 1 ∨ own = 2 ∨ own = 3 ∨ own = 4 ∨ own = 5 ∨ own = 6) with rfl | rfl | rfl | rfl | rfl | rfl | rfl
  · exact fb_0_2 (wb_12 (d := d + 1) hs ho (by omega) (by omega) h)
  · exact fb_1_2 (wb_12 (d := d + 1) hs ho (by omega) (by omega) h)
  · exact fb_2_2 (wb_12 (d := d + 1) hs ho (by omega) (by omega) h)
  · exact fb_3_2 (wb_40 (d := d) hs ho (by omega) (by omega) h)
  · exact fb_4_2 (wb_51 (d := d) hs ho (by omega) (by omega) h)
  · exact fb_5_2 (wb_12 (d := d + 1) hs ho (by omega) (by omega) h)
  · exact fb_6_2 (wb_12 (d := d + 1) hs ho (by omega) (by omega) h)
theorem wb_13 {f m own dep d : Nat} {T : List Nat} {F : xF} {G : xA} {x : Int32} {Q : Int32 → xF → xA → Prop} (hs : vS f m own T F G) (ho : own ≤ 6) (hd : dep ≤ 8) (hT : T.length < 10) (hm : m ≤ 9) (hf : f < 9) (h : m ≠ f → ∀ F1 G1, vS f m own (T ++ [13]) F1 G1 → Q (x / (nI m - nI f)) F1 G1) (hz : m = f → ∀ F1 G1, vZ f m own (T ++ [13]) F1 G1 → Q 0 F1 G1) : qX4_workedOut (qX4_own (qX4_from_d (d + 6))) (qX4_above (qX4_from_d (d + 6))) (nI 13) (nI 0) x (nI dep) F G Q := wo_st (b := 13) hs (by omega) (by omega) (fun E1 H1 h1 => ⟨fun c => absurd c (by decide), fun _ => ⟨fun c => absurd c (by decide), fun _ => ⟨fun c => absurd c (by decide), fun _ => ⟨fun _ => (by
    rw [h1.2.1, h1.2.2.1]
    by_cases e : m = f
    · exact ⟨fun c => absurd (by rw [e]; exact Int32.sub_self _) c, fun _ F6 e6 => hz e F6 H1 (by rw [e6]; exact vS_part h1)⟩
    · have n0 : ¬ nI m - nI f = 0 := fun c => e (sub_z hm hf c)
      exact ⟨fun _ => ⟨n0, h e E1 H1 h1⟩, fun c => absurd c n0⟩), fun c => absurd rfl c⟩⟩⟩⟩)
theorem v_z {f m own d : Nat} {T : List Nat} {F : xF} {G : xA} {x e : Int32} {Q : Int32 → xF → xA → Prop} (hs : vZ f m own T F G) (ho : own ≤ 6) (h : Q 0 F G) : qX4_from_d (d + 1) (nI own) (nI 1) x e F G Q := by
  have n0 : ¬ F 0 = 0 := fun c => absurd (hs.1.symm.trans c) (by decide)
  rcases (by omega : own = 0 ∨ own = 1 ∨ own = 2 ∨ own = 3 ∨ own = 4 ∨ own = 5 ∨ own = 6) with rfl | rfl | rfl | rfl | rfl | rfl | rfl
  · exact fb_0_1 ⟨fun _ => h, fun c => absurd c n0⟩
  · exact fb_1_1 ⟨fun _ => h, fun c => absurd c n0⟩
  · exact fb_2_1 ⟨fun _ => h, fun c => absurd c n0⟩
  · exact fb_3_1 ⟨fun _ => h, fun c => absurd c n0⟩
  · exact fb_4_1 ⟨fun _ => h, fun c => absurd c n0⟩
  · exact fb_5_1 ⟨fun _ => h, fun c => absurd c n0⟩
  · exact fb_6_1 ⟨fun _ => h, fun c => absurd c n0⟩
theorem wb_21 {f m own dep d : Nat} {T : List Nat} {F : xF} {G : xA} {x : Int32} {Q : Int32 → xF → xA → Prop} (hs : vS f m own T F G) (ho : own ≤ 6) (hd : dep ≤ 6) (hT : T.length < 8) (hm : m ≤ 9) (hf : f < 9) (h : m ≠ f → ∀ F1 G1, vS f m own (T ++ (21 :: 13 :: fdT own)) F1 G1 → Q (x / (nI m - nI f) + fdV own f m 1) F1 G1) (hz : m = f → ∀ F1 G1, vZ f m own (T ++ [21, 13]) F1 G1 → Q 0 F1 G1) : qX4_workedOut (qX4_own (qX4_from_d (d + 7))) (qX4_above (qX4_from_d (d + 7))) (nI 21) (nI 1) x (nI dep) F G Q := wo_st (b := 21) hs (by omega) (by omega) (fun E1 H1 h1 => ⟨fun c => absurd c (by decide), fun _ => ⟨fun c => absurd c (by decide), fun _ => ⟨fun c => absurd c (by decide), fun _ => ⟨fun c => absurd c (by decide), fun _ => ⟨fun c => absurd c (by decide), fun _ => ⟨fun _ => ⟨xvin (k := 1) (by decide) (by decide), by
    rw [show nI dep + (1 : Int32) = nI (dep + 1) from nI_1 dep, show xt_above.getD (nI 1).toNatClampNeg 0 = nI 0 from rfl]
    refine fb_0_3 (wb_13 (d := d) h1 ho (by omega) (by simp; omega) hm hf (fun e F2 G2 h2 => ?_) (fun e F2 G2 h2 => ?_))
    · show qX4_from_d _ (F2 3) _ _ (nI dep + 1) F2 G2 _
      rw [h2.2.2.2.1, show nI dep + (1 : Int32) = nI (dep + 1) from nI_1 dep]
      exact v_fd (d := d + 1) h2 ho (by omega) (by simp; omega) (fun F3 G3 h3 => h e F3 G3 (vS_as (vS_as h3)))
    · show qX4_from_d _ (F2 3) _ _ (nI dep + 1) F2 G2 _
      rw [h2.2.2.2.1]
      exact v_z (d := d + 6) h2 ho (show Q ((0 : Int32) + 0) F2 G2 by rw [Int32.add_zero]; exact hz e F2 G2 (vZ_as h2))⟩, fun c => absurd rfl c⟩⟩⟩⟩⟩⟩)
theorem v_pt {f m own dep d : Nat} {T : List Nat} {F : xF} {G : xA} {x : Int32} {Q : Int32 → xF → xA → Prop} (hs : vS f m own T F G) (ho : own ≤ 6) (hd : dep ≤ 5) (hT : T.length < 6) (hm : m ≤ 9) (hf : f < 9) (h : m ≠ f → ∀ F1 G1, vS f m own (T ++ ptT own) F1 G1 → Q (ptV own f m x) F1 G1) (hz : m = f → ∀ F1 G1, vZ f m own (T ++ ptZ own) F1 G1 → Q 0 F1 G1) : qX4_from_d (d + 8) (nI own) (nI 3) x (nI dep) F G Q := by
  rcases (by omega : own = 0 ∨ own = 1 ∨ own = 2 ∨ own = 3 ∨ own = 4 ∨ own = 5 ∨ own = 6) with rfl | rfl | rfl | rfl | rfl | rfl | rfl
  · exact fb_0_3 (wb_13 (d := d + 1) hs ho (by omega) (by omega) hm hf h hz)
  · exact fb_1_3 (wb_21 (d := d) hs ho (by omega) (by omega) hm hf h hz)
  · exact fb_2_3 (wb_13 (d := d + 1) hs ho (by omega) (by omega) hm hf h hz)
  · exact fb_3_3 (wb_13 (d := d + 1) hs ho (by omega) (by omega) hm hf h hz)
  · exact fb_4_3 (wb_21 (d := d) hs ho (by omega) (by omega) hm hf h hz)
  · exact fb_5_3 (wb_13 (d := d + 1) hs ho (by omega) (by omega) hm hf h hz)
  · exact fb_6_3 (wb_13 (d := d + 1) hs ho (by omega) (by omega) hm hf h hz)
theorem jo_trace {F E F' F1 : xF} {G H G' G1 : xA} {T : List Nat} (hI : jo_I F G F' G') (hE : ∀ k, (k < 37 ∨ 42 ≤ k) → E k = F k) (hH : ∀ k, k ≠ 65 → H k = G k) (hF : ∀ k, k ≠ 6 → k ≠ 7 → k ≠ 8 → F1 k = F' k) (hG : ∀ k, k ≠ 10 → G1 k = G' k) (hT : T.length ≤ 30) (h6 : trL T (E 41) (H 65)) (h7 : trL T (F1 6) (G1 10)) : jo_I E H F1 G1 := by
  obtain ⟨a, ⟨b1, b2⟩, c, d, e, f⟩ := hI
  refine ⟨jo_st_c a (fun k hk => hE k (by omega)) (fun k hk => hH k (by omega)) (hE 29 (by omega)) (hH 56 (by omega)) (hE 30 (by omega)) (hH 57 (by omega)) (hG 0 (by omega)), ⟨by rw [hE 28 (by omega), hF 0 (by omega) (by omega) (by omega)]; exact b1, fun z => ?_⟩, fun k hk => by rw [hH 62 (by omega), hG 3 (by omega)]; exact c k hk, ⟨T.length, hT, h6.1, h7.1, fun i hi => by rw [h6.2 i hi, h7.2 i hi]⟩, fun q hq => ?_, by rw [hF 5 (by omega) (by omega) (by omega)]; exact f⟩
  · rw [hF 0 (by omega) (by omega) (by omega)] at z
    exact jo_st_c (b2 z) (fun k hk => hE (7 + k) (by omega)) (fun k hk => hH (14 + k) (by omega)) (hE 31 (by omega)) (hH 58 (by omega)) (hE 32 (by omega)) (hH 59 (by omega)) (hG 1 (by omega))
  · rw [hE (42 + 2 * q) (by omega), hE (43 + 2 * q) (by omega), hH (66 + q) (by omega), hG 11 (by omega), hG 12 (by omega), hG 13 (by omega)]
    exact e q hq
def voT (b own m f : Nat) : List Nat := if b = 0 then ldT own else if b = 1 then fdT own else if b = 2 then hdT own else if m = f then ptZ own else ptT own
def voV (b own f m : Nat) (x : Int32) : Int32 := if b = 0 then ldV own f x else if b = 1 then fdV own f m x else if b = 2 then hdV own f m x else ptV own f m x
theorem voT_le {b own m f : Nat} (ho : own ≤ 6) : (voT b own m f).length ≤ 30 := by
  unfold voT
  rcases (by omega : own = 0 ∨ own = 1 ∨ own = 2 ∨ own = 3 ∨ own = 4 ∨ own = 5 ∨ own = 6) with rfl | rfl | rfl | rfl | rfl | rfl | rfl <;> (repeat' split) <;> decide
theorem s4_answer {f m own b : Nat} {x : Int32} {F : xF} {G : xA} {Q : Int32 → xF → xA → Prop} (hf : f < 9) (hm : m ≤ 9) (ho : own ≤ 6) (hb : b ≤ 3) (h : ¬ (b = 3 ∧ m = f) → ∀ F1 G1, vS f m own (voT b own m f) F1 G1 → Q (voV b own f m x) F1 G1) (hz : b = 3 ∧ m = f → ∀ F1 G1, vZ f m own (voT b own m f) F1 G1 → Q 0 F1 G1) : qX4_answer (nI f) (nI own) (nI m) (nI b) x F G Q := by
  intro F1 e1 F2 e2 F3 e3 F4 e4 F5 e5
  have hs : vS f m own [] F5 G := by
    refine ⟨?_, ?_, ?_, ?_, ?_, fun i hi => absurd hi (by simp)⟩
    · rw [e5, vu_ne (by omega), e4, vu_ne (by omega), e3, vu_ne (by omega), e2, vu_at]
    · rw [e5, vu_ne (by omega), e4, vu_ne (by omega), e3, vu_at]
    · rw [e5, vu_ne (by omega), e4, vu_at]
    · rw [e5, vu_at]
    · rw [e5, vu_ne (by omega), e4, vu_ne (by omega), e3, vu_ne (by omega), e2, vu_ne (by omega), e1, vu_at]; rfl
  show qX4_from_d 20 (F5 3) (nI b) x ((0 : Int32) + 1) F5 G _
  rw [hs.2.2.2.1, show (0 : Int32) + 1 = nI 1 from rfl]
  unfold voT voV at h
  unfold voT at hz
  rcases (by omega : b = 0 ∨ b = 1 ∨ b = 2 ∨ b = 3) with rfl | rfl | rfl | rfl
  · exact v_ld (d := 17) hs ho (by omega) (by simp) (fun F1 G1 h1 => h (by omega) F1 G1 h1)
  · exact v_fd (d := 14) hs ho (by omega) (by simp) (fun F1 G1 h1 => h (by omega) F1 G1 h1)
  · exact v_hd (d := 12) hs ho (by omega) (by simp) (fun F1 G1 h1 => h (by omega) F1 G1 h1)
  · by_cases e : m = f
    · have hz' := hz ⟨rfl, e⟩
      simp only [if_pos e] at hz'
      exact v_pt (d := 12) hs ho (by omega) (by simp) hm hf (fun q => absurd e q) (fun _ F1 G1 h1 => hz' F1 G1 h1)
    · have h' := h (fun q => e q.2)
      simp only [if_neg e] at h'
      exact v_pt (d := 12) hs ho (by omega) (by simp) hm hf (fun _ F1 G1 h1 => h' F1 G1 h1) (fun q => absurd q e)
theorem s7_voice {f m own b : Nat} {w : wW} {t0 t1 : wT} {x : Int32} {F : xF} {G : xA} {Q : Int32 → xF → xA → Prop} (hf : f < 9) (hm : m ≤ 9) (ho : own ≤ 6) (hb : b ≤ 3) (r7 : R7 w t0 t1 (G 0)) (ek : wF w f 0 = own) (em : wF w f 1 = m) (h : ¬ (b = 3 ∧ m = f) → ∀ F0 F1 G1, (∀ k, k ≠ 6 → k ≠ 7 → k ≠ 8 → F0 k = F k) → rS f w t0 t1 (voT b own m f) F0 G F1 G1 → Q (voV b own f m x) F1 G1) (hz : b = 3 ∧ m = f → ∀ F0 F1 G1, (∀ k, k ≠ 6 → k ≠ 7 → k ≠ 8 → F0 k = F k) → rZ f w t0 t1 (voT b own m f) F0 G F1 G1 → qX7_error (6 : Int32) F1 G1 Q) : qX7_voice (nI f) (nI b) x F G Q := by
  unfold qX7_voice
  refine s7_isFarmer (by omega) ?_; (first | refine pY1 ?_ | refine pY2 ?_)
  refine s7_inG (l := 0) (n := 3) (by omega) hb (by decide) ?_; (first | refine pY1 ?_ | refine pY2 ?_)
  intro F1 e1 F2 e2 F3 e3
  have hs : rS f w t0 t1 [] F3 G F3 G := by
    refine ⟨?_, ?_, ⟨?_, fun i hi => absurd hi (by simp)⟩, fun _ _ _ => rfl, fun _ _ => rfl, r7⟩
    · rw [e3, vu_ne (by omega), e2, vu_at]
    · rw [e3, vu_at]
    · rw [e3, vu_ne (by omega), e2, vu_ne (by omega), e1, vu_at]; rfl
  have kF : ∀ k, k ≠ 6 → k ≠ 7 → k ≠ 8 → F3 k = F k := fun k a b c => by rw [e3, vu_ne c, e2, vu_ne b, e1, vu_ne a]
  refine s7_kind hs hf ek ?_
  have fin : ∀ (v : Int32) (F4 : xF) (G4 : xA), F4 8 = 0 → Q v F4 G4 → (((F4 8) = 0 → Q v F4 G4) ∧ (¬ (F4 8) = 0 → qX7_error (6 : Int32) F4 G4 (fun r106 F106 G106 => Q r106 F106 G106))) := fun v F4 G4 z q => ⟨fun _ => q, fun c => absurd z c⟩
  unfold voT voV at h
  unfold voT at hz
  rcases (by omega : b = 0 ∨ b = 1 ∨ b = 2 ∨ b = 3) with rfl | rfl | rfl | rfl
  · refine ⟨fun c => absurd rfl c, fun _ => r_ld (d := 0) hs (by simp) ho (fun F4 G4 h4 => fin _ F4 G4 h4.2.1 (h (by omega) F3 F4 G4 kF h4))⟩
  · refine ⟨fun _ => ⟨fun c => absurd rfl c, fun _ => r_fd (d := 0) hs (by simp) ho ek em hf (fun F4 G4 h4 => fin _ F4 G4 h4.2.1 (h (by omega) F3 F4 G4 kF h4))⟩, fun c => absurd c (by decide)⟩
  · refine ⟨fun _ => ⟨fun _ => ⟨fun c => absurd rfl c, fun _ => r_hd (d := 0) hs (by simp) ho ek em hf (fun F4 G4 h4 => fin _ F4 G4 h4.2.1 (h (by omega) F3 F4 G4 kF h4))⟩, fun c => absurd c (by decide)⟩, fun c => absurd c (by decide)⟩
  · refine ⟨fun _ => ⟨fun _ => ⟨fun _ => ?_, fun c => absurd c (by decide)⟩, fun c => absurd c (by decide)⟩, fun c => absurd c (by decide)⟩
    by_cases e : m = f
    · have hz' := hz ⟨rfl, e⟩
      simp only [if_pos e] at hz'
      exact r_pt (d := 0) hs (by simp) ho ek em hf hm (fun q => absurd e q) (fun _ F4 G4 h4 => ⟨fun c => absurd (h4.2.1.symm.trans c) (by decide), fun _ => hz' F3 F4 G4 kF h4⟩)
    · have h' := h (fun q => e q.2)
      simp only [if_neg e] at h'
      exact r_pt (d := 0) hs (by simp) ho ek em hf hm (fun _ F4 G4 h4 => fin _ F4 G4 h4.2.1 (h' F3 F4 G4 kF h4)) (fun q => absurd q e)
theorem c_voice : oX_voice jo_I := by
  intro x1 x2 x3 F G F' G' hI
  obtain ⟨⟨⟨w, t0, t1, hw, hd, h0, h1, r5, r7, hz⟩, _⟩, _, _, _, _, h5⟩ := id hI
  unfold qX6_voice
  rcases xrng x1 8 (by decide) with h | ⟨f, hf, rfl⟩
  · refine s6_isFarmer_no h ?_; (first | refine pN1 ?_ | refine pN2 ?_); refine s6_error (k := 1) (by decide) ?_; unfold qX7_voice; refine s7_isFarmer_no h ?_; (first | refine pN1 ?_ | refine pN2 ?_); exact c_err (k := 1) (by decide) hI
  refine s6_isFarmer hf ?_; (first | refine pY1 ?_ | refine pY2 ?_)
  rcases xrng x2 3 (by decide) with h | ⟨b, hb, rfl⟩
  · refine s6_inG_no (l := 0) (n := 3) h ?_; (first | refine pN1 ?_ | refine pN2 ?_); refine s6_error (k := 1) (by decide) ?_; unfold qX7_voice; refine s7_isFarmer hf ?_; (first | refine pY1 ?_ | refine pY2 ?_); refine s7_inG_no (l := 0) (n := 3) h ?_; (first | refine pN1 ?_ | refine pN2 ?_); exact c_err (k := 1) (by decide) hI
  refine s6_inG (l := 0) (n := 3) (by omega) hb (by decide) ?_; (first | refine pY1 ?_ | refine pY2 ?_)
  have hk := hw.2.2.2.2.1 f (by omega)
  rw [nI_clamp (show f < 2 ^ 31 by omega), r5.2.2.2.1 f (by omega), r5.2.2.2.2.1 f (by omega)]
  have tr41 : ∀ {F1 : xF}, (xspl F 37 5 F1) 41 = F1 4 := fun {F1} => xspl_in (o := 37) (k := 4) (by omega)
  have tr65 : ∀ {G1 : xA}, (xspl G 65 1 G1) 65 = G1 0 := fun {G1} => xspl_in (o := 65) (k := 0) (by omega)
  have t37 : ∀ {F1 : xF}, (xspl F 37 5 F1) 37 = F1 0 := fun {F1} => xspl_in (o := 37) (k := 0) (by omega)
  refine ⟨xvin (by omega) (by omega), xvin (by omega) (by omega), s4_answer (by omega) hk.2.1 hk.1 hb (fun np F1 G1 q6 E eE H eH => ?_) (fun pz F1 G1 q6 E eE H eH => ?_)⟩
  · refine ⟨fun _ => s7_voice (by omega) hk.2.1 hk.1 hb r7 rfl rfl (fun _ F0 F2 G2 kF q7 => ⟨rfl, ?_⟩) (fun q => absurd q np), fun c => absurd (by rw [eE, t37]; exact q6.1) c⟩
    rw [eE, eH]
    exact jo_trace hI (fun k hk => xspl_out (by omega)) (fun k hk => xspl_out (by omega)) (fun k a b c => by rw [q7.2.2.2.1 k a c, kF k a b c]) q7.2.2.2.2.1 (voT_le hk.1) (by rw [tr41, tr65]; exact q6.2.2.2.2) q7.2.2.1
  · refine ⟨fun c => absurd (by rw [eE, t37, q6.1] at c; exact c) (by decide), fun _ => ?_⟩
    refine s6_error (k := 6) (by decide) ?_
    refine s7_voice (by omega) hk.2.1 hk.1 hb r7 rfl rfl (fun q => absurd pz q) (fun _ F0 F2 G2 kF q7 => ?_)
    rw [eE, eH]
    exact c_err (k := 6) (by decide) (jo_trace hI (fun k hk => xspl_out (by omega)) (fun k hk => xspl_out (by omega)) (fun k a b c => by rw [q7.2.2.2.1 k a c, kF k a b c]) q7.2.2.2.2.1 (voT_le hk.1) (by rw [tr41, tr65]; exact q6.2.2.2.2) q7.2.2.1)
