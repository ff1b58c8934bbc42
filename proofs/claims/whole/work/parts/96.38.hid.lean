/-! who hid: how the days go without regard to the hider's m -/
def rlv (f j : Nat) : Prop := j ≠ 40 + 9 * f + 1 ∧ (40 ≤ j → (j - 40) % 9 ≠ 2 ∧ (j - 40) % 9 ≠ 3)
def alk (f : Nat) (a b : wW) : Prop := ∀ j, rlv f j → a j = b j
theorem alk_lo {f j : Nat} (h : j < 40) : rlv f j := ⟨by omega, fun q => by omega⟩
theorem bsN_c {s s' : Nat → Int32} {p : Nat} (hp : p < 16) (h : ∀ a, a < 16 → s' a = s a) : ∀ n, n ≤ 4 → bsN s' p n = bsN s p n
  | 0, _ => rfl
  | n + 1, hn => by
    have ih := bsN_c hp h n (by omega)
    have hb := bsN_lt (sm := s) hp n (by omega)
    show bst s' (bsN s' p n) (nxv p n) = bst s (bsN s p n) (nxv p n)
    rw [ih]
    rcases nxv_cases hp (show n < 4 by omega) with e | ⟨c, hc, e⟩
    · rw [e, bst_no, bst_no]
    · rw [e, bst_nI (by omega), bst_nI (by omega), h _ hb, h c hc]
theorem alk_bs {t1 : wT} {f : Nat} {a b : wW} (h : alk f a b) (hp : b 2 < 16) : bsW t1 a = bsW t1 b := by
  unfold bsW
  rw [h 2 (alk_lo (by omega))]
  exact bsN_c hp (fun c hc => smW_congr (h (24 + c) (alk_lo (by omega))) (h 3 (alk_lo (by omega)))) 4 (Nat.le_refl _)
theorem alk_to {t1 : wT} {f g k : Nat} {a b : wW} (h : alk f a b) (hp : b 2 < 16) : toW t1 g k a = toW t1 g k b := by
  unfold toW
  rw [alk_bs h hp]
  by_cases c : k < 4
  · rw [if_pos c, if_pos c]
    have e : wF a g (5 + k) = wF b g (5 + k) := h _ ⟨by omega, fun _ => by omega⟩
    rw [e, h 2 (alk_lo (by omega))]
  · rw [if_neg c, if_neg c]
theorem alk_got {f p : Nat} {a b : wW} (h : alk f a b) (hp : p < 16) : gotAt a p = gotAt b p := by
  unfold gotAt wD
  rw [h _ (alk_lo (by omega)), h 3 (alk_lo (by omega))]
theorem alk_wU {f k v : Nat} {a b : wW} (h : alk f a b) : alk f (wU a k v) (wU b k v) := fun j hj => by
  unfold wU
  split
  · rfl
  · exact h j hj
theorem alk_dig {f p : Nat} {a b : wW} (h : alk f a b) (hp : p < 16) : alk f (digAt a p) (digAt b p) := by
  unfold digAt
  rw [alk_got h hp, show wD a p = wD b p from h _ (alk_lo (by omega))]
  exact alk_wU (alk_wU h)
theorem alk_hrs {t1 : wT} {f g : Nat} {a b : wW} (h : alk f a b) (hb : Wok b) (hg : g < 9) : ∀ k, alk f (hrs t1 g a k).1 (hrs t1 g b k).1 ∧ (hrs t1 g a k).2 = (hrs t1 g b k).2
  | 0 => ⟨h, rfl⟩
  | k + 1 => by
    obtain ⟨q1, q2⟩ := alk_hrs (t1 := t1) h hb hg k
    have ok := (hrs_ok (t1 := t1) hb hg k).1
    have et := alk_to (t1 := t1) (g := g) (k := k) q1 ok.2.1
    have hp := toW_lt (t1 := t1) (h := k) ok hg
    refine ⟨?_, ?_⟩
    · show alk f (digAt (hrs t1 g a k).1 (toW t1 g k (hrs t1 g a k).1)) (digAt (hrs t1 g b k).1 (toW t1 g k (hrs t1 g b k).1))
      rw [et]
      exact alk_dig q1 hp
    · show ((fun c => if c = toW t1 g k (hrs t1 g a k).1 then (hrs t1 g a k).2.1 c + gotAt (hrs t1 g a k).1 (toW t1 g k (hrs t1 g a k).1) else (hrs t1 g a k).2.1 c), (hrs t1 g a k).2.2 + gotAt (hrs t1 g a k).1 (toW t1 g k (hrs t1 g a k).1)) = ((fun c => if c = toW t1 g k (hrs t1 g b k).1 then (hrs t1 g b k).2.1 c + gotAt (hrs t1 g b k).1 (toW t1 g k (hrs t1 g b k).1) else (hrs t1 g b k).2.1 c), (hrs t1 g b k).2.2 + gotAt (hrs t1 g b k).1 (toW t1 g k (hrs t1 g b k).1))
      rw [et, alk_got q1 hp, q2]
theorem alk_morn {f : Nat} {a b : wW} (h : alk f a b) : alk f (mornW a) (mornW b) := fun j hj => by
  unfold mornW mornK
  rw [h 1 (alk_lo (by omega)), h j hj]
theorem alk_who {f : Nat} {a b : wW} (h : alk f a b) : whoW a = whoW b := whoW_c (h 0 (alk_lo (by omega))) (fun g => h _ ⟨by omega, fun _ => by omega⟩)
theorem alk_digW {t1 : wT} {f g : Nat} {a b : wW} (h : alk f a b) (hb : Wok b) (hg : g < 9) : alk f (digW t1 g a).1 (digW t1 g b).1 ∧ (digW t1 g a).2 = (digW t1 g b).2 := by
  unfold digW
  rw [h 3 (alk_lo (by omega))]
  exact alk_hrs (alk_morn h) (Wok_mornK hb (Nat.le_refl 16)) hg _
theorem alk_F {t1 : wT} {f : Nat} {a b : wW} (h : alk f a b) (hb : Wok b) : dayF t1 a = dayF t1 b := by
  unfold dayF
  rw [alk_who h, (alk_digW h hb (whoW_ok hb).1).2]
theorem alk_P {t1 : wT} {f : Nat} {a b : wW} (h : alk f a b) (hb : Wok b) : alk f (dayP t1 a) (dayP t1 b) := fun j hj => by
  have h23 : ¬ (40 ≤ j ∧ (j - 40) % 9 = 2) := fun q => (hj.2 q.1).1 q.2
  have h33 : ¬ (40 ≤ j ∧ (j - 40) % 9 = 3) := fun q => (hj.2 q.1).2 q.2
  unfold dayP
  rw [partW_ne h23 h33, partW_ne h23 h33, alk_who h]
  exact (alk_digW h hb (whoW_ok hb).1).1 j hj
theorem alk_day {t0 t1 : wT} {f : Nat} {a b : wW} (h : alk f a b) (hb : Wok b) (h3 : wF b f 0 = 3) : alk f (dayW t0 t1 a) (dayW t0 t1 b) ∧ wF (dayW t0 t1 b) f 0 = 3 := by
  have hP := alk_P (t1 := t1) h hb
  have p0 : ∀ g, wF (dayP t1 b) g 0 = wF b g 0 := fun g => dayP_hi hb (by omega)
  have e0 : ∀ g, wF (dayP t1 a) g 0 = wF (dayP t1 b) g 0 := fun g => hP _ ⟨by omega, fun _ => by omega⟩
  have e3 : dayP t1 a 3 = dayP t1 b 3 := hP 3 (alk_lo (by omega))
  have ef : feW t0 (dayP t1 a) (whoW a) (dayF t1 a) = feW t0 (dayP t1 b) (whoW b) (dayF t1 b) := by
    rw [alk_who h, alk_F h hb]
    by_cases c : whoW b = f
    · have k3 : wF (dayP t1 b) (whoW b) 0 = 3 := by rw [p0, c]; exact h3
      have z : ∀ (ww : wW) (q : Nat), wF ww (whoW b) 0 = 3 → feW t0 ww (whoW b) q = 4 := fun ww q hq => by
        unfold feW
        simp [hq]
      rw [z _ _ (by rw [e0]; exact k3), z _ _ k3]
    · have e1 : wF (dayP t1 a) (whoW b) 1 = wF (dayP t1 b) (whoW b) 1 := hP _ ⟨by omega, fun _ => by omega⟩
      unfold feW tdW
      rw [e0, e1, e3]
  refine ⟨?_, ?_⟩
  · unfold dayW
    rw [ef]
    unfold dayX
    rw [hP 0 (alk_lo (by omega))]
    exact alk_wU (alk_wU hP)
  · show dayX _ (dayP t1 b) (40 + 9 * f + 0) = 3
    rw [dayX_ne (by omega) (by omega), ← h3]
    exact p0 f
theorem alk_go {t0 t1 : wT} {f : Nat} {a b : wW} (h : alk f a b) (hb : Wok b) (h3 : wF b f 0 = 3) : ∀ n, alk f (goW t0 t1 a n) (goW t0 t1 b n) ∧ wF (goW t0 t1 b n) f 0 = 3
  | 0 => ⟨h, h3⟩
  | n + 1 => by
    obtain ⟨p, q⟩ := alk_go (t0 := t0) (t1 := t1) h hb h3 n
    exact alk_day p (goW_ok hb n).1 q
/-- one a hider, with m -/
def exW (w : wW) (f m : Nat) : wW := wU (wU w (40 + 9 * f + 0) 3) (40 + 9 * f + 1) m
def hdW (w : wW) (f : Nat) : wW := wU w (40 + 9 * f + 0) 3
theorem Wok_exW {w : wW} {f m : Nat} (hw : Wok w) (hf : f < 9) (hm : m ≤ 9) : Wok (exW w f m) := Wok_s_mark (Wok_s_kind hw hf (by omega)) hf hm
theorem Wok_hdW {w : wW} {f : Nat} (hw : Wok w) (hf : f < 9) : Wok (hdW w f) := Wok_s_kind hw hf (by omega)
theorem alk_ex {w : wW} {f m : Nat} : alk f (hdW w f) (exW w f m) := fun j hj => by
  unfold hdW exW
  rw [wU_ne (show j ≠ 40 + 9 * f + 1 from hj.1)]
theorem ex_3 {w : wW} {f m : Nat} : wF (exW w f m) f 0 = 3 := by
  unfold wF exW
  rw [wU_ne (by omega), wU_at]
theorem hd_F {t0 t1 : wT} {w : wW} {f m : Nat} (hw : Wok w) (hf : f < 9) (hm : m ≤ 9) (i : Nat) : dayF t1 (goW t0 t1 (hdW w f) i) = dayF t1 (goW t0 t1 (exW w f m) i) := alk_F (alk_go alk_ex (Wok_exW hw hf hm) ex_3 i).1 (goW_ok (Wok_exW hw hf hm) i).1
/-- the class's trial: parted out by finds known -/
def trW (t0 t1 : wT) (u v : wW) : Nat → wW
  | 0 => v
  | i + 1 => wU (partW (trW t0 t1 u v i) (whoW (trW t0 t1 u v i)) (hidW (trW t0 t1 u v i) (whoW (trW t0 t1 u v i)) (dayF t1 (goW t0 t1 u i))) (dayF t1 (goW t0 t1 u i) - hidW (trW t0 t1 u v i) (whoW (trW t0 t1 u v i)) (dayF t1 (goW t0 t1 u i)))) 0 (trW t0 t1 u v i 0 + 1)
theorem partW_c {a b : wW} {f h r : Nat} (e : ∀ j, 40 ≤ j → a j = b j) : ∀ j, 40 ≤ j → partW a f h r j = partW b f h r j := fun j hj => by
  have e1 : wU a (40 + 9 * f + 3) (min 99999999 (wF a f 3 + h)) j = wU b (40 + 9 * f + 3) (min 99999999 (wF b f 3 + h)) j := by
    rw [show wF a f 3 = wF b f 3 from e _ (by omega)]
    unfold wU
    rw [e j hj]
  unfold partW purK
  rw [e1]
theorem trW_ok {t0 t1 : wT} {u v : wW} (hv : Wok v) (hF : ∀ i, dayF t1 (goW t0 t1 u i) = dayF t1 (goW t0 t1 v i)) : ∀ i, Wok (trW t0 t1 u v i) ∧ ∀ j, (j = 0 ∨ 40 ≤ j) → trW t0 t1 u v i j = goW t0 t1 v i j
  | 0 => ⟨hv, fun _ _ => rfl⟩
  | i + 1 => by
    obtain ⟨ok, e⟩ := trW_ok (t0 := t0) (t1 := t1) hv hF i
    obtain ⟨okg, _⟩ := goW_ok (t0 := t0) (t1 := t1) hv i
    have ew : whoW (trW t0 t1 u v i) = whoW (goW t0 t1 v i) := whoW_c (e 0 (Or.inl rfl)) (fun g => e _ (Or.inr (by omega)))
    obtain ⟨hg, _, _⟩ := whoW_ok okg
    obtain ⟨okd, _, _, hi⟩ := digW_ok (t1 := t1) okg hg
    have ed : ∀ j, 40 ≤ j → trW t0 t1 u v i j = (digW t1 (whoW (goW t0 t1 v i)) (goW t0 t1 v i)).1 j := fun j hj => by rw [e j (Or.inr hj), hi j (by omega)]
    have eh : hidW (trW t0 t1 u v i) (whoW (goW t0 t1 v i)) (dayF t1 (goW t0 t1 v i)) = dayH t1 (goW t0 t1 v i) := by
      show hidW _ _ _ = hidW _ _ _
      unfold hidW
      rw [show wF (trW t0 t1 u v i) (whoW (goW t0 t1 v i)) 0 = wF (digW t1 (whoW (goW t0 t1 v i)) (goW t0 t1 v i)).1 (whoW (goW t0 t1 v i)) 0 from ed _ (by omega), show wF (trW t0 t1 u v i) (whoW (goW t0 t1 v i)) 1 = wF (digW t1 (whoW (goW t0 t1 v i)) (goW t0 t1 v i)).1 (whoW (goW t0 t1 v i)) 1 from ed _ (by omega)]
    have es : trW t0 t1 u v (i + 1) = wU (partW (trW t0 t1 u v i) (whoW (goW t0 t1 v i)) (dayH t1 (goW t0 t1 v i)) (dayF t1 (goW t0 t1 v i) - dayH t1 (goW t0 t1 v i))) 0 (trW t0 t1 u v i 0 + 1) := by
      show wU (partW _ _ _ _) 0 _ = _
      rw [ew, hF i, eh]
    rw [es]
    refine ⟨Wok_s_day (Wok_partW ok hg), fun j hj => ?_⟩
    show _ = dayX _ (dayP t1 (goW t0 t1 v i)) j
    by_cases c : j = 0
    · subst c
      rw [wU_at, dayX_0, e 0 (Or.inl rfl), dayP_hi okg (by omega)]
    · rw [wU_ne c, dayX_ne c (by omega)]
      exact partW_c ed j (by omega)
