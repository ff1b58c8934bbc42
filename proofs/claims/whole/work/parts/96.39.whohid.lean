/-! calls: who hid -/
def stN (num : Nat → Int32) (pu : Nat → Nat) : Nat → Bool
  | 0 => true
  | k + 1 => stN num pu k && decide (num k = nI (pu k))
def stB (num : Nat → Int32) (pu : Nat → Nat) : Bool := stN num pu 9
theorem stN_iff {num : Nat → Int32} {pu : Nat → Nat} : ∀ k, stN num pu k = true ↔ ∀ g, g < k → num g = nI (pu g)
  | 0 => ⟨fun _ g hg => by omega, fun _ => rfl⟩
  | k + 1 => by
    show (stN num pu k && decide (num k = nI (pu k))) = true ↔ _
    rw [Bool.and_eq_true, decide_eq_true_eq, stN_iff k]
    refine ⟨fun q g hg => ?_, fun q => ⟨fun g hg => q g (by omega), q k (by omega)⟩⟩
    by_cases z : g = k
    · rw [z]; exact q.2
    · exact q.1 g (by omega)
theorem stB_iff {num : Nat → Int32} {pu : Nat → Nat} : stB num pu = true ↔ ∀ g, g < 9 → num g = nI (pu g) := stN_iff 9
def exB (t0 t1 : wT) (w : wW) (num : Nat → Int32) (f n m : Nat) : Bool := stB num (fun g => wF (goW t0 t1 (exW w f m) n) g 2)
def lmS (t0 t1 : wT) (w : wW) (num : Nat → Int32) (f n : Nat) : Nat → Nat → Nat
  | 0, m => m
  | k + 1, m => if exB t0 t1 w num f n m = true then m else lmS t0 t1 w num f n k (m + 1)
theorem lmS_s {t0 t1 : wT} {w : wW} {num : Nat → Int32} {f n k m : Nat} : lmS t0 t1 w num f n (k + 1) m = if exB t0 t1 w num f n m = true then m else lmS t0 t1 w num f n k (m + 1) := rfl
theorem lmS_le {t0 t1 : wT} {w : wW} {num : Nat → Int32} {f n : Nat} : ∀ k m, lmS t0 t1 w num f n k m ≤ m + k
  | 0, m => Nat.le_refl _
  | k + 1, m => by
    have := lmS_le (t0 := t0) (t1 := t1) (w := w) (num := num) (f := f) (n := n) k (m + 1)
    rw [lmS_s]
    split <;> omega
def lmV (m : Nat) : Int32 := if m = 10 then -1 else nI m
/-- bits, the first (9: none), its least m -/
def whS (t0 t1 : wT) (w : wW) (num : Nat → Int32) (n : Nat) : Nat → Int32 × Nat × Nat
  | 0 => (0, 9, 0)
  | f + 1 => if lmS t0 t1 w num f n 10 0 = 10 then whS t0 t1 w num n f else ((whS t0 t1 w num n f).1 ||| ((1 : Int32) <<< (nI f &&& 31)), if (whS t0 t1 w num n f).2.1 = 9 then f else (whS t0 t1 w num n f).2.1, if (whS t0 t1 w num n f).2.1 = 9 then lmS t0 t1 w num f n 10 0 else (whS t0 t1 w num n f).2.2)
theorem whS_s {t0 t1 : wT} {w : wW} {num : Nat → Int32} {n f : Nat} : whS t0 t1 w num n (f + 1) = if lmS t0 t1 w num f n 10 0 = 10 then whS t0 t1 w num n f else ((whS t0 t1 w num n f).1 ||| ((1 : Int32) <<< (nI f &&& 31)), if (whS t0 t1 w num n f).2.1 = 9 then f else (whS t0 t1 w num n f).2.1, if (whS t0 t1 w num n f).2.1 = 9 then lmS t0 t1 w num f n 10 0 else (whS t0 t1 w num n f).2.2) := rfl
theorem whS_ok {t0 t1 : wT} {w : wW} {num : Nat → Int32} {n : Nat} : ∀ f, (whS t0 t1 w num n f).2.1 ≤ max 9 f ∧ (whS t0 t1 w num n f).2.2 ≤ 10
  | 0 => ⟨by show 9 ≤ _; omega, Nat.zero_le _⟩
  | f + 1 => by
    obtain ⟨a, b⟩ := whS_ok (t0 := t0) (t1 := t1) (w := w) (num := num) (n := n) f
    have hl := lmS_le (t0 := t0) (t1 := t1) (w := w) (num := num) (f := f) (n := n) 10 0
    rw [whS_s]
    by_cases c : lmS t0 t1 w num f n 10 0 = 10
    · rw [if_pos c]; exact ⟨by omega, b⟩
    · rw [if_neg c]
      refine ⟨?_, ?_⟩
      · show (if _ then _ else _) ≤ _
        split <;> omega
      · show (if _ then _ else _) ≤ _
        split <;> omega
def whI (s : Int32 × Nat × Nat) : Int32 := if s.2.1 = 9 then -1 else nI s.2.1
def whM (z : Int32) (s : Int32 × Nat × Nat) : Int32 := if s.2.1 = 9 then z else nI s.2.2
/-- the answer by what is asked, or the error -/
def whF (b : Nat) (s : Int32 × Nat × Nat) (P : Int32 → Prop) (E : Prop) : Prop := if b = 0 then P s.1 else if s.2.1 = 9 then E else if b = 1 then P (nI s.2.1) else P (nI s.2.2)
theorem whF_6 {b : Nat} {s : Int32 × Nat × Nat} {P : Int32 → Prop} {E : Prop} (hb : b ≤ 2) (ho : s.2.1 ≤ max 9 9 ∧ s.2.2 ≤ 10) (h : whF b s P E) : ((¬ nI b = 0 → ((0 ≤ whI s → ((¬ nI b = (1 : Int32) → P (whM (-1) s)) ∧ (nI b = (1 : Int32) → P (whI s)))) ∧ (¬ 0 ≤ whI s → E))) ∧ (nI b = 0 → P s.1)) := by
  unfold whF at h
  unfold whI whM
  refine eq_dec' (b := 0) (by omega) (by decide) (fun e => ?_) (fun n0 => ?_)
  · rw [if_pos e] at h; exact h
  rw [if_neg n0] at h
  by_cases c : s.2.1 = 9
  · rw [if_pos c] at h
    rw [if_pos c]
    exact ⟨fun q => absurd q (by decide), fun _ => h⟩
  · rw [if_neg c] at h
    rw [if_neg c, if_neg c]
    refine ⟨fun _ => eq_dec' (b := 1) (by omega) (by decide) (fun e => ?_) (fun e => ?_), fun q => absurd (nI_pos' (by omega)) q⟩
    · rw [if_pos e] at h; exact h
    · rw [if_neg e] at h; exact h
theorem whF_7 {b : Nat} {s : Int32 × Nat × Nat} {P : Int32 → Prop} {E : Prop} (hb : b ≤ 2) (ho : s.2.1 ≤ max 9 9 ∧ s.2.2 ≤ 10) (h : whF b s P E) : ((¬ nI b = 0 → ((¬ whI s = (-1 : Int32) → ((¬ nI b = (1 : Int32) → P (whM 0 s)) ∧ (nI b = (1 : Int32) → P (whI s)))) ∧ (whI s = (-1 : Int32) → E))) ∧ (nI b = 0 → P s.1)) := by
  unfold whF at h
  unfold whI whM
  refine eq_dec' (b := 0) (by omega) (by decide) (fun e => ?_) (fun n0 => ?_)
  · rw [if_pos e] at h; exact h
  rw [if_neg n0] at h
  by_cases c : s.2.1 = 9
  · rw [if_pos c] at h
    rw [if_pos c]
    exact ⟨fun q => absurd rfl q, fun _ => h⟩
  · rw [if_neg c] at h
    rw [if_neg c, if_neg c]
    refine ⟨fun _ => eq_dec' (b := 1) (by omega) (by decide) (fun e => ?_) (fun e => ?_), fun q => absurd q (nI_nem1 (by omega))⟩
    · rw [if_pos e] at h; exact h
    · rw [if_neg e] at h; exact h
theorem xsub_vu {E : xF} {o m : Nat} {x : Int32} : xsub (va_up E (o + m) x) o = va_up (xsub E o) m x := by
  funext k
  show va_up E (o + m) x (o + k) = _
  by_cases c : k = m
  · subst c; rw [vu_at, vu_at]
  · rw [vu_ne (by omega), vu_ne c]; rfl
theorem xcat_back {α : Type} (f : Nat → α) {o p n m : Nat} : xspl (xspl f o n (xcat n (xsub f o) (xsub f p))) p m (xsub (xcat n (xsub f o) (xsub f p)) n) = f := by
  have e : xsub (xcat n (xsub f o) (xsub f p)) n = xsub f p := by
    funext k
    show xcat n _ _ (n + k) = _
    unfold xcat
    rw [if_neg (by omega), Nat.add_sub_cancel_left]
  rw [e]
  funext k
  by_cases c : p ≤ k ∧ k < p + m
  · obtain ⟨j, rfl⟩ : ∃ j, k = p + j := ⟨k - p, by omega⟩
    rw [xspl_in (by omega)]; rfl
  · rw [xspl_out (by omega)]
    by_cases d : o ≤ k ∧ k < o + n
    · obtain ⟨j, rfl⟩ : ∃ j, k = o + j := ⟨k - o, by omega⟩
      rw [xspl_in (by omega)]
      unfold xcat
      rw [if_pos (by omega)]; rfl
    · rw [xspl_out (by omega)]
theorem s2_starts {o p o2 p2 s : Nat} {F : xF} {G : xA} {num : Nat → Int32} {pu : Nat → Nat} {K : Int32 → xF → xA → Prop} (en : F (o + 1) = nI s) (hs : 9 ≤ s) (hs2 : s ≤ 24) (hN : G o2 = num) (hP : ∀ g, g < 9 → G (p2 + 4) g = nI (pu g)) (h : K (if stB num pu = true then 1 else 0) F G) : qX2_startsWith (xcat 2 (xsub F o) (xsub F p)) (xcat 1 (xsub G o2) (xsub G p2)) (fun r F1 G1 => (∀ E : xF, E = (xspl (xspl F o 2 F1) p 7 (xsub F1 2)) → (∀ H : xA, H = (xspl (xspl G o2 1 G1) p2 14 (xsub G1 1)) → K r E H))) := by
  have fin : ∀ r, K r F G → (∀ E : xF, E = (xspl (xspl F o 2 (xcat 2 (xsub F o) (xsub F p))) p 7 (xsub (xcat 2 (xsub F o) (xsub F p)) 2)) → (∀ H : xA, H = (xspl (xspl G o2 1 (xcat 1 (xsub G o2) (xsub G p2))) p2 14 (xsub (xcat 1 (xsub G o2) (xsub G p2)) 1)) → K r E H)) := fun r k E eE H eH => by
    rw [eE, eH, xcat_back, xcat_back]; exact k
  have f1 : xcat 2 (xsub F o) (xsub F p) 1 = nI s := en
  have g0 : xcat 1 (xsub G o2) (xsub G p2) 0 = num := hN
  have g5 : xcat 1 (xsub G o2) (xsub G p2) 5 = G (p2 + 4) := rfl
  have key : ∀ (n k : Nat), k + n = 9 → (∀ g, g < k → num g = nI (pu g)) → qX2_startsWith_2 (fun r F1 G1 => (∀ E : xF, E = (xspl (xspl F o 2 F1) p 7 (xsub F1 2)) → (∀ H : xA, H = (xspl (xspl G o2 1 G1) p2 14 (xsub G1 1)) → K r E H))) (n + 1) (nI k) (xcat 2 (xsub F o) (xsub F p)) (xcat 1 (xsub G o2) (xsub G p2)) := by
    intro n
    induction n with
    | zero =>
      intro k hk hx
      obtain rfl : k = 9 := by omega
      have c : stB num pu = true := stB_iff.mpr hx
      rw [if_pos c] at h
      exact ⟨fun _ => fin _ h, fun c => absurd (nI_le (a := 9) (b := 9) (Nat.le_refl _) (by decide)) c⟩
    | succ n ih =>
      intro k hk hx
      rw [qX2_startsWith_2, f1, g0, g5, nI_clamp (show k < 2 ^ 31 by omega), hP k (by omega), show nI k + (1 : Int32) = nI (k + 1) from nI_1 k]
      refine ⟨fun c => absurd (show nI 9 ≤ nI k from c) (nI_ge (by omega) (by omega)), fun _ => ⟨fun c => absurd c (nI_ge (by omega) (by omega)), fun _ => ⟨xvin (by omega) (by omega), xvin (by omega) (by omega), fun c => ih (k + 1) (by omega) (fun g hg => ?_), fun c => ?_⟩⟩⟩
      · by_cases z : g = k
        · rw [z]; exact c
        · exact hx g (by omega)
      · have d : ¬ stB num pu = true := fun q => c (stB_iff.mp q k (by omega))
        rw [if_neg d] at h
        exact fin _ h
  exact ⟨10, key 9 0 (by omega) (fun g hg => by omega)⟩
theorem s6_part {w : wW} {t0 t1 : wT} {o o2 f found : Nat} {F : xF} {G : xA} {K : xF → xA → Prop} (hw : Wok w) (hf : f < 9) (hn : found ≤ 9999) (r : R5 w t0 t1 (xsub F o) (xsub G o2)) (h : ∀ E H, R5 (partW w f (hidW w f found) (found - hidW w f found)) t0 t1 (xsub E o) (xsub H o2) → (∀ k, (k < o ∨ o + 7 ≤ k) → E k = F k) → (∀ k, (k < o2 ∨ o2 + 14 ≤ k) → H k = G k) → K E H) : qX5_partOut (nI f) (nI found) (xsub F o) (xsub G o2) (fun F1 G1 => ∀ E : xF, E = xspl F o 7 F1 → ∀ H : xA, H = xspl G o2 14 G1 → K E H) :=
  s5_partOut hw hf hn r (fun G1 _ r1 E eE H eH => h E H (by rw [eE, eH]; exact R5_blk r1) (fun k hk => by rw [eE, xspl_out hk]) (fun k hk => by rw [eH, xspl_out hk]))
def WHO6 (Q : Int32 → xF → xA → Prop) (q n b : Nat) (F : xF) (G : xA) : Prop := (vp_in (nI q) 4) ∧ (((nI q).toNatClampNeg = 0 → qX2_isMissing  (xsub F 42) (xsub G 66) (fun r42 F42 G42 => (∀ E42 : xF, E42 = (xspl F 42 2 F42) → (∀ H42 : xA, H42 = (xspl G 66 1 G42) → ((¬ r42 = 0 → qX6_error (2 : Int32) E42 H42 (fun r60 F60 G60 => Q r60 F60 G60)) ∧ (r42 = 0 → (((9 : Int32) ≤ (E42 43) → ∃ j76, qX6_whoHid_76 Q j76 (nI n) (nI b) (0 : Int32) (-1 : Int32) (-1 : Int32) (0 : Int32) E42 H42) ∧ (¬ (9 : Int32) ≤ (E42 43) → qX6_error (2 : Int32) E42 H42 (fun r60 F60 G60 => Q r60 F60 G60))))))))) ∧ ((nI q).toNatClampNeg = 1 → qX2_isMissing  (xsub F 44) (xsub G 67) (fun r42 F42 G42 => (∀ E42 : xF, E42 = (xspl F 44 2 F42) → (∀ H42 : xA, H42 = (xspl G 67 1 G42) → ((¬ r42 = 0 → qX6_error (2 : Int32) E42 H42 (fun r60 F60 G60 => Q r60 F60 G60)) ∧ (r42 = 0 → (((9 : Int32) ≤ (E42 45) → ∃ j76_1, qX6_whoHid_76_1 Q j76_1 (nI n) (nI b) (0 : Int32) (-1 : Int32) (-1 : Int32) (0 : Int32) E42 H42) ∧ (¬ (9 : Int32) ≤ (E42 45) → qX6_error (2 : Int32) E42 H42 (fun r60 F60 G60 => Q r60 F60 G60))))))))) ∧ ((nI q).toNatClampNeg = 2 → qX2_isMissing  (xsub F 46) (xsub G 68) (fun r42 F42 G42 => (∀ E42 : xF, E42 = (xspl F 46 2 F42) → (∀ H42 : xA, H42 = (xspl G 68 1 G42) → ((¬ r42 = 0 → qX6_error (2 : Int32) E42 H42 (fun r60 F60 G60 => Q r60 F60 G60)) ∧ (r42 = 0 → (((9 : Int32) ≤ (E42 47) → ∃ j76_2, qX6_whoHid_76_2 Q j76_2 (nI n) (nI b) (0 : Int32) (-1 : Int32) (-1 : Int32) (0 : Int32) E42 H42) ∧ (¬ (9 : Int32) ≤ (E42 47) → qX6_error (2 : Int32) E42 H42 (fun r60 F60 G60 => Q r60 F60 G60))))))))) ∧ ((nI q).toNatClampNeg = 3 → qX2_isMissing  (xsub F 48) (xsub G 69) (fun r42 F42 G42 => (∀ E42 : xF, E42 = (xspl F 48 2 F42) → (∀ H42 : xA, H42 = (xspl G 69 1 G42) → ((¬ r42 = 0 → qX6_error (2 : Int32) E42 H42 (fun r60 F60 G60 => Q r60 F60 G60)) ∧ (r42 = 0 → (((9 : Int32) ≤ (E42 49) → ∃ j76_3, qX6_whoHid_76_3 Q j76_3 (nI n) (nI b) (0 : Int32) (-1 : Int32) (-1 : Int32) (0 : Int32) E42 H42) ∧ (¬ (9 : Int32) ≤ (E42 49) → qX6_error (2 : Int32) E42 H42 (fun r60 F60 G60 => Q r60 F60 G60))))))))))

theorem s6_least_0 {w : wW} {t0 t1 : wT} {F : xF} {G : xA} {f n s : Nat} {Q : Int32 → xF → xA → Prop} (hw : Wok w) (hd : w 0 ≤ 9999) (h0 : wTx t0) (h1 : wTx t1) (hf : f < 9) (hn : n ≤ 18) (en : F 43 = nI s) (hs : 9 ≤ s) (hs2 : s ≤ 24) (r5 : R5 w t0 t1 F G) (h : ∀ E H, side6 F E G H → Q (lmV (lmS t0 t1 w (G 66) f n 10 0)) E H) : qX6_leastMark_0 (nI f) (nI n) F G Q := by
  unfold qX6_leastMark_0
  refine s6_take (o := 14) (p := 0) (o2 := 28) (p2 := 0) (R5_z r5) (by omega) (by omega) (fun E H rE _ _ fE fH => ?_)
  refine ⟨xvin hf (by omega), fun G1 e1 => ⟨n + 1, ?_⟩⟩
  rw [nI_clamp (show f < 2 ^ 31 by omega)] at e1
  have rH : R5 (hdW w f) t0 t1 (xsub E 14) (xsub G1 28) := by
    rw [e1, show (30 : Nat) = 28 + 2 from rfl, xsub_xst]
    exact R5_s_kind rE hf
  have hs1 : side6 F E G G1 := side6_b (o := 14) (o2 := 28) (by omega) (by omega) fE (fun k hk => by rw [e1, xst_ne (by omega)]; exact fH k hk)
  have okh := Wok_hdW hw hf
  have dh : hdW w f 0 = w 0 := by unfold hdW; rw [wU_ne (by omega)]
  -- one mark after the other
  have marks : ∀ (E2 : xF) (H2 : xA), side6 F E2 G H2 → (∀ i, i < n → H2 61 i = nI (dayF t1 (goW t0 t1 (hdW w f) i))) → ∀ (k m : Nat) (E3 : xF) (H3 : xA), m + k = 10 → side6 F E3 G H3 → H3 61 = H2 61 → lmS t0 t1 w (G 66) f n k m = lmS t0 t1 w (G 66) f n 10 0 → qX6_leastMark_0_54 Q (k + 1) (nI f) (nI n) (nI m) E3 H3 := by
    intro E2 H2 hs2' fi k
    induction k with
    | zero =>
      intro m E3 H3 hm hs3 _ hx
      obtain rfl : m = 10 := by omega
      refine ⟨fun _ => ?_, fun c => absurd (show nI 9 < nI 10 from nI_lt (by omega) (by omega)) c⟩
      have := h E3 H3 hs3
      rw [← hx] at this
      exact this
    | succ k ih =>
      intro m E3 H3 hm hs3 f61 hx
      have okv := Wok_exW (m := m) hw hf (by omega)
      have dv : exW w f m 0 = w 0 := by unfold exW; rw [wU_ne (by omega), wU_ne (by omega)]
      refine ⟨fun c => absurd (show nI 9 < nI m from c) (nI_nlt (by omega) (by omega)), fun _ => ?_⟩
      refine s6_take (o := 21) (p := 0) (o2 := 42) (p2 := 0) (R5_z (R5_side r5 hs3)) (by omega) (by omega) (fun E4 H4 r4 _ _ fE4 fH4 => ⟨xvin hf (by omega), fun G5 e5 => ⟨xvin hf (by omega), fun G6 e6 => ⟨n + 1, ?_⟩⟩⟩)
      rw [nI_clamp (show f < 2 ^ 31 by omega)] at e5 e6
      have r6 : R5 (exW w f m) t0 t1 (xsub E4 21) (xsub G6 42) := by
        rw [e6, show (45 : Nat) = 42 + 3 from rfl, xsub_xst]
        refine R5_s_mark ?_ hf
        rw [e5, show (44 : Nat) = 42 + 2 from rfl, xsub_xst]
        exact R5_s_kind r4 hf
      have k6 : ∀ j, (j < 42 ∨ 56 ≤ j) → G6 j = H3 j := fun j hj => by rw [e6, xst_ne (by omega), e5, xst_ne (by omega)]; exact fH4 j (by omega)
      have hs6 : side6 F E4 G G6 := side6_tr hs3 (side6_b (o := 21) (o2 := 42) (by omega) (by omega) fE4 (fun j hj => k6 j (by omega)))
      have trial : ∀ (l i : Nat) (E7 : xF) (H7 : xA), i + l = n → side6 F E7 G H7 → H7 61 = H2 61 → R5 (trW t0 t1 (hdW w f) (exW w f m) i) t0 t1 (xsub E7 21) (xsub H7 42) → qX6_leastMark_0_96 Q (fun x1 x3 x4 F G => qX6_leastMark_0_54 Q (k + 1) x1 x3 x4 F G) (l + 1) (nI f) (nI n) (nI m) (nI i) E7 H7 := by
        intro l
        induction l with
        | zero =>
          intro i E7 H7 hi hs7 z7 r7
          obtain rfl : i = n := by omega
          obtain ⟨okt, et⟩ := trW_ok (t0 := t0) (t1 := t1) okv (hd_F hw hf (m := m) (by omega)) i
          refine ⟨fun _ => s2_starts (o := 42) (p := 21) (o2 := 66) (p2 := 42) (s := s) (by rw [hs7.1 43 (by omega)]; exact en) hs hs2 (num := G 66) (pu := fun g => wF (goW t0 t1 (exW w f m) i) g 2) (by rw [hs7.2 66 (by omega)]) (fun g hg => ?_) ?_, fun c => absurd (nI_le (Nat.le_refl _) (by omega)) c⟩
          · have := r7.2.2.2.2.2.1 g hg
            rw [show H7 (42 + 4) g = xsub H7 42 4 g from rfl, this]
            congr 1
            exact et _ (Or.inr (by omega))
          · rw [lmS_s] at hx
            by_cases c : exB t0 t1 w (G 66) f i m = true
            · have c' : stB (G 66) (fun g => wF (goW t0 t1 (exW w f m) i) g 2) = true := c
              rw [if_pos c] at hx
              rw [if_pos c']
              refine ⟨fun q => absurd q (by decide), fun _ => ?_⟩
              have := h E7 H7 hs7
              rw [← hx] at this
              unfold lmV at this
              rw [if_neg (by omega)] at this
              exact this
            · have c' : ¬ stB (G 66) (fun g => wF (goW t0 t1 (exW w f m) i) g 2) = true := c
              rw [if_neg c] at hx
              rw [if_neg c']
              refine ⟨fun _ => ?_, fun q => absurd rfl q⟩
              rw [show nI m + (1 : Int32) = nI (m + 1) from nI_1 m]
              exact ih (m + 1) E7 H7 (by omega) hs7 z7 hx
        | succ l ihl =>
          intro i E7 H7 hi hs7 z7 r7
          obtain ⟨okt, et⟩ := trW_ok (t0 := t0) (t1 := t1) okv (hd_F hw hf (m := m) (by omega)) i
          obtain ⟨okg, dg'⟩ := goW_ok (t0 := t0) (t1 := t1) okv i
          have dt : trW t0 t1 (hdW w f) (exW w f m) i 0 = w 0 + i := by rw [et 0 (Or.inl rfl), dg', dv]
          refine ⟨fun c => absurd c (nI_ge (by omega) (by omega)), fun _ => s6_who (o := 21) (o2 := 42) okt (by omega) r7 ⟨xvin (by omega) (by omega), ?_⟩⟩
          rw [nI_clamp (show i < 2 ^ 31 by omega), z7, fi i (by omega)]
          have okh' := (goW_ok (t0 := t0) (t1 := t1) okh i).1
          have hle : dayF t1 (goW t0 t1 (hdW w f) i) ≤ 99 := (digW_ok okh' (whoW_ok okh').1).2.1
          refine s6_part (o := 21) (o2 := 42) okt (whoW_ok okt).1 (by omega) r7 (fun E8 H8 r8 fE8 fH8 F9 e9 => ?_)
          have r9 : R5 (trW t0 t1 (hdW w f) (exW w f m) (i + 1)) t0 t1 (xsub F9 21) (xsub H8 42) := by
            have z8 : E8 24 = nI (trW t0 t1 (hdW w f) (exW w f m) i 0) := by
              have := r8.1.2.2.2
              rw [partW_ne (by omega) (by omega)] at this
              exact this
            rw [z8, nI_1] at e9
            rw [e9, show (24 : Nat) = 21 + 3 from rfl, xsub_vu]
            exact R5_s_day r8
          rw [show nI i + (1 : Int32) = nI (i + 1) from nI_1 i]
          exact ihl (i + 1) F9 H8 (by omega) (side6_tr hs7 (side6_b (o := 21) (o2 := 42) (by omega) (by omega) (fun j hj => by rw [e9, vu_ne (by omega)]; exact fE8 j hj) fH8)) (by rw [fH8 61 (by omega)]; exact z7) r9
      exact trial n 0 E4 G6 (by omega) hs6 (by rw [k6 61 (by omega)]; exact f61) r6
  have days : ∀ (l i : Nat) (E2 : xF) (H2 : xA), i + l = n → side6 F E2 G H2 → R5 (goW t0 t1 (hdW w f) i) t0 t1 (xsub E2 14) (xsub H2 28) → (∀ j, j < i → H2 61 j = nI (dayF t1 (goW t0 t1 (hdW w f) j))) → qX6_leastMark_0_24 Q (l + 1) (nI f) (nI n) (nI i) E2 H2 := by
    intro l
    induction l with
    | zero =>
      intro i E2 H2 hi hs2' r2 fi
      obtain rfl : i = n := by omega
      exact ⟨fun _ => ⟨11, marks E2 H2 hs2' fi 10 0 E2 H2 (by omega) hs2' rfl rfl⟩, fun c => absurd (nI_le (Nat.le_refl _) (by omega)) c⟩
    | succ l ih =>
      intro i E2 H2 hi hs2' r2 fi
      obtain ⟨okg, dg'⟩ := goW_ok (t0 := t0) (t1 := t1) okh i
      refine ⟨fun c => absurd c (nI_ge (by omega) (by omega)), fun _ => s6_day (o := 14) (o2 := 28) okg (by omega) h0 h1 r2 (Or.inl ⟨rfl, rfl⟩) (fun E3 H3 r3 _ _ fE3 fH3 => ⟨xvin (by omega) (by omega), fun G4 e4 => ?_⟩)⟩
      rw [nI_clamp (show i < 2 ^ 31 by omega)] at e4
      rw [show nI i + (1 : Int32) = nI (i + 1) from nI_1 i]
      have hs3 : side6 F E3 G H3 := side6_tr hs2' (side6_b (o := 14) (o2 := 28) (by omega) (by omega) fE3 fH3)
      refine ih (i + 1) E3 G4 (by omega) ⟨hs3.1, fun k q => by rw [e4, xst_ne (by omega)]; exact hs3.2 k q⟩ (R5_c r3 (fun _ _ _ => rfl) (fun k hk => by show G4 (28 + k) = H3 (28 + k); rw [e4, xst_ne (by omega)])) (fun j hj => ?_)
      rw [e4, xst_at]
      by_cases c : j = i
      · subst c; rw [upd_at]
      · rw [upd_ne c, fH3 61 (by omega)]; exact fi j (by omega)
  exact days n 0 E G1 (by omega) hs1 rH (fun j hj => by omega)
theorem s6_whoHid_0 {w : wW} {t0 t1 : wT} {F : xF} {G : xA} {b n s : Nat} {Q : Int32 → xF → xA → Prop} (hw : Wok w) (hd : w 0 ≤ 9999) (h0 : wTx t0) (h1 : wTx t1) (hb : b ≤ 2) (hn : n ≤ 18) (en : F 43 = nI s) (hs2 : s ≤ 24) (r5 : R5 w t0 t1 F G) (hE : (F 42 = 0 ∨ s < 9) → qX6_error (2 : Int32) F G Q) (h : ¬ F 42 = 0 → 9 ≤ s → ∀ E H, side6 F E G H → whF b (whS t0 t1 w (G 66) n 9) (fun x => Q x E H) (qX6_error (2 : Int32) E H Q)) : WHO6 Q 0 n b F G := by
  refine ⟨xvin (by omega) (by omega), ⟨fun _ => ?_, fun c => absurd c (by decide), fun c => absurd c (by decide), fun c => absurd c (by decide)⟩⟩
  refine s2_missing (F := F) (G := G) (o := 42) (o2 := 66) (fun z => ⟨fun c => absurd rfl c, fun _ => ?_⟩) (fun z => ⟨fun _ => hE (Or.inl z), fun c => absurd c (by decide)⟩)
  rw [en]
  refine le_dec (a := 9) (b := s) (by decide) (by omega) (fun h9 => ⟨10, ?_⟩) (fun h9 => hE (Or.inr h9))
  have key : ∀ (k f : Nat) (E : xF) (H : xA), f + k = 9 → side6 F E G H → qX6_whoHid_76 Q (k + 1) (nI n) (nI b) (whS t0 t1 w (G 66) n f).1 (whI (whS t0 t1 w (G 66) n f)) (whM (-1) (whS t0 t1 w (G 66) n f)) (nI f) E H := by
    intro k
    induction k with
    | zero =>
      intro f E H hf hs
      obtain rfl : f = 9 := by omega
      have hq := h z h9 E H hs
      refine ⟨fun _ => ?_, fun c => absurd (nI_le (a := 9) (b := 9) (Nat.le_refl _) (by decide)) c⟩
      exact whF_6 hb (whS_ok 9) hq
    | succ k ih =>
      intro f E H hf hs
      have hP : H 66 = G 66 := hs.2 66 (by omega)
      refine ⟨fun c => absurd (show nI 9 ≤ nI f from c) (nI_ge (by omega) (by omega)), fun _ => ?_⟩
      refine s6_least_0 hw hd h0 h1 (show f < 9 by omega) hn (by rw [hs.1 43 (by omega)]; exact en) h9 hs2 (R5_side r5 hs) (fun E1 H1 hs1 => ?_)
      have hs1' : side6 F E1 G H1 := side6_tr hs hs1
      rw [hP, show nI f + (1 : Int32) = nI (f + 1) from nI_1 f]
      have ih' := ih (f + 1) E1 H1 (by omega) hs1'
      rw [whS_s] at ih'
      have hl := lmS_le (t0 := t0) (t1 := t1) (w := w) (num := G 66) (f := f) (n := n) 10 0
      have ho := whS_ok (t0 := t0) (t1 := t1) (w := w) (num := G 66) (n := n) f
      unfold lmV
      by_cases c : lmS t0 t1 w (G 66) f n 10 0 = 10
      · rw [if_pos c]
        rw [if_pos c] at ih'
        exact ⟨fun _ => ih', fun q => absurd (by decide) q⟩
      · rw [if_neg c]
        rw [if_neg c] at ih'
        refine ⟨fun q => absurd q (nI_pos (by omega)), fun _ => ?_⟩
        unfold whI whM at ih' ⊢
        dsimp only at ih'
        by_cases d : (whS t0 t1 w (G 66) n f).2.1 = 9
        · rw [if_pos d, if_pos d] at ih'
          rw [if_pos d, if_pos d]
          rw [if_neg (by omega), if_neg (by omega)] at ih'
          exact ⟨fun q => absurd q (by decide), fun _ => ih'⟩
        · rw [if_neg d, if_neg d] at ih'
          rw [if_neg d, if_neg d]
          rw [if_neg d, if_neg d] at ih'
          exact ⟨fun _ => ih', fun q => absurd (nI_pos' (by omega)) q⟩
  exact key 9 0 F G (by omega) side6_rfl
theorem s6_least_1 {w : wW} {t0 t1 : wT} {F : xF} {G : xA} {f n s : Nat} {Q : Int32 → xF → xA → Prop} (hw : Wok w) (hd : w 0 ≤ 9999) (h0 : wTx t0) (h1 : wTx t1) (hf : f < 9) (hn : n ≤ 18) (en : F 45 = nI s) (hs : 9 ≤ s) (hs2 : s ≤ 24) (r5 : R5 w t0 t1 F G) (h : ∀ E H, side6 F E G H → Q (lmV (lmS t0 t1 w (G 67) f n 10 0)) E H) : qX6_leastMark_1 (nI f) (nI n) F G Q := by
  unfold qX6_leastMark_1
  refine s6_take (o := 14) (p := 0) (o2 := 28) (p2 := 0) (R5_z r5) (by omega) (by omega) (fun E H rE _ _ fE fH => ?_)
  refine ⟨xvin hf (by omega), fun G1 e1 => ⟨n + 1, ?_⟩⟩
  rw [nI_clamp (show f < 2 ^ 31 by omega)] at e1
  have rH : R5 (hdW w f) t0 t1 (xsub E 14) (xsub G1 28) := by
    rw [e1, show (30 : Nat) = 28 + 2 from rfl, xsub_xst]
    exact R5_s_kind rE hf
  have hs1 : side6 F E G G1 := side6_b (o := 14) (o2 := 28) (by omega) (by omega) fE (fun k hk => by rw [e1, xst_ne (by omega)]; exact fH k hk)
  have okh := Wok_hdW hw hf
  have dh : hdW w f 0 = w 0 := by unfold hdW; rw [wU_ne (by omega)]
  -- one mark after the other
  have marks : ∀ (E2 : xF) (H2 : xA), side6 F E2 G H2 → (∀ i, i < n → H2 61 i = nI (dayF t1 (goW t0 t1 (hdW w f) i))) → ∀ (k m : Nat) (E3 : xF) (H3 : xA), m + k = 10 → side6 F E3 G H3 → H3 61 = H2 61 → lmS t0 t1 w (G 67) f n k m = lmS t0 t1 w (G 67) f n 10 0 → qX6_leastMark_1_54 Q (k + 1) (nI f) (nI n) (nI m) E3 H3 := by
    intro E2 H2 hs2' fi k
    induction k with
    | zero =>
      intro m E3 H3 hm hs3 _ hx
      obtain rfl : m = 10 := by omega
      refine ⟨fun _ => ?_, fun c => absurd (show nI 9 < nI 10 from nI_lt (by omega) (by omega)) c⟩
      have := h E3 H3 hs3
      rw [← hx] at this
      exact this
    | succ k ih =>
      intro m E3 H3 hm hs3 f61 hx
      have okv := Wok_exW (m := m) hw hf (by omega)
      have dv : exW w f m 0 = w 0 := by unfold exW; rw [wU_ne (by omega), wU_ne (by omega)]
      refine ⟨fun c => absurd (show nI 9 < nI m from c) (nI_nlt (by omega) (by omega)), fun _ => ?_⟩
      refine s6_take (o := 21) (p := 0) (o2 := 42) (p2 := 0) (R5_z (R5_side r5 hs3)) (by omega) (by omega) (fun E4 H4 r4 _ _ fE4 fH4 => ⟨xvin hf (by omega), fun G5 e5 => ⟨xvin hf (by omega), fun G6 e6 => ⟨n + 1, ?_⟩⟩⟩)
      rw [nI_clamp (show f < 2 ^ 31 by omega)] at e5 e6
      have r6 : R5 (exW w f m) t0 t1 (xsub E4 21) (xsub G6 42) := by
        rw [e6, show (45 : Nat) = 42 + 3 from rfl, xsub_xst]
        refine R5_s_mark ?_ hf
        rw [e5, show (44 : Nat) = 42 + 2 from rfl, xsub_xst]
        exact R5_s_kind r4 hf
      have k6 : ∀ j, (j < 42 ∨ 56 ≤ j) → G6 j = H3 j := fun j hj => by rw [e6, xst_ne (by omega), e5, xst_ne (by omega)]; exact fH4 j (by omega)
      have hs6 : side6 F E4 G G6 := side6_tr hs3 (side6_b (o := 21) (o2 := 42) (by omega) (by omega) fE4 (fun j hj => k6 j (by omega)))
      have trial : ∀ (l i : Nat) (E7 : xF) (H7 : xA), i + l = n → side6 F E7 G H7 → H7 61 = H2 61 → R5 (trW t0 t1 (hdW w f) (exW w f m) i) t0 t1 (xsub E7 21) (xsub H7 42) → qX6_leastMark_1_96 Q (fun x1 x3 x4 F G => qX6_leastMark_1_54 Q (k + 1) x1 x3 x4 F G) (l + 1) (nI f) (nI n) (nI m) (nI i) E7 H7 := by
        intro l
        induction l with
        | zero =>
          intro i E7 H7 hi hs7 z7 r7
          obtain rfl : i = n := by omega
          obtain ⟨okt, et⟩ := trW_ok (t0 := t0) (t1 := t1) okv (hd_F hw hf (m := m) (by omega)) i
          refine ⟨fun _ => s2_starts (o := 44) (p := 21) (o2 := 67) (p2 := 42) (s := s) (by rw [hs7.1 45 (by omega)]; exact en) hs hs2 (num := G 67) (pu := fun g => wF (goW t0 t1 (exW w f m) i) g 2) (by rw [hs7.2 67 (by omega)]) (fun g hg => ?_) ?_, fun c => absurd (nI_le (Nat.le_refl _) (by omega)) c⟩
          · have := r7.2.2.2.2.2.1 g hg
            rw [show H7 (42 + 4) g = xsub H7 42 4 g from rfl, this]
            congr 1
            exact et _ (Or.inr (by omega))
          · rw [lmS_s] at hx
            by_cases c : exB t0 t1 w (G 67) f i m = true
            · have c' : stB (G 67) (fun g => wF (goW t0 t1 (exW w f m) i) g 2) = true := c
              rw [if_pos c] at hx
              rw [if_pos c']
              refine ⟨fun q => absurd q (by decide), fun _ => ?_⟩
              have := h E7 H7 hs7
              rw [← hx] at this
              unfold lmV at this
              rw [if_neg (by omega)] at this
              exact this
            · have c' : ¬ stB (G 67) (fun g => wF (goW t0 t1 (exW w f m) i) g 2) = true := c
              rw [if_neg c] at hx
              rw [if_neg c']
              refine ⟨fun _ => ?_, fun q => absurd rfl q⟩
              rw [show nI m + (1 : Int32) = nI (m + 1) from nI_1 m]
              exact ih (m + 1) E7 H7 (by omega) hs7 z7 hx
        | succ l ihl =>
          intro i E7 H7 hi hs7 z7 r7
          obtain ⟨okt, et⟩ := trW_ok (t0 := t0) (t1 := t1) okv (hd_F hw hf (m := m) (by omega)) i
          obtain ⟨okg, dg'⟩ := goW_ok (t0 := t0) (t1 := t1) okv i
          have dt : trW t0 t1 (hdW w f) (exW w f m) i 0 = w 0 + i := by rw [et 0 (Or.inl rfl), dg', dv]
          refine ⟨fun c => absurd c (nI_ge (by omega) (by omega)), fun _ => s6_who (o := 21) (o2 := 42) okt (by omega) r7 ⟨xvin (by omega) (by omega), ?_⟩⟩
          rw [nI_clamp (show i < 2 ^ 31 by omega), z7, fi i (by omega)]
          have okh' := (goW_ok (t0 := t0) (t1 := t1) okh i).1
          have hle : dayF t1 (goW t0 t1 (hdW w f) i) ≤ 99 := (digW_ok okh' (whoW_ok okh').1).2.1
          refine s6_part (o := 21) (o2 := 42) okt (whoW_ok okt).1 (by omega) r7 (fun E8 H8 r8 fE8 fH8 F9 e9 => ?_)
          have r9 : R5 (trW t0 t1 (hdW w f) (exW w f m) (i + 1)) t0 t1 (xsub F9 21) (xsub H8 42) := by
            have z8 : E8 24 = nI (trW t0 t1 (hdW w f) (exW w f m) i 0) := by
              have := r8.1.2.2.2
              rw [partW_ne (by omega) (by omega)] at this
              exact this
            rw [z8, nI_1] at e9
            rw [e9, show (24 : Nat) = 21 + 3 from rfl, xsub_vu]
            exact R5_s_day r8
          rw [show nI i + (1 : Int32) = nI (i + 1) from nI_1 i]
          exact ihl (i + 1) F9 H8 (by omega) (side6_tr hs7 (side6_b (o := 21) (o2 := 42) (by omega) (by omega) (fun j hj => by rw [e9, vu_ne (by omega)]; exact fE8 j hj) fH8)) (by rw [fH8 61 (by omega)]; exact z7) r9
      exact trial n 0 E4 G6 (by omega) hs6 (by rw [k6 61 (by omega)]; exact f61) r6
  have days : ∀ (l i : Nat) (E2 : xF) (H2 : xA), i + l = n → side6 F E2 G H2 → R5 (goW t0 t1 (hdW w f) i) t0 t1 (xsub E2 14) (xsub H2 28) → (∀ j, j < i → H2 61 j = nI (dayF t1 (goW t0 t1 (hdW w f) j))) → qX6_leastMark_1_24 Q (l + 1) (nI f) (nI n) (nI i) E2 H2 := by
    intro l
    induction l with
    | zero =>
      intro i E2 H2 hi hs2' r2 fi
      obtain rfl : i = n := by omega
      exact ⟨fun _ => ⟨11, marks E2 H2 hs2' fi 10 0 E2 H2 (by omega) hs2' rfl rfl⟩, fun c => absurd (nI_le (Nat.le_refl _) (by omega)) c⟩
    | succ l ih =>
      intro i E2 H2 hi hs2' r2 fi
      obtain ⟨okg, dg'⟩ := goW_ok (t0 := t0) (t1 := t1) okh i
      refine ⟨fun c => absurd c (nI_ge (by omega) (by omega)), fun _ => s6_day (o := 14) (o2 := 28) okg (by omega) h0 h1 r2 (Or.inl ⟨rfl, rfl⟩) (fun E3 H3 r3 _ _ fE3 fH3 => ⟨xvin (by omega) (by omega), fun G4 e4 => ?_⟩)⟩
      rw [nI_clamp (show i < 2 ^ 31 by omega)] at e4
      rw [show nI i + (1 : Int32) = nI (i + 1) from nI_1 i]
      have hs3 : side6 F E3 G H3 := side6_tr hs2' (side6_b (o := 14) (o2 := 28) (by omega) (by omega) fE3 fH3)
      refine ih (i + 1) E3 G4 (by omega) ⟨hs3.1, fun k q => by rw [e4, xst_ne (by omega)]; exact hs3.2 k q⟩ (R5_c r3 (fun _ _ _ => rfl) (fun k hk => by show G4 (28 + k) = H3 (28 + k); rw [e4, xst_ne (by omega)])) (fun j hj => ?_)
      rw [e4, xst_at]
      by_cases c : j = i
      · subst c; rw [upd_at]
      · rw [upd_ne c, fH3 61 (by omega)]; exact fi j (by omega)
  exact days n 0 E G1 (by omega) hs1 rH (fun j hj => by omega)
theorem s6_whoHid_1 {w : wW} {t0 t1 : wT} {F : xF} {G : xA} {b n s : Nat} {Q : Int32 → xF → xA → Prop} (hw : Wok w) (hd : w 0 ≤ 9999) (h0 : wTx t0) (h1 : wTx t1) (hb : b ≤ 2) (hn : n ≤ 18) (en : F 45 = nI s) (hs2 : s ≤ 24) (r5 : R5 w t0 t1 F G) (hE : (F 44 = 0 ∨ s < 9) → qX6_error (2 : Int32) F G Q) (h : ¬ F 44 = 0 → 9 ≤ s → ∀ E H, side6 F E G H → whF b (whS t0 t1 w (G 67) n 9) (fun x => Q x E H) (qX6_error (2 : Int32) E H Q)) : WHO6 Q 1 n b F G := by
  refine ⟨xvin (by omega) (by omega), ⟨fun c => absurd c (by decide), fun _ => ?_, fun c => absurd c (by decide), fun c => absurd c (by decide)⟩⟩
  refine s2_missing (F := F) (G := G) (o := 44) (o2 := 67) (fun z => ⟨fun c => absurd rfl c, fun _ => ?_⟩) (fun z => ⟨fun _ => hE (Or.inl z), fun c => absurd c (by decide)⟩)
  rw [en]
  refine le_dec (a := 9) (b := s) (by decide) (by omega) (fun h9 => ⟨10, ?_⟩) (fun h9 => hE (Or.inr h9))
  have key : ∀ (k f : Nat) (E : xF) (H : xA), f + k = 9 → side6 F E G H → qX6_whoHid_76_1 Q (k + 1) (nI n) (nI b) (whS t0 t1 w (G 67) n f).1 (whI (whS t0 t1 w (G 67) n f)) (whM (-1) (whS t0 t1 w (G 67) n f)) (nI f) E H := by
    intro k
    induction k with
    | zero =>
      intro f E H hf hs
      obtain rfl : f = 9 := by omega
      have hq := h z h9 E H hs
      refine ⟨fun _ => ?_, fun c => absurd (nI_le (a := 9) (b := 9) (Nat.le_refl _) (by decide)) c⟩
      exact whF_6 hb (whS_ok 9) hq
    | succ k ih =>
      intro f E H hf hs
      have hP : H 67 = G 67 := hs.2 67 (by omega)
      refine ⟨fun c => absurd (show nI 9 ≤ nI f from c) (nI_ge (by omega) (by omega)), fun _ => ?_⟩
      refine s6_least_1 hw hd h0 h1 (show f < 9 by omega) hn (by rw [hs.1 45 (by omega)]; exact en) h9 hs2 (R5_side r5 hs) (fun E1 H1 hs1 => ?_)
      have hs1' : side6 F E1 G H1 := side6_tr hs hs1
      rw [hP, show nI f + (1 : Int32) = nI (f + 1) from nI_1 f]
      have ih' := ih (f + 1) E1 H1 (by omega) hs1'
      rw [whS_s] at ih'
      have hl := lmS_le (t0 := t0) (t1 := t1) (w := w) (num := G 67) (f := f) (n := n) 10 0
      have ho := whS_ok (t0 := t0) (t1 := t1) (w := w) (num := G 67) (n := n) f
      unfold lmV
      by_cases c : lmS t0 t1 w (G 67) f n 10 0 = 10
      · rw [if_pos c]
        rw [if_pos c] at ih'
        exact ⟨fun _ => ih', fun q => absurd (by decide) q⟩
      · rw [if_neg c]
        rw [if_neg c] at ih'
        refine ⟨fun q => absurd q (nI_pos (by omega)), fun _ => ?_⟩
        unfold whI whM at ih' ⊢
        dsimp only at ih'
        by_cases d : (whS t0 t1 w (G 67) n f).2.1 = 9
        · rw [if_pos d, if_pos d] at ih'
          rw [if_pos d, if_pos d]
          rw [if_neg (by omega), if_neg (by omega)] at ih'
          exact ⟨fun q => absurd q (by decide), fun _ => ih'⟩
        · rw [if_neg d, if_neg d] at ih'
          rw [if_neg d, if_neg d]
          rw [if_neg d, if_neg d] at ih'
          exact ⟨fun _ => ih', fun q => absurd (nI_pos' (by omega)) q⟩
  exact key 9 0 F G (by omega) side6_rfl
theorem s6_least_2 {w : wW} {t0 t1 : wT} {F : xF} {G : xA} {f n s : Nat} {Q : Int32 → xF → xA → Prop} (hw : Wok w) (hd : w 0 ≤ 9999) (h0 : wTx t0) (h1 : wTx t1) (hf : f < 9) (hn : n ≤ 18) (en : F 47 = nI s) (hs : 9 ≤ s) (hs2 : s ≤ 24) (r5 : R5 w t0 t1 F G) (h : ∀ E H, side6 F E G H → Q (lmV (lmS t0 t1 w (G 68) f n 10 0)) E H) : qX6_leastMark_2 (nI f) (nI n) F G Q := by
  unfold qX6_leastMark_2
  refine s6_take (o := 14) (p := 0) (o2 := 28) (p2 := 0) (R5_z r5) (by omega) (by omega) (fun E H rE _ _ fE fH => ?_)
  refine ⟨xvin hf (by omega), fun G1 e1 => ⟨n + 1, ?_⟩⟩
  rw [nI_clamp (show f < 2 ^ 31 by omega)] at e1
  have rH : R5 (hdW w f) t0 t1 (xsub E 14) (xsub G1 28) := by
    rw [e1, show (30 : Nat) = 28 + 2 from rfl, xsub_xst]
    exact R5_s_kind rE hf
  have hs1 : side6 F E G G1 := side6_b (o := 14) (o2 := 28) (by omega) (by omega) fE (fun k hk => by rw [e1, xst_ne (by omega)]; exact fH k hk)
  have okh := Wok_hdW hw hf
  have dh : hdW w f 0 = w 0 := by unfold hdW; rw [wU_ne (by omega)]
  -- one mark after the other
  have marks : ∀ (E2 : xF) (H2 : xA), side6 F E2 G H2 → (∀ i, i < n → H2 61 i = nI (dayF t1 (goW t0 t1 (hdW w f) i))) → ∀ (k m : Nat) (E3 : xF) (H3 : xA), m + k = 10 → side6 F E3 G H3 → H3 61 = H2 61 → lmS t0 t1 w (G 68) f n k m = lmS t0 t1 w (G 68) f n 10 0 → qX6_leastMark_2_54 Q (k + 1) (nI f) (nI n) (nI m) E3 H3 := by
    intro E2 H2 hs2' fi k
    induction k with
    | zero =>
      intro m E3 H3 hm hs3 _ hx
      obtain rfl : m = 10 := by omega
      refine ⟨fun _ => ?_, fun c => absurd (show nI 9 < nI 10 from nI_lt (by omega) (by omega)) c⟩
      have := h E3 H3 hs3
      rw [← hx] at this
      exact this
    | succ k ih =>
      intro m E3 H3 hm hs3 f61 hx
      have okv := Wok_exW (m := m) hw hf (by omega)
      have dv : exW w f m 0 = w 0 := by unfold exW; rw [wU_ne (by omega), wU_ne (by omega)]
      refine ⟨fun c => absurd (show nI 9 < nI m from c) (nI_nlt (by omega) (by omega)), fun _ => ?_⟩
      refine s6_take (o := 21) (p := 0) (o2 := 42) (p2 := 0) (R5_z (R5_side r5 hs3)) (by omega) (by omega) (fun E4 H4 r4 _ _ fE4 fH4 => ⟨xvin hf (by omega), fun G5 e5 => ⟨xvin hf (by omega), fun G6 e6 => ⟨n + 1, ?_⟩⟩⟩)
      rw [nI_clamp (show f < 2 ^ 31 by omega)] at e5 e6
      have r6 : R5 (exW w f m) t0 t1 (xsub E4 21) (xsub G6 42) := by
        rw [e6, show (45 : Nat) = 42 + 3 from rfl, xsub_xst]
        refine R5_s_mark ?_ hf
        rw [e5, show (44 : Nat) = 42 + 2 from rfl, xsub_xst]
        exact R5_s_kind r4 hf
      have k6 : ∀ j, (j < 42 ∨ 56 ≤ j) → G6 j = H3 j := fun j hj => by rw [e6, xst_ne (by omega), e5, xst_ne (by omega)]; exact fH4 j (by omega)
      have hs6 : side6 F E4 G G6 := side6_tr hs3 (side6_b (o := 21) (o2 := 42) (by omega) (by omega) fE4 (fun j hj => k6 j (by omega)))
      have trial : ∀ (l i : Nat) (E7 : xF) (H7 : xA), i + l = n → side6 F E7 G H7 → H7 61 = H2 61 → R5 (trW t0 t1 (hdW w f) (exW w f m) i) t0 t1 (xsub E7 21) (xsub H7 42) → qX6_leastMark_2_96 Q (fun x1 x3 x4 F G => qX6_leastMark_2_54 Q (k + 1) x1 x3 x4 F G) (l + 1) (nI f) (nI n) (nI m) (nI i) E7 H7 := by
        intro l
        induction l with
        | zero =>
          intro i E7 H7 hi hs7 z7 r7
          obtain rfl : i = n := by omega
          obtain ⟨okt, et⟩ := trW_ok (t0 := t0) (t1 := t1) okv (hd_F hw hf (m := m) (by omega)) i
          refine ⟨fun _ => s2_starts (o := 46) (p := 21) (o2 := 68) (p2 := 42) (s := s) (by rw [hs7.1 47 (by omega)]; exact en) hs hs2 (num := G 68) (pu := fun g => wF (goW t0 t1 (exW w f m) i) g 2) (by rw [hs7.2 68 (by omega)]) (fun g hg => ?_) ?_, fun c => absurd (nI_le (Nat.le_refl _) (by omega)) c⟩
          · have := r7.2.2.2.2.2.1 g hg
            rw [show H7 (42 + 4) g = xsub H7 42 4 g from rfl, this]
            congr 1
            exact et _ (Or.inr (by omega))
          · rw [lmS_s] at hx
            by_cases c : exB t0 t1 w (G 68) f i m = true
            · have c' : stB (G 68) (fun g => wF (goW t0 t1 (exW w f m) i) g 2) = true := c
              rw [if_pos c] at hx
              rw [if_pos c']
              refine ⟨fun q => absurd q (by decide), fun _ => ?_⟩
              have := h E7 H7 hs7
              rw [← hx] at this
              unfold lmV at this
              rw [if_neg (by omega)] at this
              exact this
            · have c' : ¬ stB (G 68) (fun g => wF (goW t0 t1 (exW w f m) i) g 2) = true := c
              rw [if_neg c] at hx
              rw [if_neg c']
              refine ⟨fun _ => ?_, fun q => absurd rfl q⟩
              rw [show nI m + (1 : Int32) = nI (m + 1) from nI_1 m]
              exact ih (m + 1) E7 H7 (by omega) hs7 z7 hx
        | succ l ihl =>
          intro i E7 H7 hi hs7 z7 r7
          obtain ⟨okt, et⟩ := trW_ok (t0 := t0) (t1 := t1) okv (hd_F hw hf (m := m) (by omega)) i
          obtain ⟨okg, dg'⟩ := goW_ok (t0 := t0) (t1 := t1) okv i
          have dt : trW t0 t1 (hdW w f) (exW w f m) i 0 = w 0 + i := by rw [et 0 (Or.inl rfl), dg', dv]
          refine ⟨fun c => absurd c (nI_ge (by omega) (by omega)), fun _ => s6_who (o := 21) (o2 := 42) okt (by omega) r7 ⟨xvin (by omega) (by omega), ?_⟩⟩
          rw [nI_clamp (show i < 2 ^ 31 by omega), z7, fi i (by omega)]
          have okh' := (goW_ok (t0 := t0) (t1 := t1) okh i).1
          have hle : dayF t1 (goW t0 t1 (hdW w f) i) ≤ 99 := (digW_ok okh' (whoW_ok okh').1).2.1
          refine s6_part (o := 21) (o2 := 42) okt (whoW_ok okt).1 (by omega) r7 (fun E8 H8 r8 fE8 fH8 F9 e9 => ?_)
          have r9 : R5 (trW t0 t1 (hdW w f) (exW w f m) (i + 1)) t0 t1 (xsub F9 21) (xsub H8 42) := by
            have z8 : E8 24 = nI (trW t0 t1 (hdW w f) (exW w f m) i 0) := by
              have := r8.1.2.2.2
              rw [partW_ne (by omega) (by omega)] at this
              exact this
            rw [z8, nI_1] at e9
            rw [e9, show (24 : Nat) = 21 + 3 from rfl, xsub_vu]
            exact R5_s_day r8
          rw [show nI i + (1 : Int32) = nI (i + 1) from nI_1 i]
          exact ihl (i + 1) F9 H8 (by omega) (side6_tr hs7 (side6_b (o := 21) (o2 := 42) (by omega) (by omega) (fun j hj => by rw [e9, vu_ne (by omega)]; exact fE8 j hj) fH8)) (by rw [fH8 61 (by omega)]; exact z7) r9
      exact trial n 0 E4 G6 (by omega) hs6 (by rw [k6 61 (by omega)]; exact f61) r6
  have days : ∀ (l i : Nat) (E2 : xF) (H2 : xA), i + l = n → side6 F E2 G H2 → R5 (goW t0 t1 (hdW w f) i) t0 t1 (xsub E2 14) (xsub H2 28) → (∀ j, j < i → H2 61 j = nI (dayF t1 (goW t0 t1 (hdW w f) j))) → qX6_leastMark_2_24 Q (l + 1) (nI f) (nI n) (nI i) E2 H2 := by
    intro l
    induction l with
    | zero =>
      intro i E2 H2 hi hs2' r2 fi
      obtain rfl : i = n := by omega
      exact ⟨fun _ => ⟨11, marks E2 H2 hs2' fi 10 0 E2 H2 (by omega) hs2' rfl rfl⟩, fun c => absurd (nI_le (Nat.le_refl _) (by omega)) c⟩
    | succ l ih =>
      intro i E2 H2 hi hs2' r2 fi
      obtain ⟨okg, dg'⟩ := goW_ok (t0 := t0) (t1 := t1) okh i
      refine ⟨fun c => absurd c (nI_ge (by omega) (by omega)), fun _ => s6_day (o := 14) (o2 := 28) okg (by omega) h0 h1 r2 (Or.inl ⟨rfl, rfl⟩) (fun E3 H3 r3 _ _ fE3 fH3 => ⟨xvin (by omega) (by omega), fun G4 e4 => ?_⟩)⟩
      rw [nI_clamp (show i < 2 ^ 31 by omega)] at e4
      rw [show nI i + (1 : Int32) = nI (i + 1) from nI_1 i]
      have hs3 : side6 F E3 G H3 := side6_tr hs2' (side6_b (o := 14) (o2 := 28) (by omega) (by omega) fE3 fH3)
      refine ih (i + 1) E3 G4 (by omega) ⟨hs3.1, fun k q => by rw [e4, xst_ne (by omega)]; exact hs3.2 k q⟩ (R5_c r3 (fun _ _ _ => rfl) (fun k hk => by show G4 (28 + k) = H3 (28 + k); rw [e4, xst_ne (by omega)])) (fun j hj => ?_)
      rw [e4, xst_at]
      by_cases c : j = i
      · subst c; rw [upd_at]
      · rw [upd_ne c, fH3 61 (by omega)]; exact fi j (by omega)
  exact days n 0 E G1 (by omega) hs1 rH (fun j hj => by omega)
theorem s6_whoHid_2 {w : wW} {t0 t1 : wT} {F : xF} {G : xA} {b n s : Nat} {Q : Int32 → xF → xA → Prop} (hw : Wok w) (hd : w 0 ≤ 9999) (h0 : wTx t0) (h1 : wTx t1) (hb : b ≤ 2) (hn : n ≤ 18) (en : F 47 = nI s) (hs2 : s ≤ 24) (r5 : R5 w t0 t1 F G) (hE : (F 46 = 0 ∨ s < 9) → qX6_error (2 : Int32) F G Q) (h : ¬ F 46 = 0 → 9 ≤ s → ∀ E H, side6 F E G H → whF b (whS t0 t1 w (G 68) n 9) (fun x => Q x E H) (qX6_error (2 : Int32) E H Q)) : WHO6 Q 2 n b F G := by
  refine ⟨xvin (by omega) (by omega), ⟨fun c => absurd c (by decide), fun c => absurd c (by decide), fun _ => ?_, fun c => absurd c (by decide)⟩⟩
  refine s2_missing (F := F) (G := G) (o := 46) (o2 := 68) (fun z => ⟨fun c => absurd rfl c, fun _ => ?_⟩) (fun z => ⟨fun _ => hE (Or.inl z), fun c => absurd c (by decide)⟩)
  rw [en]
  refine le_dec (a := 9) (b := s) (by decide) (by omega) (fun h9 => ⟨10, ?_⟩) (fun h9 => hE (Or.inr h9))
  have key : ∀ (k f : Nat) (E : xF) (H : xA), f + k = 9 → side6 F E G H → qX6_whoHid_76_2 Q (k + 1) (nI n) (nI b) (whS t0 t1 w (G 68) n f).1 (whI (whS t0 t1 w (G 68) n f)) (whM (-1) (whS t0 t1 w (G 68) n f)) (nI f) E H := by
    intro k
    induction k with
    | zero =>
      intro f E H hf hs
      obtain rfl : f = 9 := by omega
      have hq := h z h9 E H hs
      refine ⟨fun _ => ?_, fun c => absurd (nI_le (a := 9) (b := 9) (Nat.le_refl _) (by decide)) c⟩
      exact whF_6 hb (whS_ok 9) hq
    | succ k ih =>
      intro f E H hf hs
      have hP : H 68 = G 68 := hs.2 68 (by omega)
      refine ⟨fun c => absurd (show nI 9 ≤ nI f from c) (nI_ge (by omega) (by omega)), fun _ => ?_⟩
      refine s6_least_2 hw hd h0 h1 (show f < 9 by omega) hn (by rw [hs.1 47 (by omega)]; exact en) h9 hs2 (R5_side r5 hs) (fun E1 H1 hs1 => ?_)
      have hs1' : side6 F E1 G H1 := side6_tr hs hs1
      rw [hP, show nI f + (1 : Int32) = nI (f + 1) from nI_1 f]
      have ih' := ih (f + 1) E1 H1 (by omega) hs1'
      rw [whS_s] at ih'
      have hl := lmS_le (t0 := t0) (t1 := t1) (w := w) (num := G 68) (f := f) (n := n) 10 0
      have ho := whS_ok (t0 := t0) (t1 := t1) (w := w) (num := G 68) (n := n) f
      unfold lmV
      by_cases c : lmS t0 t1 w (G 68) f n 10 0 = 10
      · rw [if_pos c]
        rw [if_pos c] at ih'
        exact ⟨fun _ => ih', fun q => absurd (by decide) q⟩
      · rw [if_neg c]
        rw [if_neg c] at ih'
        refine ⟨fun q => absurd q (nI_pos (by omega)), fun _ => ?_⟩
        unfold whI whM at ih' ⊢
        dsimp only at ih'
        by_cases d : (whS t0 t1 w (G 68) n f).2.1 = 9
        · rw [if_pos d, if_pos d] at ih'
          rw [if_pos d, if_pos d]
          rw [if_neg (by omega), if_neg (by omega)] at ih'
          exact ⟨fun q => absurd q (by decide), fun _ => ih'⟩
        · rw [if_neg d, if_neg d] at ih'
          rw [if_neg d, if_neg d]
          rw [if_neg d, if_neg d] at ih'
          exact ⟨fun _ => ih', fun q => absurd (nI_pos' (by omega)) q⟩
  exact key 9 0 F G (by omega) side6_rfl
theorem s6_least_3 {w : wW} {t0 t1 : wT} {F : xF} {G : xA} {f n s : Nat} {Q : Int32 → xF → xA → Prop} (hw : Wok w) (hd : w 0 ≤ 9999) (h0 : wTx t0) (h1 : wTx t1) (hf : f < 9) (hn : n ≤ 18) (en : F 49 = nI s) (hs : 9 ≤ s) (hs2 : s ≤ 24) (r5 : R5 w t0 t1 F G) (h : ∀ E H, side6 F E G H → Q (lmV (lmS t0 t1 w (G 69) f n 10 0)) E H) : qX6_leastMark_3 (nI f) (nI n) F G Q := by
  unfold qX6_leastMark_3
  refine s6_take (o := 14) (p := 0) (o2 := 28) (p2 := 0) (R5_z r5) (by omega) (by omega) (fun E H rE _ _ fE fH => ?_)
  refine ⟨xvin hf (by omega), fun G1 e1 => ⟨n + 1, ?_⟩⟩
  rw [nI_clamp (show f < 2 ^ 31 by omega)] at e1
  have rH : R5 (hdW w f) t0 t1 (xsub E 14) (xsub G1 28) := by
    rw [e1, show (30 : Nat) = 28 + 2 from rfl, xsub_xst]
    exact R5_s_kind rE hf
  have hs1 : side6 F E G G1 := side6_b (o := 14) (o2 := 28) (by omega) (by omega) fE (fun k hk => by rw [e1, xst_ne (by omega)]; exact fH k hk)
  have okh := Wok_hdW hw hf
  have dh : hdW w f 0 = w 0 := by unfold hdW; rw [wU_ne (by omega)]
  -- one mark after the other
  have marks : ∀ (E2 : xF) (H2 : xA), side6 F E2 G H2 → (∀ i, i < n → H2 61 i = nI (dayF t1 (goW t0 t1 (hdW w f) i))) → ∀ (k m : Nat) (E3 : xF) (H3 : xA), m + k = 10 → side6 F E3 G H3 → H3 61 = H2 61 → lmS t0 t1 w (G 69) f n k m = lmS t0 t1 w (G 69) f n 10 0 → qX6_leastMark_3_54 Q (k + 1) (nI f) (nI n) (nI m) E3 H3 := by
    intro E2 H2 hs2' fi k
    induction k with
    | zero =>
      intro m E3 H3 hm hs3 _ hx
      obtain rfl : m = 10 := by omega
      refine ⟨fun _ => ?_, fun c => absurd (show nI 9 < nI 10 from nI_lt (by omega) (by omega)) c⟩
      have := h E3 H3 hs3
      rw [← hx] at this
      exact this
    | succ k ih =>
      intro m E3 H3 hm hs3 f61 hx
      have okv := Wok_exW (m := m) hw hf (by omega)
      have dv : exW w f m 0 = w 0 := by unfold exW; rw [wU_ne (by omega), wU_ne (by omega)]
      refine ⟨fun c => absurd (show nI 9 < nI m from c) (nI_nlt (by omega) (by omega)), fun _ => ?_⟩
      refine s6_take (o := 21) (p := 0) (o2 := 42) (p2 := 0) (R5_z (R5_side r5 hs3)) (by omega) (by omega) (fun E4 H4 r4 _ _ fE4 fH4 => ⟨xvin hf (by omega), fun G5 e5 => ⟨xvin hf (by omega), fun G6 e6 => ⟨n + 1, ?_⟩⟩⟩)
      rw [nI_clamp (show f < 2 ^ 31 by omega)] at e5 e6
      have r6 : R5 (exW w f m) t0 t1 (xsub E4 21) (xsub G6 42) := by
        rw [e6, show (45 : Nat) = 42 + 3 from rfl, xsub_xst]
        refine R5_s_mark ?_ hf
        rw [e5, show (44 : Nat) = 42 + 2 from rfl, xsub_xst]
        exact R5_s_kind r4 hf
      have k6 : ∀ j, (j < 42 ∨ 56 ≤ j) → G6 j = H3 j := fun j hj => by rw [e6, xst_ne (by omega), e5, xst_ne (by omega)]; exact fH4 j (by omega)
      have hs6 : side6 F E4 G G6 := side6_tr hs3 (side6_b (o := 21) (o2 := 42) (by omega) (by omega) fE4 (fun j hj => k6 j (by omega)))
      have trial : ∀ (l i : Nat) (E7 : xF) (H7 : xA), i + l = n → side6 F E7 G H7 → H7 61 = H2 61 → R5 (trW t0 t1 (hdW w f) (exW w f m) i) t0 t1 (xsub E7 21) (xsub H7 42) → qX6_leastMark_3_96 Q (fun x1 x3 x4 F G => qX6_leastMark_3_54 Q (k + 1) x1 x3 x4 F G) (l + 1) (nI f) (nI n) (nI m) (nI i) E7 H7 := by
        intro l
        induction l with
        | zero =>
          intro i E7 H7 hi hs7 z7 r7
          obtain rfl : i = n := by omega
          obtain ⟨okt, et⟩ := trW_ok (t0 := t0) (t1 := t1) okv (hd_F hw hf (m := m) (by omega)) i
          refine ⟨fun _ => s2_starts (o := 48) (p := 21) (o2 := 69) (p2 := 42) (s := s) (by rw [hs7.1 49 (by omega)]; exact en) hs hs2 (num := G 69) (pu := fun g => wF (goW t0 t1 (exW w f m) i) g 2) (by rw [hs7.2 69 (by omega)]) (fun g hg => ?_) ?_, fun c => absurd (nI_le (Nat.le_refl _) (by omega)) c⟩
          · have := r7.2.2.2.2.2.1 g hg
            rw [show H7 (42 + 4) g = xsub H7 42 4 g from rfl, this]
            congr 1
            exact et _ (Or.inr (by omega))
          · rw [lmS_s] at hx
            by_cases c : exB t0 t1 w (G 69) f i m = true
            · have c' : stB (G 69) (fun g => wF (goW t0 t1 (exW w f m) i) g 2) = true := c
              rw [if_pos c] at hx
              rw [if_pos c']
              refine ⟨fun q => absurd q (by decide), fun _ => ?_⟩
              have := h E7 H7 hs7
              rw [← hx] at this
              unfold lmV at this
              rw [if_neg (by omega)] at this
              exact this
            · have c' : ¬ stB (G 69) (fun g => wF (goW t0 t1 (exW w f m) i) g 2) = true := c
              rw [if_neg c] at hx
              rw [if_neg c']
              refine ⟨fun _ => ?_, fun q => absurd rfl q⟩
              rw [show nI m + (1 : Int32) = nI (m + 1) from nI_1 m]
              exact ih (m + 1) E7 H7 (by omega) hs7 z7 hx
        | succ l ihl =>
          intro i E7 H7 hi hs7 z7 r7
          obtain ⟨okt, et⟩ := trW_ok (t0 := t0) (t1 := t1) okv (hd_F hw hf (m := m) (by omega)) i
          obtain ⟨okg, dg'⟩ := goW_ok (t0 := t0) (t1 := t1) okv i
          have dt : trW t0 t1 (hdW w f) (exW w f m) i 0 = w 0 + i := by rw [et 0 (Or.inl rfl), dg', dv]
          refine ⟨fun c => absurd c (nI_ge (by omega) (by omega)), fun _ => s6_who (o := 21) (o2 := 42) okt (by omega) r7 ⟨xvin (by omega) (by omega), ?_⟩⟩
          rw [nI_clamp (show i < 2 ^ 31 by omega), z7, fi i (by omega)]
          have okh' := (goW_ok (t0 := t0) (t1 := t1) okh i).1
          have hle : dayF t1 (goW t0 t1 (hdW w f) i) ≤ 99 := (digW_ok okh' (whoW_ok okh').1).2.1
          refine s6_part (o := 21) (o2 := 42) okt (whoW_ok okt).1 (by omega) r7 (fun E8 H8 r8 fE8 fH8 F9 e9 => ?_)
          have r9 : R5 (trW t0 t1 (hdW w f) (exW w f m) (i + 1)) t0 t1 (xsub F9 21) (xsub H8 42) := by
            have z8 : E8 24 = nI (trW t0 t1 (hdW w f) (exW w f m) i 0) := by
              have := r8.1.2.2.2
              rw [partW_ne (by omega) (by omega)] at this
              exact this
            rw [z8, nI_1] at e9
            rw [e9, show (24 : Nat) = 21 + 3 from rfl, xsub_vu]
            exact R5_s_day r8
          rw [show nI i + (1 : Int32) = nI (i + 1) from nI_1 i]
          exact ihl (i + 1) F9 H8 (by omega) (side6_tr hs7 (side6_b (o := 21) (o2 := 42) (by omega) (by omega) (fun j hj => by rw [e9, vu_ne (by omega)]; exact fE8 j hj) fH8)) (by rw [fH8 61 (by omega)]; exact z7) r9
      exact trial n 0 E4 G6 (by omega) hs6 (by rw [k6 61 (by omega)]; exact f61) r6
  have days : ∀ (l i : Nat) (E2 : xF) (H2 : xA), i + l = n → side6 F E2 G H2 → R5 (goW t0 t1 (hdW w f) i) t0 t1 (xsub E2 14) (xsub H2 28) → (∀ j, j < i → H2 61 j = nI (dayF t1 (goW t0 t1 (hdW w f) j))) → qX6_leastMark_3_24 Q (l + 1) (nI f) (nI n) (nI i) E2 H2 := by
    intro l
    induction l with
    | zero =>
      intro i E2 H2 hi hs2' r2 fi
      obtain rfl : i = n := by omega
      exact ⟨fun _ => ⟨11, marks E2 H2 hs2' fi 10 0 E2 H2 (by omega) hs2' rfl rfl⟩, fun c => absurd (nI_le (Nat.le_refl _) (by omega)) c⟩
    | succ l ih =>
      intro i E2 H2 hi hs2' r2 fi
      obtain ⟨okg, dg'⟩ := goW_ok (t0 := t0) (t1 := t1) okh i
      refine ⟨fun c => absurd c (nI_ge (by omega) (by omega)), fun _ => s6_day (o := 14) (o2 := 28) okg (by omega) h0 h1 r2 (Or.inl ⟨rfl, rfl⟩) (fun E3 H3 r3 _ _ fE3 fH3 => ⟨xvin (by omega) (by omega), fun G4 e4 => ?_⟩)⟩
      rw [nI_clamp (show i < 2 ^ 31 by omega)] at e4
      rw [show nI i + (1 : Int32) = nI (i + 1) from nI_1 i]
      have hs3 : side6 F E3 G H3 := side6_tr hs2' (side6_b (o := 14) (o2 := 28) (by omega) (by omega) fE3 fH3)
      refine ih (i + 1) E3 G4 (by omega) ⟨hs3.1, fun k q => by rw [e4, xst_ne (by omega)]; exact hs3.2 k q⟩ (R5_c r3 (fun _ _ _ => rfl) (fun k hk => by show G4 (28 + k) = H3 (28 + k); rw [e4, xst_ne (by omega)])) (fun j hj => ?_)
      rw [e4, xst_at]
      by_cases c : j = i
      · subst c; rw [upd_at]
      · rw [upd_ne c, fH3 61 (by omega)]; exact fi j (by omega)
  exact days n 0 E G1 (by omega) hs1 rH (fun j hj => by omega)
theorem s6_whoHid_3 {w : wW} {t0 t1 : wT} {F : xF} {G : xA} {b n s : Nat} {Q : Int32 → xF → xA → Prop} (hw : Wok w) (hd : w 0 ≤ 9999) (h0 : wTx t0) (h1 : wTx t1) (hb : b ≤ 2) (hn : n ≤ 18) (en : F 49 = nI s) (hs2 : s ≤ 24) (r5 : R5 w t0 t1 F G) (hE : (F 48 = 0 ∨ s < 9) → qX6_error (2 : Int32) F G Q) (h : ¬ F 48 = 0 → 9 ≤ s → ∀ E H, side6 F E G H → whF b (whS t0 t1 w (G 69) n 9) (fun x => Q x E H) (qX6_error (2 : Int32) E H Q)) : WHO6 Q 3 n b F G := by
  refine ⟨xvin (by omega) (by omega), ⟨fun c => absurd c (by decide), fun c => absurd c (by decide), fun c => absurd c (by decide), fun _ => ?_⟩⟩
  refine s2_missing (F := F) (G := G) (o := 48) (o2 := 69) (fun z => ⟨fun c => absurd rfl c, fun _ => ?_⟩) (fun z => ⟨fun _ => hE (Or.inl z), fun c => absurd c (by decide)⟩)
  rw [en]
  refine le_dec (a := 9) (b := s) (by decide) (by omega) (fun h9 => ⟨10, ?_⟩) (fun h9 => hE (Or.inr h9))
  have key : ∀ (k f : Nat) (E : xF) (H : xA), f + k = 9 → side6 F E G H → qX6_whoHid_76_3 Q (k + 1) (nI n) (nI b) (whS t0 t1 w (G 69) n f).1 (whI (whS t0 t1 w (G 69) n f)) (whM (-1) (whS t0 t1 w (G 69) n f)) (nI f) E H := by
    intro k
    induction k with
    | zero =>
      intro f E H hf hs
      obtain rfl : f = 9 := by omega
      have hq := h z h9 E H hs
      refine ⟨fun _ => ?_, fun c => absurd (nI_le (a := 9) (b := 9) (Nat.le_refl _) (by decide)) c⟩
      exact whF_6 hb (whS_ok 9) hq
    | succ k ih =>
      intro f E H hf hs
      have hP : H 69 = G 69 := hs.2 69 (by omega)
      refine ⟨fun c => absurd (show nI 9 ≤ nI f from c) (nI_ge (by omega) (by omega)), fun _ => ?_⟩
      refine s6_least_3 hw hd h0 h1 (show f < 9 by omega) hn (by rw [hs.1 49 (by omega)]; exact en) h9 hs2 (R5_side r5 hs) (fun E1 H1 hs1 => ?_)
      have hs1' : side6 F E1 G H1 := side6_tr hs hs1
      rw [hP, show nI f + (1 : Int32) = nI (f + 1) from nI_1 f]
      have ih' := ih (f + 1) E1 H1 (by omega) hs1'
      rw [whS_s] at ih'
      have hl := lmS_le (t0 := t0) (t1 := t1) (w := w) (num := G 69) (f := f) (n := n) 10 0
      have ho := whS_ok (t0 := t0) (t1 := t1) (w := w) (num := G 69) (n := n) f
      unfold lmV
      by_cases c : lmS t0 t1 w (G 69) f n 10 0 = 10
      · rw [if_pos c]
        rw [if_pos c] at ih'
        exact ⟨fun _ => ih', fun q => absurd (by decide) q⟩
      · rw [if_neg c]
        rw [if_neg c] at ih'
        refine ⟨fun q => absurd q (nI_pos (by omega)), fun _ => ?_⟩
        unfold whI whM at ih' ⊢
        dsimp only at ih'
        by_cases d : (whS t0 t1 w (G 69) n f).2.1 = 9
        · rw [if_pos d, if_pos d] at ih'
          rw [if_pos d, if_pos d]
          rw [if_neg (by omega), if_neg (by omega)] at ih'
          exact ⟨fun q => absurd q (by decide), fun _ => ih'⟩
        · rw [if_neg d, if_neg d] at ih'
          rw [if_neg d, if_neg d]
          rw [if_neg d, if_neg d] at ih'
          exact ⟨fun _ => ih', fun q => absurd (nI_pos' (by omega)) q⟩
  exact key 9 0 F G (by omega) side6_rfl
theorem s7_explains {w : wW} {t0 t1 : wT} {F : xF} {G : xA} {q f m n : Nat} {num : Nat → Int32} {Q : Int32 → xF → xA → Prop} (hw : Wok w) (hd : w 0 ≤ 9999) (h0 : wTx t0) (h1 : wTx t1) (h5 : F 5 = -1) (hq : q < 4) (hf : f < 9) (hm : m ≤ 9) (hn : n ≤ 18) (r7 : R7 w t0 t1 (G 0)) (hN : ∀ i, i < 24 → num i = G 13 (24 * q + i)) (h : ∀ G3, G3 0 = G 0 → (∀ k, k = 1 ∨ k = 3 ∨ (10 ≤ k ∧ k < 14) → G3 k = G k) → Q (if exB t0 t1 w num f n m = true then 1 else 0) F G3) : qX7_explains (nI q) (nI f) (nI m) (nI n) F G Q := by
  unfold qX7_explains
  have okv := Wok_exW hw hf hm
  have dv : exW w f m 0 = w 0 := by unfold exW; rw [wU_ne (by omega), wU_ne (by omega)]
  refine s7_down (fun G1 d1 k1 => s7_lays1 (what := 0) hf (by omega) (s7_lays1 (what := 1) hf (by omega) ?_))
  have rv : R7 (exW w f m) t0 t1 (xst (xst G1 0 (40 + 9 * f + 0) 3) 0 (40 + 9 * f + 1) (nI m) 0) := by
    rw [xst_at, xst_at, k1 0 (by omega)]
    exact R7_upd (R7_upd r7 (by omega)) (by omega)
  refine s7_go (N := n) (by omega) okv (by omega) h0 h1 rv h5 (fun G2 f2 r2 => ?_)
  have d2 : dur7 G G2 := dur_fr d1 (fr7_tr (fr7_tr (fr7_0 (by omega)) (fr7_0 (by omega))) f2)
  have key : ∀ (l k : Nat) (x6 : Int32), k + l = 9 → ((x6 = 1 ∧ ∀ g, g < k → num g = nI (wF (goW t0 t1 (exW w f m) n) g 2)) ∨ (x6 = 0 ∧ ¬ exB t0 t1 w num f n m = true)) → qX7_explains_32 Q (l + 1) (nI q) x6 (nI k) F G2 := by
    intro l
    induction l with
    | zero =>
      intro k x6 hk hx
      obtain rfl : k = 9 := by omega
      refine ⟨fun _ => s7_back d2 (fun G3 e3 _ k3 => ⟨hx.elim (fun z => Or.inr z.1) (fun z => Or.inl z.1), ?_⟩), fun c => absurd (nI_le (a := 9) (b := 9) (Nat.le_refl _) (by decide)) c⟩
      have hQ := h G3 e3 k3
      rcases hx with ⟨rfl, z⟩ | ⟨rfl, z⟩
      · rw [if_pos (show exB t0 t1 w num f n m = true from stB_iff.mpr z)] at hQ; exact hQ
      · rw [if_neg z] at hQ; exact hQ
    | succ l ih =>
      intro k x6 hk hx
      refine ⟨fun c => absurd (show nI 9 ≤ nI k from c) (nI_ge (by omega) (by omega)), fun _ => ?_⟩
      rw [show nI k + (1 : Int32) = nI (k + 1) from nI_1 k]
      rcases hx with ⟨rfl, z⟩ | ⟨rfl, z⟩
      · refine ⟨fun c => absurd c (by decide), fun _ => s7_itsW (i := 2) (by omega) (by omega) r2 ?_⟩
        rw [show (24 : Int32) * nI q + nI k = nI (24 * q + k) from by rw [show (24 : Int32) = nI 24 from rfl, pk_mul, nI_add], nI_clamp (show 24 * q + k < 2 ^ 31 by omega), d2.1 13 (by omega), ← hN k (by omega)]
        refine ⟨xvin (by omega) (by omega), fun c => ih (k + 1) 0 (by omega) (Or.inr ⟨rfl, fun y => c (stB_iff.mp y k (by omega)).symm⟩), fun c => ih (k + 1) 1 (by omega) (Or.inl ⟨rfl, fun g hg => ?_⟩)⟩
        by_cases y : g = k
        · rw [y]; exact c.symm
        · exact z g (by omega)
      · exact ⟨fun _ => ih (k + 1) 0 (by omega) (Or.inr ⟨rfl, z⟩), fun c => absurd rfl c⟩
  exact ⟨10, key 9 0 1 (by omega) (Or.inl ⟨rfl, fun g hg => by omega⟩)⟩
theorem c_whoHid : oX_whoHid jo_I := by
  intro x1 x2 x3 F G F' G' hI
  obtain ⟨⟨⟨w, t0, t1, hw, hd, h0, h1, r5, r7, hz⟩, _⟩, _, _, _, hSh, h5⟩ := id hI
  unfold qX6_whoHid
  rcases xrng x1 3 (by decide) with h | ⟨q, hq, rfl⟩
  · refine s6_isSheet_no h ?_; (first | refine pN1 ?_ | refine pN2 ?_); refine s6_error (k := 1) (by decide) ?_; unfold qX7_whoHid; refine s7_isSheet_no h ?_; (first | refine pN1 ?_ | refine pN2 ?_); exact c_err (k := 1) (by decide) hI
  refine s6_isSheet hq ?_; (first | refine pY1 ?_ | refine pY2 ?_)
  rcases xrng1 x2 1 18 (by decide) (by decide) with h | ⟨n, hl, hn, rfl⟩
  · refine s6_inG_no (l := 1) (n := 18) h ?_; (first | refine pN1 ?_ | refine pN2 ?_); refine s6_error (k := 1) (by decide) ?_; unfold qX7_whoHid; refine s7_isSheet hq ?_; (first | refine pY1 ?_ | refine pY2 ?_); refine s7_inG_no (l := 1) (n := 18) h ?_; (first | refine pN1 ?_ | refine pN2 ?_); exact c_err (k := 1) (by decide) hI
  refine s6_inG (l := 1) (n := 18) hl hn (by decide) ?_; (first | refine pY1 ?_ | refine pY2 ?_)
  rcases xrng x3 2 (by decide) with h | ⟨b, hb, rfl⟩
  · refine s6_inG_no (l := 0) (n := 2) h ?_; (first | refine pN1 ?_ | refine pN2 ?_); refine s6_error (k := 1) (by decide) ?_; unfold qX7_whoHid; refine s7_isSheet hq ?_; (first | refine pY1 ?_ | refine pY2 ?_); refine s7_inG (l := 1) (n := 18) hl hn (by decide) ?_; (first | refine pY1 ?_ | refine pY2 ?_); refine s7_inG_no (l := 0) (n := 2) h ?_; (first | refine pN1 ?_ | refine pN2 ?_); exact c_err (k := 1) (by decide) hI
  refine s6_inG (l := 0) (n := 2) (by omega) hb (by decide) ?_; (first | refine pY1 ?_ | refine pY2 ?_)
  obtain ⟨eb, ⟨s, hs, e1, e2⟩, nu⟩ := hSh q (by omega)
  have head : ∀ {Q : Int32 → xF → xA → Prop}, ((((G' 11 q) = 0 → qX7_error (2 : Int32) F' G' Q) ∧ (¬ (G' 11 q) = 0 → (vp_in (nI q) 4) ∧ (((9 : Int32) ≤ nI s → ∃ j70, qX7_whoHid_70 Q j70 (nI q) (nI n) (nI b) (0 : Int32) (-1 : Int32) (0 : Int32) (0 : Int32) F' G') ∧ (¬ (9 : Int32) ≤ nI s → qX7_error (2 : Int32) F' G' Q))))) → qX7_whoHid (nI q) (nI n) (nI b) F' G' Q := by
    intro Q hQ
    unfold qX7_whoHid
    rw [nI_clamp (show q < 2 ^ 31 by omega), e2]
    refine s7_isSheet hq ?_; (first | refine pY1 ?_ | refine pY2 ?_)
    refine s7_inG (l := 1) (n := 18) hl hn (by decide) ?_; (first | refine pY1 ?_ | refine pY2 ?_)
    refine s7_inG (l := 0) (n := 2) (by omega) hb (by decide) ?_; (first | refine pY1 ?_ | refine pY2 ?_)
    exact ⟨xvin (by omega) (by omega), hQ⟩
  have seven : ∀ {Q : Int32 → xF → xA → Prop}, 9 ≤ s → (∀ G3, G3 0 = G' 0 → (∀ k, k = 1 ∨ k = 3 ∨ (10 ≤ k ∧ k < 14) → G3 k = G' k) → whF b (whS t0 t1 w (G (66 + q)) n 9) (fun x => Q x F' G3) (qX7_error (2 : Int32) F' G3 Q)) → ∃ j70, qX7_whoHid_70 Q j70 (nI q) (nI n) (nI b) (0 : Int32) (-1 : Int32) (0 : Int32) (0 : Int32) F' G' := by
    intro Q h9 hQ
    have key : ∀ (k f : Nat) (G2 : xA), f + k = 9 → G2 0 = G' 0 → (∀ k, k = 1 ∨ k = 3 ∨ (10 ≤ k ∧ k < 14) → G2 k = G' k) → qX7_whoHid_70 Q (k + 1) (nI q) (nI n) (nI b) (whS t0 t1 w (G (66 + q)) n f).1 (whI (whS t0 t1 w (G (66 + q)) n f)) (whM 0 (whS t0 t1 w (G (66 + q)) n f)) (nI f) F' G2 := by
      intro k
      induction k with
      | zero =>
        intro f G2 hf g0 gk
        obtain rfl : f = 9 := by omega
        refine ⟨fun _ => ?_, fun c => absurd (nI_le (a := 9) (b := 9) (Nat.le_refl _) (by decide)) c⟩
        exact whF_7 hb (whS_ok 9) (hQ G2 g0 gk)
      | succ k ih =>
        intro f G2 hf g0 gk
        refine ⟨fun c => absurd (show nI 9 ≤ nI f from c) (nI_ge (by omega) (by omega)), fun _ => ⟨11, ?_⟩⟩
        have ho := whS_ok (t0 := t0) (t1 := t1) (w := w) (num := G (66 + q)) (n := n) f
        have marks : ∀ (l m : Nat) (G4 : xA), m + l = 10 → G4 0 = G' 0 → (∀ k, k = 1 ∨ k = 3 ∨ (10 ≤ k ∧ k < 14) → G4 k = G' k) → lmS t0 t1 w (G (66 + q)) f n l m = lmS t0 t1 w (G (66 + q)) f n 10 0 → qX7_whoHid_80 Q (fun x1 x2 x3 x4 x5 x6 x7 F G => qX7_whoHid_70 Q (k + 1) x1 x2 x3 x4 x5 x6 x7 F G) (l + 1) (nI q) (nI n) (nI b) (whS t0 t1 w (G (66 + q)) n f).1 (whI (whS t0 t1 w (G (66 + q)) n f)) (whM 0 (whS t0 t1 w (G (66 + q)) n f)) (nI f) (nI m) F' G4 := by
          intro l
          induction l with
          | zero =>
            intro m G4 hm p0 pk hx
            obtain rfl : m = 10 := by omega
            have hx : 10 = lmS t0 t1 w (G (66 + q)) f n 10 0 := hx
            refine ⟨fun _ => ⟨fun _ => ?_, fun c => absurd (nI_le (a := 10) (b := 10) (Nat.le_refl _) (by decide)) c⟩, fun c => absurd (nI_le (a := 10) (b := 10) (Nat.le_refl _) (by decide)) c⟩
            have ih' := ih (f + 1) G4 (by omega) p0 pk
            rw [whS_s, if_pos hx.symm] at ih'
            rw [show nI f + (1 : Int32) = nI (f + 1) from nI_1 f]
            exact ih'
          | succ l ihl =>
            intro m G4 hm p0 pk hx
            rw [lmS_s] at hx
            refine ⟨fun c => absurd (show nI 10 ≤ nI m from c) (nI_ge (by omega) (by omega)), fun _ => ?_⟩
            refine s7_explains hw hd h0 h1 h5 (by omega) (by omega) (by omega) hn (by rw [p0]; exact r7) (num := G (66 + q)) (fun i hi => by rw [pk 13 (by omega)]; exact nu i hi) (fun G5 e5 k5 => ?_)
            by_cases c : exB t0 t1 w (G (66 + q)) f n m = true
            · rw [if_pos c] at hx
              rw [if_pos c]
              refine ⟨fun _ => ⟨fun y => absurd (show nI 10 ≤ nI m from y) (nI_ge (by omega) (by omega)), fun _ => ?_⟩, fun y => absurd y (by decide)⟩
              have ih' := ih (f + 1) G5 (by omega) (by rw [e5, p0]) (fun k hk => by rw [k5 k hk, pk k hk])
              rw [whS_s, ← hx, if_neg (by omega)] at ih'
              rw [show qX7_whoHid_135 Q (fun x1 x2 x3 x4 x5 x6 x7 F G => qX7_whoHid_70 Q (k + 1) x1 x2 x3 x4 x5 x6 x7 F G) = qX7_whoHid_135 Q (fun x1 x2 x3 x4 x5 x6 x7 F G => qX7_whoHid_70 Q (k + 1) x1 x2 x3 x4 x5 x6 x7 F G) from rfl]
              unfold qX7_whoHid_135
              rw [show nI f + (1 : Int32) = nI (f + 1) from nI_1 f]
              unfold whI whM at ih' ⊢
              dsimp only at ih'
              by_cases d : (whS t0 t1 w (G (66 + q)) n f).2.1 = 9
              · rw [if_pos d, if_pos d] at ih'
                rw [if_pos d, if_pos d]
                rw [if_neg (by omega), if_neg (by omega)] at ih'
                exact ⟨fun y => absurd rfl y, fun _ => ⟨fun y => absurd rfl y, fun _ => ih'⟩⟩
              · rw [if_neg d, if_neg d] at ih'
                rw [if_neg d, if_neg d]
                rw [if_neg d, if_neg d] at ih'
                exact ⟨fun _ => ⟨fun _ => ih', fun y => absurd y (nI_nem1 (by omega))⟩, fun y => absurd y (nI_nem1 (by omega))⟩
            · rw [if_neg c] at hx
              rw [if_neg c]
              refine ⟨fun y => absurd rfl y, fun _ => ?_⟩
              rw [show nI m + (1 : Int32) = nI (m + 1) from nI_1 m]
              exact ihl (m + 1) G5 (by omega) (by rw [e5, p0]) (fun k hk => by rw [k5 k hk, pk k hk]) hx
        exact marks 10 0 G2 (by omega) g0 gk rfl
    exact ⟨10, key 9 0 G' (by omega) rfl (fun _ _ => rfl)⟩
  have six : ∀ {Q : Int32 → xF → xA → Prop}, ((F (42 + 2 * q) = 0 ∨ s < 9) → qX6_error (2 : Int32) F G Q) → (¬ F (42 + 2 * q) = 0 → 9 ≤ s → ∀ E H, side6 F E G H → whF b (whS t0 t1 w (G (66 + q)) n 9) (fun x => Q x E H) (qX6_error (2 : Int32) E H Q)) → WHO6 Q q n b F G := fun {Q} a c => by
    rcases (by omega : q = 0 ∨ q = 1 ∨ q = 2 ∨ q = 3) with rfl | rfl | rfl | rfl
    · exact s6_whoHid_0 hw hd h0 h1 hb hn e1 hs r5 a c
    · exact s6_whoHid_1 hw hd h0 h1 hb hn e1 hs r5 a c
    · exact s6_whoHid_2 hw hd h0 h1 hb hn e1 hs r5 a c
    · exact s6_whoHid_3 hw hd h0 h1 hb hn e1 hs r5 a c
  refine six (fun z => ?_) (fun z h9 E H hsd => ?_)
  · refine s6_error (k := 2) (by decide) ?_
    refine head ⟨fun _ => ?_, fun c1 => ⟨xvin (by omega) (by omega), fun c2 => ?_, fun _ => ?_⟩⟩
    · exact c_err (k := 2) (by decide) hI
    · have h9 : 9 ≤ s := (nI_leI (a := 9) (by decide) (by omega)).mp c2
      exact absurd z (fun y => y.elim (fun y => c1 (by rw [← eb]; exact y)) (fun y => by omega))
    · exact c_err (k := 2) (by decide) hI
  · have z' : ¬ G' 11 q = 0 := fun y => z (by rw [eb]; exact y)
    unfold whF
    by_cases b0 : b = 0
    · rw [if_pos b0]
      refine head ⟨fun c => absurd c z', fun _ => ⟨xvin (by omega) (by omega), fun _ => seven h9 (fun G3 e3 k3 => ?_), fun c => absurd (nI_le (a := 9) h9 (by omega)) c⟩⟩
      unfold whF
      rw [if_pos b0]
      exact ⟨rfl, jo_ahead hI hsd e3 k3⟩
    rw [if_neg b0]
    by_cases f9 : (whS t0 t1 w (G (66 + q)) n 9).2.1 = 9
    · rw [if_pos f9]
      refine s6_error (k := 2) (by decide) ?_
      refine head ⟨fun c => absurd c z', fun _ => ⟨xvin (by omega) (by omega), fun _ => seven h9 (fun G3 e3 k3 => ?_), fun c => absurd (nI_le (a := 9) h9 (by omega)) c⟩⟩
      unfold whF
      rw [if_neg b0, if_pos f9]
      exact c_err (k := 2) (by decide) (jo_ahead hI hsd e3 k3)
    rw [if_neg f9]
    by_cases b1 : b = 1
    · rw [if_pos b1]
      refine head ⟨fun c => absurd c z', fun _ => ⟨xvin (by omega) (by omega), fun _ => seven h9 (fun G3 e3 k3 => ?_), fun c => absurd (nI_le (a := 9) h9 (by omega)) c⟩⟩
      unfold whF
      rw [if_neg b0, if_neg f9, if_pos b1]
      exact ⟨rfl, jo_ahead hI hsd e3 k3⟩
    · rw [if_neg b1]
      refine head ⟨fun c => absurd c z', fun _ => ⟨xvin (by omega) (by omega), fun _ => seven h9 (fun G3 e3 k3 => ?_), fun c => absurd (nI_le (a := 9) h9 (by omega)) c⟩⟩
      unfold whF
      rw [if_neg b0, if_neg f9, if_neg b1]
      exact ⟨rfl, jo_ahead hI hsd e3 k3⟩
