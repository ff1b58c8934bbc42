/-! calls: sheets -/
theorem clN {n : Nat} (hn : n ≤ 24) : (if (0 : Int32) < (if nI n < (24 : Int32) then nI n else (24 : Int32)) then (if nI n < (24 : Int32) then nI n else (24 : Int32)) else (0 : Int32)) = nI n := by
  rw [show (24 : Int32) = nI 24 from rfl, nI_min (by omega) (by omega), Nat.min_eq_left hn]
  by_cases c : 0 < n
  · exact if_pos (show nI 0 < nI n from nI_lt c (by omega))
  · obtain rfl : n = 0 := by omega
    rfl
theorem s2_becomes {o o2 n : Nat} {F : xF} {G : xA} {x2 x3 : Int32} {K : xF → xA → Prop} (hx : (x2 = 0 ∧ n = 0) ∨ (¬ x2 = 0 ∧ x3 = nI n ∧ n ≤ 24)) (h : ∀ E H, E o = x2 → E (o + 1) = nI n → (∀ k, k ≠ o → k ≠ o + 1 → E k = F k) → (∀ i, i < 24 → H o2 i = 0) → (∀ k, k ≠ o2 → H k = G k) → K E H) : qX2_becomes x2 x3 (xsub F o) (xsub G o2) (fun F73 G73 => (∀ E73 : xF, E73 = (xspl F o 2 F73) → (∀ H73 : xA, H73 = (xspl G o2 1 G73) → K E73 H73))) := by
  intro F2 e2
  have main : ∀ F24 : xF, F24 = va_up F2 1 (nI n) → qJ7_fill_53178 24 (0 : Int32) (xsub F24 0) (xsub (xsub G o2) 0) (fun F32 G32 => (∀ H32 : xA, H32 = (xspl (xsub G o2) 0 1 G32) → (∀ E73 : xF, E73 = (xspl F o 2 F24) → (∀ H73 : xA, H73 = (xspl G o2 1 H32) → K E73 H73)))) := by
    intro F24 e24
    refine s_fill (N := 24) (by decide) (fun p hp _ H32 eH E eE H eH2 => ?_)
    refine h E H ?_ ?_ (fun k a b => by rw [eE, xspl_out (by omega)]) (fun i hi => ?_) (fun k hk => by rw [eH2, xspl_out (by omega)])
    · rw [eE, show xspl F o 2 F24 o = F24 0 from xspl_in (k := 0) (by omega), e24, vu_ne (by omega), e2, vu_at]
    · rw [eE, show xspl F o 2 F24 (o + 1) = F24 1 from xspl_in (k := 1) (by omega), e24, vu_at]
    · rw [eH2, show xspl G o2 1 H32 o2 = H32 0 from xspl_in (k := 0) (by omega), eH, xspl_now (by omega), vu_at]
      exact hp i hi
  rcases hx with ⟨z, rfl⟩ | ⟨z, rfl, hn⟩
  · exact ⟨fun c => absurd z c, fun _ F24 e => main F24 e⟩
  · exact ⟨fun _ F24 e => main F24 (by rw [e, clN hn]), fun c => absurd c z⟩
theorem s2_missing {o o2 : Nat} {F : xF} {G : xA} {K : Int32 → xF → xA → Prop} (h0 : ¬ F o = 0 → K 0 F G) (h1 : F o = 0 → K 1 F G) : qX2_isMissing (xsub F o) (xsub G o2) (fun r F1 G1 => (∀ E : xF, E = (xspl F o 2 F1) → (∀ H : xA, H = (xspl G o2 1 G1) → K r E H))) := by
  refine ⟨fun c E eE H eH => ?_, fun c E eE H eH => ?_⟩ <;> rw [eE, eH, xspl_sub, xspl_sub]
  · exact h0 c
  · exact h1 c
theorem xspl_xst {o2 i : Nat} {G : xA} {v : Int32} : xspl G o2 1 (xst (xsub G o2) 0 i v) = xst G o2 i v := by
  funext k
  by_cases c : k = o2
  · subst c
    rw [show xspl G k 1 (xst (xsub G k) 0 i v) k = xst (xsub G k) 0 i v 0 from xspl_in (k := 0) (by omega), xst_at, xst_at]; rfl
  · rw [xspl_out (by omega), xst_ne c]
def shB32 (x b : Int32) : Int32 := (x <<< (((32 : Int32) - b) &&& 31)) >>> (((32 : Int32) - b) &&& 31)
theorem s2_hold {o o2 i n : Nat} {F : xF} {G : xA} {x3 : Int32} {K : xF → xA → Prop} (hi : i < n) (hn : n ≤ 24) (en : F (o + 1) = nI n) (h : K F (xst G o2 i (shB32 x3 (F o)))) : qX2_hold (nI i) x3 (xsub F o) (xsub G o2) (fun F1 G1 => (∀ E : xF, E = (xspl F o 2 F1) → (∀ H : xA, H = (xspl G o2 1 G1) → K E H))) := by
  refine ⟨fun c => absurd c (nI_pos (by omega)), fun _ => ⟨fun c => ?_, fun _ => ⟨xvin (by omega) (by omega), fun G1 e E eE H eH => ?_⟩⟩⟩
  · have c' : nI n ≤ nI i := by rw [← en]; exact c
    exact absurd c' (nI_ge hi (by omega))
  · rw [nI_clamp (by omega)] at e
    rw [eE, eH, e, xspl_sub, xspl_xst]
    exact h
theorem s2_at {o o2 i n : Nat} {F : xF} {G : xA} {K : Int32 → xF → xA → Prop} (hi : i < n) (hn : n ≤ 24) (en : F (o + 1) = nI n) (h : K (G o2 i) F G) : qX2_at (nI i) (xsub F o) (xsub G o2) (fun r F1 G1 => (∀ E : xF, E = (xspl F o 2 F1) → (∀ H : xA, H = (xspl G o2 1 G1) → K r E H))) := by
  refine ⟨fun c => absurd c (nI_pos (by omega)), fun _ => ⟨fun c => ?_, fun _ => ⟨xvin (by omega) (by omega), fun E eE H eH => ?_⟩⟩⟩
  · have c' : nI n ≤ nI i := by rw [← en]; exact c
    exact absurd c' (nI_ge hi (by omega))
  · rw [nI_clamp (by omega), eE, eH, xspl_sub, xspl_sub]
    exact h
def unN (g : Nat → Int32) : Nat → Nat → Nat
  | 0, i => i
  | m + 1, i => if 0 ≤ g i ∧ g i ≤ 999 then unN g m (i + 1) else i
theorem unN_s {g : Nat → Int32} {m i : Nat} : unN g (m + 1) i = if 0 ≤ g i ∧ g i ≤ 999 then unN g m (i + 1) else i := rfl
def unW (w : wW) (g : Nat → Int32) (k : Nat) : wW := fun j => if 24 ≤ j ∧ j < 24 + k then (g (j - 24)).toNatClampNeg else w j
theorem unW_0 {w : wW} {g : Nat → Int32} : unW w g 0 = w := by
  funext j
  unfold unW
  rw [if_neg (by omega)]
theorem unW_s {w : wW} {g : Nat → Int32} {i v : Nat} (e : g i = nI v) (hv : v < 2 ^ 31) : unW w g (i + 1) = wU (unW w g i) (24 + i) v := by
  funext j
  unfold wU
  by_cases c : j = 24 + i
  · subst c
    rw [if_pos rfl]
    unfold unW
    rw [if_pos (by omega), Nat.add_sub_cancel_left, e, nI_clamp hv]
  · rw [if_neg c]
    unfold unW
    by_cases d : 24 ≤ j ∧ j < 24 + i
    · rw [if_pos d, if_pos (by omega)]
    · rw [if_neg d, if_neg (by omega)]
theorem un_bad {x : Int32} (h : x < 0 ∨ nI 999 < x) : ¬ (0 ≤ x ∧ x ≤ 999) := fun q => by
  rcases h with h | h
  · exact absurd h (Int32.not_lt.mpr q.1)
  · exact absurd h (Int32.not_lt.mpr q.2)
theorem un_good {x : Int32} {v : Nat} (e : x = nI v) (hv : v ≤ 999) : 0 ≤ x ∧ x ≤ 999 := by
  rw [e]
  exact ⟨nI_pos' (by omega), nI_le (b := 999) hv (by decide)⟩
def jdN (t0 t1 : wT) (w : wW) (g : Nat → Int32) : Nat → Nat → Nat
  | 0, i => i
  | m + 1, i => if g i = nI (goW t0 t1 w i 2) then jdN t0 t1 w g m (i + 1) else i
theorem jdN_s {t0 t1 : wT} {w : wW} {g : Nat → Int32} {m i : Nat} : jdN t0 t1 w g (m + 1) i = if g i = nI (goW t0 t1 w i 2) then jdN t0 t1 w g m (i + 1) else i := rfl
theorem Wok_unW {w : wW} {g : Nat → Int32} (h : Wok w) : ∀ m i, i + m ≤ 16 → Wok (unW w g i) → Wok (unW w g (unN g m i))
  | 0, i, _, q => q
  | m + 1, i, hm, q => by
    rw [unN_s]
    by_cases c : 0 ≤ g i ∧ g i ≤ 999
    · rw [if_pos c]
      rcases xrng (g i) 999 (by decide) with b | ⟨v, hv, ev⟩
      · exact absurd c (un_bad b)
      · exact Wok_unW h m (i + 1) (by omega) (by rw [unW_s ev (by omega)]; exact Wok_s_under q (by omega) (by omega))
    · rw [if_neg c]; exact q
theorem jo_shq {F E F' : xF} {G H G' G3 : xA} {q : Nat} (hI : jo_I F G F' G') (hq : q < 4) (hE : ∀ k, k ≠ 42 + 2 * q → k ≠ 43 + 2 * q → E k = F k) (hH : ∀ k, k ≠ 66 + q → H k = G k) (hk : ∀ k, k = 0 ∨ k = 1 ∨ k = 3 ∨ k = 10 → G3 k = G' k) (b : E (42 + 2 * q) = G3 11 q) (bo : ∀ p, p < 4 → p ≠ q → G3 11 p = G' 11 p) (n : ∃ n, n ≤ 24 ∧ E (43 + 2 * q) = nI n ∧ G3 12 q = nI n) (no : ∀ p, p < 4 → p ≠ q → G3 12 p = G' 12 p) (u : ∀ i, i < 24 → H (66 + q) i = G3 13 (24 * q + i)) (uo : ∀ p, p < 4 → p ≠ q → ∀ i, i < 24 → G3 13 (24 * p + i) = G' 13 (24 * p + i)) : jo_I E H F' G3 := by
  obtain ⟨a, ⟨b1, b2⟩, c, d, e, f⟩ := hI
  refine ⟨jo_st_c a (fun k hk => hE k (by omega) (by omega)) (fun k hk => hH k (by omega)) (hE 29 (by omega) (by omega)) (hH 56 (by omega)) (hE 30 (by omega) (by omega)) (hH 57 (by omega)) (hk 0 (by omega)), ⟨by rw [hE 28 (by omega) (by omega)]; exact b1, fun z => jo_st_c (b2 z) (fun k hk => hE (7 + k) (by omega) (by omega)) (fun k hk => hH (14 + k) (by omega)) (hE 31 (by omega) (by omega)) (hH 58 (by omega)) (hE 32 (by omega) (by omega)) (hH 59 (by omega)) (hk 1 (by omega))⟩, fun k hk' => by rw [hH 62 (by omega), hk 3 (by omega)]; exact c k hk', by rw [hE 41 (by omega) (by omega), hH 65 (by omega), hk 10 (by omega)]; exact d, fun p hp => ?_, f⟩
  by_cases z : p = q
  · subst z; exact ⟨b, n, u⟩
  · obtain ⟨e1, e2, e3⟩ := e p hp
    exact ⟨by rw [hE _ (by omega) (by omega), bo p hp z]; exact e1, by rw [hE _ (by omega) (by omega), no p hp z]; exact e2, fun i hi => by rw [hH _ (by omega), uo p hp z i hi]; exact e3 i hi⟩

theorem s6_sheet49_0 {F : xF} {G : xA} {x2 x3 : Int32} {n : Nat} {Q : Int32 → xF → xA → Prop} (hx : (x2 = 0 ∧ n = 0) ∨ (¬ x2 = 0 ∧ x3 = nI n ∧ n ≤ 24)) (h : ∀ E H, E (42 + 2 * 0) = x2 → E (43 + 2 * 0) = nI n → (∀ k, k ≠ 42 + 2 * 0 → k ≠ 43 + 2 * 0 → E k = F k) → (∀ i, i < 24 → H (66 + 0) i = 0) → (∀ k, k ≠ 66 + 0 → H k = G k) → Q 1 E H) : qX6_sheet_49 Q (nI 0) x2 x3 F G := by
  have main : qX2_becomes x2 x3 (xsub F 42) (xsub G 66) (fun F73 G73 => (∀ E73 : xF, E73 = (xspl F 42 2 F73) → (∀ H73 : xA, H73 = (xspl G 66 1 G73) → Q (1 : Int32) E73 H73))) := s2_becomes hx (fun E H a b c d e => h E H a b c d e)
  refine ⟨fun _ => ⟨xvin (by omega) (by omega), ⟨fun _ => main, fun c => absurd c (by decide), fun c => absurd c (by decide), fun c => absurd c (by decide)⟩⟩, fun c => ⟨fun _ => ⟨xvin (by omega) (by omega), ⟨fun _ => main, fun c => absurd c (by decide), fun c => absurd c (by decide), fun c => absurd c (by decide)⟩⟩, fun d => ?_⟩⟩
  rcases hx with ⟨z, _⟩ | ⟨_, z, hn⟩
  · exact absurd z c
  · exact absurd (by rw [z]; exact nI_le (b := 24) hn (by decide)) d
theorem s6_put_0 {F : xF} {G : xA} {x2 x3 : Int32} {n : Nat} {Q : Int32 → xF → xA → Prop} (hn : n ≤ 24) (en : F (43 + 2 * 0) = nI n) (h2 : F (42 + 2 * 0) = 0 → qX6_error (2 : Int32) F G Q) (h1 : ¬ F (42 + 2 * 0) = 0 → (x2 < 0 ∨ nI n ≤ x2) → qX6_error (1 : Int32) F G Q) (h0 : ¬ F (42 + 2 * 0) = 0 → ∀ i, i < n → x2 = nI i → Q 1 F (xst G (66 + 0) i (shB32 x3 (F (42 + 2 * 0))))) : qX6_put (nI 0) x2 x3 F G Q := by
  refine s6_isSheet (k := 0) (by omega) ⟨fun _ => ⟨xvin (by omega) (by omega), ⟨fun _ => ?_, fun c => absurd c (by decide), fun c => absurd c (by decide), fun c => absurd c (by decide)⟩⟩, fun c => absurd c (by decide)⟩
  refine s2_missing (F := F) (G := G) (o := 42) (o2 := 66) (fun z => ⟨fun _ => ?_, fun c => absurd rfl c⟩) (fun z => ⟨fun c => absurd c (by decide), fun _ => h2 z⟩)
  rw [show F 43 = nI n from en]
  rcases xix x2 (n := n) (by omega) with q | ⟨i, hi, rfl⟩
  · refine s6_upto_no (by omega) q ⟨fun c => absurd rfl c, fun _ => h1 z q⟩
  · refine s6_upto (by omega) hi ⟨fun _ => s2_hold (F := F) (G := G) (o := 42) (o2 := 66) hi hn en (h0 z i hi rfl), fun c => absurd c (by decide)⟩
theorem s6_unders_0 {w : wW} {t0 t1 : wT} {F : xF} {G : xA} {n : Nat} {Q : Int32 → xF → xA → Prop} (hn : n ≤ 24) (en : F (43 + 2 * 0) = nI n) (r5 : R5 w t0 t1 F G) (h2 : F (42 + 2 * 0) = 0 → qX6_error (2 : Int32) F G Q) (h0 : ¬ F (42 + 2 * 0) = 0 → ∀ H, R5 (unW w (G (66 + 0)) (unN (G (66 + 0)) (min n 16) 0)) t0 t1 F H → (∀ k, k ≠ 1 → H k = G k) → Q (nI (unN (G (66 + 0)) (min n 16) 0)) F H) : qX6_unders (nI 0) F G Q := by
  refine s6_isSheet (k := 0) (by omega) ⟨fun _ => ⟨xvin (by omega) (by omega), ⟨fun _ => ?_, fun c => absurd c (by decide), fun c => absurd c (by decide), fun c => absurd c (by decide)⟩⟩, fun c => absurd c (by decide)⟩
  refine s2_missing (F := F) (G := G) (o := 42) (o2 := 66) (fun z => ⟨fun _ => ⟨min n 16 + 1, ?_⟩, fun c => absurd rfl c⟩) (fun z => ⟨fun c => absurd c (by decide), fun _ => h2 z⟩)
  have e16 : (if (16 : Int32) < F 43 then (16 : Int32) else F 43) = nI (min n 16) := by
    rw [show F 43 = nI n from en, show (16 : Int32) = nI 16 from rfl, nI_min (by omega) (by omega), Nat.min_comm]
  rw [e16]
  have key : ∀ (m i : Nat) (H : xA), i + m = min n 16 → unN (G 66) m i = unN (G 66) (min n 16) 0 → (∀ k, k ≠ 1 → H k = G k) → R5 (unW w (G 66) i) t0 t1 F H → qX6_unders_46 Q (m + 1) (nI i) (nI (min n 16)) F H := by
    intro m
    induction m with
    | zero =>
      intro i H hi hx hH r
      have hx : i = unN (G 66) (min n 16) 0 := hx
      refine ⟨fun _ => ?_, fun c => absurd (nI_le (by omega) (by omega)) c⟩
      rw [hx] at r ⊢
      exact h0 z H r hH
    | succ m ih =>
      intro i H hi hx hH r
      have hP : H 66 = G 66 := hH 66 (by omega)
      rw [unN_s] at hx
      refine ⟨fun c => absurd c (nI_ge (by omega) (by omega)), fun _ => s2_at (F := F) (G := H) (o := 42) (o2 := 66) (show i < n by omega) hn en ?_⟩
      rw [hP]
      rcases xrng (G 66 i) 999 (by decide) with b | ⟨v, hv, ev⟩
      · refine s6_inG_no (l := 0) (n := 999) b ?_; (first | refine pN1 ?_ | refine pN2 ?_)
        have hx' : i = unN (G 66) (min n 16) 0 := by
          rw [if_neg (un_bad b)] at hx; exact hx
        rw [hx'] at r ⊢
        exact h0 z H r hH
      · rw [ev]
        refine s6_inG (l := 0) (n := 999) (by omega) hv (by decide) ?_; (first | refine pY1 ?_ | refine pY2 ?_)
        refine s2_at (F := F) (G := H) (o := 42) (o2 := 66) (show i < n by omega) hn en ⟨xvin (show i < 16 by omega) (by omega), fun H1 e1 => ?_⟩
        rw [nI_clamp (show i < 2 ^ 31 by omega), hP] at e1
        rw [show nI i + (1 : Int32) = nI (i + 1) from nI_1 i]
        rw [if_pos (un_good ev hv)] at hx
        refine ih (i + 1) H1 (by omega) hx (fun k hk => by rw [e1, xst_ne hk]; exact hH k hk) ?_
        rw [unW_s ev (by omega), e1, ev]
        exact R5_s_under r (by omega)
  exact key (min n 16) 0 G (by omega) rfl (fun _ _ => rfl) (by rw [unW_0]; exact r5)
theorem s6_judge_0 {w : wW} {t0 t1 : wT} {F : xF} {G : xA} {n : Nat} {Q : Int32 → xF → xA → Prop} (hw : Wok w) (hd : w 0 ≤ 9999) (h0' : wTx t0) (h1' : wTx t1) (hn : n ≤ 24) (en : F (43 + 2 * 0) = nI n) (r5 : R5 w t0 t1 F G) (h2 : F (42 + 2 * 0) = 0 → qX6_error (2 : Int32) F G Q) (h0 : ¬ F (42 + 2 * 0) = 0 → ∀ E H, side6 F E G H → Q (nI (jdN t0 t1 w (G (66 + 0)) n 0)) E H) : qX6_judge (nI 0) F G Q := by
  refine s6_isSheet (k := 0) (by omega) ⟨fun _ => ⟨xvin (by omega) (by omega), ⟨fun _ => ?_, fun c => absurd c (by decide), fun c => absurd c (by decide), fun c => absurd c (by decide)⟩⟩, fun c => absurd c (by decide)⟩
  refine s2_missing (F := F) (G := G) (o := 42) (o2 := 66) (fun z => ⟨fun _ => ?_, fun c => absurd rfl c⟩) (fun z => ⟨fun c => absurd c (by decide), fun _ => h2 z⟩)
  refine s6_take (o := 14) (p := 0) (o2 := 28) (p2 := 0) (R5_z r5) (by omega) (by omega) (fun E H rE _ _ fE fH => ⟨n + 1, ?_⟩)
  have key : ∀ (m i : Nat) (E1 : xF) (H1 : xA), i + m = n → jdN t0 t1 w (G 66) m i = jdN t0 t1 w (G 66) n 0 → side6 F E1 G H1 → R5 (goW t0 t1 w i) t0 t1 (xsub E1 14) (xsub H1 28) → qX6_judge_46 Q (m + 1) (nI i) E1 H1 := by
    intro m
    induction m with
    | zero =>
      intro i E1 H1 hi hx hs r
      obtain rfl : i = n := by omega
      have hx : i = jdN t0 t1 w (G 66) i 0 := hx
      have e43 : E1 43 = nI i := by rw [hs.1 43 (by omega)]; exact en
      refine ⟨fun _ => ?_, fun c => absurd (by rw [e43]; exact nI_le (Nat.le_refl _) (by omega)) c⟩
      rw [e43]
      have := h0 z E1 H1 hs
      rw [← hx] at this
      exact this
    | succ m ih =>
      intro i E1 H1 hi hx hs r
      have e43 : E1 (43 + 2 * 0) = nI n := by rw [hs.1 43 (by omega)]; exact en
      have hP : H1 66 = G 66 := hs.2 66 (by omega)
      obtain ⟨ok, dk⟩ := goW_ok (t0 := t0) (t1 := t1) hw i
      rw [jdN_s] at hx
      refine ⟨fun c => absurd (show nI n ≤ nI i by rw [← e43]; exact c) (nI_ge (by omega) (by omega)), fun _ => s2_at (F := E1) (G := H1) (o := 42) (o2 := 66) (show i < n by omega) hn e43 ?_⟩
      rw [hP, show E1 15 = nI (goW t0 t1 w i 2) from r.1.2.1]
      refine ⟨fun c => ?_, fun c => ?_⟩
      · rw [if_pos c] at hx
        refine s6_day (o := 14) (o2 := 28) ok (by omega) h0' h1' r (Or.inl ⟨rfl, rfl⟩) (fun E2 H2 r2 _ _ fE2 fH2 => ?_)
        rw [show nI i + (1 : Int32) = nI (i + 1) from nI_1 i]
        exact ih (i + 1) E2 H2 (by omega) hx (side6_tr hs (side6_b (by omega) (by omega) fE2 fH2)) r2
      · rw [if_neg c] at hx
        have := h0 z E1 H1 hs
        rw [← hx] at this
        exact this
  exact key n 0 E H (by omega) rfl (side6_b (by omega) (by omega) fE fH) rE
theorem s6_sheet49_1 {F : xF} {G : xA} {x2 x3 : Int32} {n : Nat} {Q : Int32 → xF → xA → Prop} (hx : (x2 = 0 ∧ n = 0) ∨ (¬ x2 = 0 ∧ x3 = nI n ∧ n ≤ 24)) (h : ∀ E H, E (42 + 2 * 1) = x2 → E (43 + 2 * 1) = nI n → (∀ k, k ≠ 42 + 2 * 1 → k ≠ 43 + 2 * 1 → E k = F k) → (∀ i, i < 24 → H (66 + 1) i = 0) → (∀ k, k ≠ 66 + 1 → H k = G k) → Q 1 E H) : qX6_sheet_49 Q (nI 1) x2 x3 F G := by
  have main : qX2_becomes x2 x3 (xsub F 44) (xsub G 67) (fun F73 G73 => (∀ E73 : xF, E73 = (xspl F 44 2 F73) → (∀ H73 : xA, H73 = (xspl G 67 1 G73) → Q (1 : Int32) E73 H73))) := s2_becomes hx (fun E H a b c d e => h E H a b c d e)
  refine ⟨fun _ => ⟨xvin (by omega) (by omega), ⟨fun c => absurd c (by decide), fun _ => main, fun c => absurd c (by decide), fun c => absurd c (by decide)⟩⟩, fun c => ⟨fun _ => ⟨xvin (by omega) (by omega), ⟨fun c => absurd c (by decide), fun _ => main, fun c => absurd c (by decide), fun c => absurd c (by decide)⟩⟩, fun d => ?_⟩⟩
  rcases hx with ⟨z, _⟩ | ⟨_, z, hn⟩
  · exact absurd z c
  · exact absurd (by rw [z]; exact nI_le (b := 24) hn (by decide)) d
theorem s6_put_1 {F : xF} {G : xA} {x2 x3 : Int32} {n : Nat} {Q : Int32 → xF → xA → Prop} (hn : n ≤ 24) (en : F (43 + 2 * 1) = nI n) (h2 : F (42 + 2 * 1) = 0 → qX6_error (2 : Int32) F G Q) (h1 : ¬ F (42 + 2 * 1) = 0 → (x2 < 0 ∨ nI n ≤ x2) → qX6_error (1 : Int32) F G Q) (h0 : ¬ F (42 + 2 * 1) = 0 → ∀ i, i < n → x2 = nI i → Q 1 F (xst G (66 + 1) i (shB32 x3 (F (42 + 2 * 1))))) : qX6_put (nI 1) x2 x3 F G Q := by
  refine s6_isSheet (k := 1) (by omega) ⟨fun _ => ⟨xvin (by omega) (by omega), ⟨fun c => absurd c (by decide), fun _ => ?_, fun c => absurd c (by decide), fun c => absurd c (by decide)⟩⟩, fun c => absurd c (by decide)⟩
  refine s2_missing (F := F) (G := G) (o := 44) (o2 := 67) (fun z => ⟨fun _ => ?_, fun c => absurd rfl c⟩) (fun z => ⟨fun c => absurd c (by decide), fun _ => h2 z⟩)
  rw [show F 45 = nI n from en]
  rcases xix x2 (n := n) (by omega) with q | ⟨i, hi, rfl⟩
  · refine s6_upto_no (by omega) q ⟨fun c => absurd rfl c, fun _ => h1 z q⟩
  · refine s6_upto (by omega) hi ⟨fun _ => s2_hold (F := F) (G := G) (o := 44) (o2 := 67) hi hn en (h0 z i hi rfl), fun c => absurd c (by decide)⟩
theorem s6_unders_1 {w : wW} {t0 t1 : wT} {F : xF} {G : xA} {n : Nat} {Q : Int32 → xF → xA → Prop} (hn : n ≤ 24) (en : F (43 + 2 * 1) = nI n) (r5 : R5 w t0 t1 F G) (h2 : F (42 + 2 * 1) = 0 → qX6_error (2 : Int32) F G Q) (h0 : ¬ F (42 + 2 * 1) = 0 → ∀ H, R5 (unW w (G (66 + 1)) (unN (G (66 + 1)) (min n 16) 0)) t0 t1 F H → (∀ k, k ≠ 1 → H k = G k) → Q (nI (unN (G (66 + 1)) (min n 16) 0)) F H) : qX6_unders (nI 1) F G Q := by
  refine s6_isSheet (k := 1) (by omega) ⟨fun _ => ⟨xvin (by omega) (by omega), ⟨fun c => absurd c (by decide), fun _ => ?_, fun c => absurd c (by decide), fun c => absurd c (by decide)⟩⟩, fun c => absurd c (by decide)⟩
  refine s2_missing (F := F) (G := G) (o := 44) (o2 := 67) (fun z => ⟨fun _ => ⟨min n 16 + 1, ?_⟩, fun c => absurd rfl c⟩) (fun z => ⟨fun c => absurd c (by decide), fun _ => h2 z⟩)
  have e16 : (if (16 : Int32) < F 45 then (16 : Int32) else F 45) = nI (min n 16) := by
    rw [show F 45 = nI n from en, show (16 : Int32) = nI 16 from rfl, nI_min (by omega) (by omega), Nat.min_comm]
  rw [e16]
  have key : ∀ (m i : Nat) (H : xA), i + m = min n 16 → unN (G 67) m i = unN (G 67) (min n 16) 0 → (∀ k, k ≠ 1 → H k = G k) → R5 (unW w (G 67) i) t0 t1 F H → qX6_unders_46_1 Q (m + 1) (nI i) (nI (min n 16)) F H := by
    intro m
    induction m with
    | zero =>
      intro i H hi hx hH r
      have hx : i = unN (G 67) (min n 16) 0 := hx
      refine ⟨fun _ => ?_, fun c => absurd (nI_le (by omega) (by omega)) c⟩
      rw [hx] at r ⊢
      exact h0 z H r hH
    | succ m ih =>
      intro i H hi hx hH r
      have hP : H 67 = G 67 := hH 67 (by omega)
      rw [unN_s] at hx
      refine ⟨fun c => absurd c (nI_ge (by omega) (by omega)), fun _ => s2_at (F := F) (G := H) (o := 44) (o2 := 67) (show i < n by omega) hn en ?_⟩
      rw [hP]
      rcases xrng (G 67 i) 999 (by decide) with b | ⟨v, hv, ev⟩
      · refine s6_inG_no (l := 0) (n := 999) b ?_; (first | refine pN1 ?_ | refine pN2 ?_)
        have hx' : i = unN (G 67) (min n 16) 0 := by
          rw [if_neg (un_bad b)] at hx; exact hx
        rw [hx'] at r ⊢
        exact h0 z H r hH
      · rw [ev]
        refine s6_inG (l := 0) (n := 999) (by omega) hv (by decide) ?_; (first | refine pY1 ?_ | refine pY2 ?_)
        refine s2_at (F := F) (G := H) (o := 44) (o2 := 67) (show i < n by omega) hn en ⟨xvin (show i < 16 by omega) (by omega), fun H1 e1 => ?_⟩
        rw [nI_clamp (show i < 2 ^ 31 by omega), hP] at e1
        rw [show nI i + (1 : Int32) = nI (i + 1) from nI_1 i]
        rw [if_pos (un_good ev hv)] at hx
        refine ih (i + 1) H1 (by omega) hx (fun k hk => by rw [e1, xst_ne hk]; exact hH k hk) ?_
        rw [unW_s ev (by omega), e1, ev]
        exact R5_s_under r (by omega)
  exact key (min n 16) 0 G (by omega) rfl (fun _ _ => rfl) (by rw [unW_0]; exact r5)
theorem s6_judge_1 {w : wW} {t0 t1 : wT} {F : xF} {G : xA} {n : Nat} {Q : Int32 → xF → xA → Prop} (hw : Wok w) (hd : w 0 ≤ 9999) (h0' : wTx t0) (h1' : wTx t1) (hn : n ≤ 24) (en : F (43 + 2 * 1) = nI n) (r5 : R5 w t0 t1 F G) (h2 : F (42 + 2 * 1) = 0 → qX6_error (2 : Int32) F G Q) (h0 : ¬ F (42 + 2 * 1) = 0 → ∀ E H, side6 F E G H → Q (nI (jdN t0 t1 w (G (66 + 1)) n 0)) E H) : qX6_judge (nI 1) F G Q := by
  refine s6_isSheet (k := 1) (by omega) ⟨fun _ => ⟨xvin (by omega) (by omega), ⟨fun c => absurd c (by decide), fun _ => ?_, fun c => absurd c (by decide), fun c => absurd c (by decide)⟩⟩, fun c => absurd c (by decide)⟩
  refine s2_missing (F := F) (G := G) (o := 44) (o2 := 67) (fun z => ⟨fun _ => ?_, fun c => absurd rfl c⟩) (fun z => ⟨fun c => absurd c (by decide), fun _ => h2 z⟩)
  refine s6_take (o := 14) (p := 0) (o2 := 28) (p2 := 0) (R5_z r5) (by omega) (by omega) (fun E H rE _ _ fE fH => ⟨n + 1, ?_⟩)
  have key : ∀ (m i : Nat) (E1 : xF) (H1 : xA), i + m = n → jdN t0 t1 w (G 67) m i = jdN t0 t1 w (G 67) n 0 → side6 F E1 G H1 → R5 (goW t0 t1 w i) t0 t1 (xsub E1 14) (xsub H1 28) → qX6_judge_46_1 Q (m + 1) (nI i) E1 H1 := by
    intro m
    induction m with
    | zero =>
      intro i E1 H1 hi hx hs r
      obtain rfl : i = n := by omega
      have hx : i = jdN t0 t1 w (G 67) i 0 := hx
      have e43 : E1 45 = nI i := by rw [hs.1 45 (by omega)]; exact en
      refine ⟨fun _ => ?_, fun c => absurd (by rw [e43]; exact nI_le (Nat.le_refl _) (by omega)) c⟩
      rw [e43]
      have := h0 z E1 H1 hs
      rw [← hx] at this
      exact this
    | succ m ih =>
      intro i E1 H1 hi hx hs r
      have e43 : E1 (43 + 2 * 1) = nI n := by rw [hs.1 45 (by omega)]; exact en
      have hP : H1 67 = G 67 := hs.2 67 (by omega)
      obtain ⟨ok, dk⟩ := goW_ok (t0 := t0) (t1 := t1) hw i
      rw [jdN_s] at hx
      refine ⟨fun c => absurd (show nI n ≤ nI i by rw [← e43]; exact c) (nI_ge (by omega) (by omega)), fun _ => s2_at (F := E1) (G := H1) (o := 44) (o2 := 67) (show i < n by omega) hn e43 ?_⟩
      rw [hP, show E1 15 = nI (goW t0 t1 w i 2) from r.1.2.1]
      refine ⟨fun c => ?_, fun c => ?_⟩
      · rw [if_pos c] at hx
        refine s6_day (o := 14) (o2 := 28) ok (by omega) h0' h1' r (Or.inl ⟨rfl, rfl⟩) (fun E2 H2 r2 _ _ fE2 fH2 => ?_)
        rw [show nI i + (1 : Int32) = nI (i + 1) from nI_1 i]
        exact ih (i + 1) E2 H2 (by omega) hx (side6_tr hs (side6_b (by omega) (by omega) fE2 fH2)) r2
      · rw [if_neg c] at hx
        have := h0 z E1 H1 hs
        rw [← hx] at this
        exact this
  exact key n 0 E H (by omega) rfl (side6_b (by omega) (by omega) fE fH) rE
theorem s6_sheet49_2 {F : xF} {G : xA} {x2 x3 : Int32} {n : Nat} {Q : Int32 → xF → xA → Prop} (hx : (x2 = 0 ∧ n = 0) ∨ (¬ x2 = 0 ∧ x3 = nI n ∧ n ≤ 24)) (h : ∀ E H, E (42 + 2 * 2) = x2 → E (43 + 2 * 2) = nI n → (∀ k, k ≠ 42 + 2 * 2 → k ≠ 43 + 2 * 2 → E k = F k) → (∀ i, i < 24 → H (66 + 2) i = 0) → (∀ k, k ≠ 66 + 2 → H k = G k) → Q 1 E H) : qX6_sheet_49 Q (nI 2) x2 x3 F G := by
  have main : qX2_becomes x2 x3 (xsub F 46) (xsub G 68) (fun F73 G73 => (∀ E73 : xF, E73 = (xspl F 46 2 F73) → (∀ H73 : xA, H73 = (xspl G 68 1 G73) → Q (1 : Int32) E73 H73))) := s2_becomes hx (fun E H a b c d e => h E H a b c d e)
  refine ⟨fun _ => ⟨xvin (by omega) (by omega), ⟨fun c => absurd c (by decide), fun c => absurd c (by decide), fun _ => main, fun c => absurd c (by decide)⟩⟩, fun c => ⟨fun _ => ⟨xvin (by omega) (by omega), ⟨fun c => absurd c (by decide), fun c => absurd c (by decide), fun _ => main, fun c => absurd c (by decide)⟩⟩, fun d => ?_⟩⟩
  rcases hx with ⟨z, _⟩ | ⟨_, z, hn⟩
  · exact absurd z c
  · exact absurd (by rw [z]; exact nI_le (b := 24) hn (by decide)) d
theorem s6_put_2 {F : xF} {G : xA} {x2 x3 : Int32} {n : Nat} {Q : Int32 → xF → xA → Prop} (hn : n ≤ 24) (en : F (43 + 2 * 2) = nI n) (h2 : F (42 + 2 * 2) = 0 → qX6_error (2 : Int32) F G Q) (h1 : ¬ F (42 + 2 * 2) = 0 → (x2 < 0 ∨ nI n ≤ x2) → qX6_error (1 : Int32) F G Q) (h0 : ¬ F (42 + 2 * 2) = 0 → ∀ i, i < n → x2 = nI i → Q 1 F (xst G (66 + 2) i (shB32 x3 (F (42 + 2 * 2))))) : qX6_put (nI 2) x2 x3 F G Q := by
  refine s6_isSheet (k := 2) (by omega) ⟨fun _ => ⟨xvin (by omega) (by omega), ⟨fun c => absurd c (by decide), fun c => absurd c (by decide), fun _ => ?_, fun c => absurd c (by decide)⟩⟩, fun c => absurd c (by decide)⟩
  refine s2_missing (F := F) (G := G) (o := 46) (o2 := 68) (fun z => ⟨fun _ => ?_, fun c => absurd rfl c⟩) (fun z => ⟨fun c => absurd c (by decide), fun _ => h2 z⟩)
  rw [show F 47 = nI n from en]
  rcases xix x2 (n := n) (by omega) with q | ⟨i, hi, rfl⟩
  · refine s6_upto_no (by omega) q ⟨fun c => absurd rfl c, fun _ => h1 z q⟩
  · refine s6_upto (by omega) hi ⟨fun _ => s2_hold (F := F) (G := G) (o := 46) (o2 := 68) hi hn en (h0 z i hi rfl), fun c => absurd c (by decide)⟩
theorem s6_unders_2 {w : wW} {t0 t1 : wT} {F : xF} {G : xA} {n : Nat} {Q : Int32 → xF → xA → Prop} (hn : n ≤ 24) (en : F (43 + 2 * 2) = nI n) (r5 : R5 w t0 t1 F G) (h2 : F (42 + 2 * 2) = 0 → qX6_error (2 : Int32) F G Q) (h0 : ¬ F (42 + 2 * 2) = 0 → ∀ H, R5 (unW w (G (66 + 2)) (unN (G (66 + 2)) (min n 16) 0)) t0 t1 F H → (∀ k, k ≠ 1 → H k = G k) → Q (nI (unN (G (66 + 2)) (min n 16) 0)) F H) : qX6_unders (nI 2) F G Q := by
  refine s6_isSheet (k := 2) (by omega) ⟨fun _ => ⟨xvin (by omega) (by omega), ⟨fun c => absurd c (by decide), fun c => absurd c (by decide), fun _ => ?_, fun c => absurd c (by decide)⟩⟩, fun c => absurd c (by decide)⟩
  refine s2_missing (F := F) (G := G) (o := 46) (o2 := 68) (fun z => ⟨fun _ => ⟨min n 16 + 1, ?_⟩, fun c => absurd rfl c⟩) (fun z => ⟨fun c => absurd c (by decide), fun _ => h2 z⟩)
  have e16 : (if (16 : Int32) < F 47 then (16 : Int32) else F 47) = nI (min n 16) := by
    rw [show F 47 = nI n from en, show (16 : Int32) = nI 16 from rfl, nI_min (by omega) (by omega), Nat.min_comm]
  rw [e16]
  have key : ∀ (m i : Nat) (H : xA), i + m = min n 16 → unN (G 68) m i = unN (G 68) (min n 16) 0 → (∀ k, k ≠ 1 → H k = G k) → R5 (unW w (G 68) i) t0 t1 F H → qX6_unders_46_2 Q (m + 1) (nI i) (nI (min n 16)) F H := by
    intro m
    induction m with
    | zero =>
      intro i H hi hx hH r
      have hx : i = unN (G 68) (min n 16) 0 := hx
      refine ⟨fun _ => ?_, fun c => absurd (nI_le (by omega) (by omega)) c⟩
      rw [hx] at r ⊢
      exact h0 z H r hH
    | succ m ih =>
      intro i H hi hx hH r
      have hP : H 68 = G 68 := hH 68 (by omega)
      rw [unN_s] at hx
      refine ⟨fun c => absurd c (nI_ge (by omega) (by omega)), fun _ => s2_at (F := F) (G := H) (o := 46) (o2 := 68) (show i < n by omega) hn en ?_⟩
      rw [hP]
      rcases xrng (G 68 i) 999 (by decide) with b | ⟨v, hv, ev⟩
      · refine s6_inG_no (l := 0) (n := 999) b ?_; (first | refine pN1 ?_ | refine pN2 ?_)
        have hx' : i = unN (G 68) (min n 16) 0 := by
          rw [if_neg (un_bad b)] at hx; exact hx
        rw [hx'] at r ⊢
        exact h0 z H r hH
      · rw [ev]
        refine s6_inG (l := 0) (n := 999) (by omega) hv (by decide) ?_; (first | refine pY1 ?_ | refine pY2 ?_)
        refine s2_at (F := F) (G := H) (o := 46) (o2 := 68) (show i < n by omega) hn en ⟨xvin (show i < 16 by omega) (by omega), fun H1 e1 => ?_⟩
        rw [nI_clamp (show i < 2 ^ 31 by omega), hP] at e1
        rw [show nI i + (1 : Int32) = nI (i + 1) from nI_1 i]
        rw [if_pos (un_good ev hv)] at hx
        refine ih (i + 1) H1 (by omega) hx (fun k hk => by rw [e1, xst_ne hk]; exact hH k hk) ?_
        rw [unW_s ev (by omega), e1, ev]
        exact R5_s_under r (by omega)
  exact key (min n 16) 0 G (by omega) rfl (fun _ _ => rfl) (by rw [unW_0]; exact r5)
theorem s6_judge_2 {w : wW} {t0 t1 : wT} {F : xF} {G : xA} {n : Nat} {Q : Int32 → xF → xA → Prop} (hw : Wok w) (hd : w 0 ≤ 9999) (h0' : wTx t0) (h1' : wTx t1) (hn : n ≤ 24) (en : F (43 + 2 * 2) = nI n) (r5 : R5 w t0 t1 F G) (h2 : F (42 + 2 * 2) = 0 → qX6_error (2 : Int32) F G Q) (h0 : ¬ F (42 + 2 * 2) = 0 → ∀ E H, side6 F E G H → Q (nI (jdN t0 t1 w (G (66 + 2)) n 0)) E H) : qX6_judge (nI 2) F G Q := by
  refine s6_isSheet (k := 2) (by omega) ⟨fun _ => ⟨xvin (by omega) (by omega), ⟨fun c => absurd c (by decide), fun c => absurd c (by decide), fun _ => ?_, fun c => absurd c (by decide)⟩⟩, fun c => absurd c (by decide)⟩
  refine s2_missing (F := F) (G := G) (o := 46) (o2 := 68) (fun z => ⟨fun _ => ?_, fun c => absurd rfl c⟩) (fun z => ⟨fun c => absurd c (by decide), fun _ => h2 z⟩)
  refine s6_take (o := 14) (p := 0) (o2 := 28) (p2 := 0) (R5_z r5) (by omega) (by omega) (fun E H rE _ _ fE fH => ⟨n + 1, ?_⟩)
  have key : ∀ (m i : Nat) (E1 : xF) (H1 : xA), i + m = n → jdN t0 t1 w (G 68) m i = jdN t0 t1 w (G 68) n 0 → side6 F E1 G H1 → R5 (goW t0 t1 w i) t0 t1 (xsub E1 14) (xsub H1 28) → qX6_judge_46_2 Q (m + 1) (nI i) E1 H1 := by
    intro m
    induction m with
    | zero =>
      intro i E1 H1 hi hx hs r
      obtain rfl : i = n := by omega
      have hx : i = jdN t0 t1 w (G 68) i 0 := hx
      have e43 : E1 47 = nI i := by rw [hs.1 47 (by omega)]; exact en
      refine ⟨fun _ => ?_, fun c => absurd (by rw [e43]; exact nI_le (Nat.le_refl _) (by omega)) c⟩
      rw [e43]
      have := h0 z E1 H1 hs
      rw [← hx] at this
      exact this
    | succ m ih =>
      intro i E1 H1 hi hx hs r
      have e43 : E1 (43 + 2 * 2) = nI n := by rw [hs.1 47 (by omega)]; exact en
      have hP : H1 68 = G 68 := hs.2 68 (by omega)
      obtain ⟨ok, dk⟩ := goW_ok (t0 := t0) (t1 := t1) hw i
      rw [jdN_s] at hx
      refine ⟨fun c => absurd (show nI n ≤ nI i by rw [← e43]; exact c) (nI_ge (by omega) (by omega)), fun _ => s2_at (F := E1) (G := H1) (o := 46) (o2 := 68) (show i < n by omega) hn e43 ?_⟩
      rw [hP, show E1 15 = nI (goW t0 t1 w i 2) from r.1.2.1]
      refine ⟨fun c => ?_, fun c => ?_⟩
      · rw [if_pos c] at hx
        refine s6_day (o := 14) (o2 := 28) ok (by omega) h0' h1' r (Or.inl ⟨rfl, rfl⟩) (fun E2 H2 r2 _ _ fE2 fH2 => ?_)
        rw [show nI i + (1 : Int32) = nI (i + 1) from nI_1 i]
        exact ih (i + 1) E2 H2 (by omega) hx (side6_tr hs (side6_b (by omega) (by omega) fE2 fH2)) r2
      · rw [if_neg c] at hx
        have := h0 z E1 H1 hs
        rw [← hx] at this
        exact this
  exact key n 0 E H (by omega) rfl (side6_b (by omega) (by omega) fE fH) rE
theorem s6_sheet49_3 {F : xF} {G : xA} {x2 x3 : Int32} {n : Nat} {Q : Int32 → xF → xA → Prop} (hx : (x2 = 0 ∧ n = 0) ∨ (¬ x2 = 0 ∧ x3 = nI n ∧ n ≤ 24)) (h : ∀ E H, E (42 + 2 * 3) = x2 → E (43 + 2 * 3) = nI n → (∀ k, k ≠ 42 + 2 * 3 → k ≠ 43 + 2 * 3 → E k = F k) → (∀ i, i < 24 → H (66 + 3) i = 0) → (∀ k, k ≠ 66 + 3 → H k = G k) → Q 1 E H) : qX6_sheet_49 Q (nI 3) x2 x3 F G := by
  have main : qX2_becomes x2 x3 (xsub F 48) (xsub G 69) (fun F73 G73 => (∀ E73 : xF, E73 = (xspl F 48 2 F73) → (∀ H73 : xA, H73 = (xspl G 69 1 G73) → Q (1 : Int32) E73 H73))) := s2_becomes hx (fun E H a b c d e => h E H a b c d e)
  refine ⟨fun _ => ⟨xvin (by omega) (by omega), ⟨fun c => absurd c (by decide), fun c => absurd c (by decide), fun c => absurd c (by decide), fun _ => main⟩⟩, fun c => ⟨fun _ => ⟨xvin (by omega) (by omega), ⟨fun c => absurd c (by decide), fun c => absurd c (by decide), fun c => absurd c (by decide), fun _ => main⟩⟩, fun d => ?_⟩⟩
  rcases hx with ⟨z, _⟩ | ⟨_, z, hn⟩
  · exact absurd z c
  · exact absurd (by rw [z]; exact nI_le (b := 24) hn (by decide)) d
theorem s6_put_3 {F : xF} {G : xA} {x2 x3 : Int32} {n : Nat} {Q : Int32 → xF → xA → Prop} (hn : n ≤ 24) (en : F (43 + 2 * 3) = nI n) (h2 : F (42 + 2 * 3) = 0 → qX6_error (2 : Int32) F G Q) (h1 : ¬ F (42 + 2 * 3) = 0 → (x2 < 0 ∨ nI n ≤ x2) → qX6_error (1 : Int32) F G Q) (h0 : ¬ F (42 + 2 * 3) = 0 → ∀ i, i < n → x2 = nI i → Q 1 F (xst G (66 + 3) i (shB32 x3 (F (42 + 2 * 3))))) : qX6_put (nI 3) x2 x3 F G Q := by
  refine s6_isSheet (k := 3) (by omega) ⟨fun _ => ⟨xvin (by omega) (by omega), ⟨fun c => absurd c (by decide), fun c => absurd c (by decide), fun c => absurd c (by decide), fun _ => ?_⟩⟩, fun c => absurd c (by decide)⟩
  refine s2_missing (F := F) (G := G) (o := 48) (o2 := 69) (fun z => ⟨fun _ => ?_, fun c => absurd rfl c⟩) (fun z => ⟨fun c => absurd c (by decide), fun _ => h2 z⟩)
  rw [show F 49 = nI n from en]
  rcases xix x2 (n := n) (by omega) with q | ⟨i, hi, rfl⟩
  · refine s6_upto_no (by omega) q ⟨fun c => absurd rfl c, fun _ => h1 z q⟩
  · refine s6_upto (by omega) hi ⟨fun _ => s2_hold (F := F) (G := G) (o := 48) (o2 := 69) hi hn en (h0 z i hi rfl), fun c => absurd c (by decide)⟩
theorem s6_unders_3 {w : wW} {t0 t1 : wT} {F : xF} {G : xA} {n : Nat} {Q : Int32 → xF → xA → Prop} (hn : n ≤ 24) (en : F (43 + 2 * 3) = nI n) (r5 : R5 w t0 t1 F G) (h2 : F (42 + 2 * 3) = 0 → qX6_error (2 : Int32) F G Q) (h0 : ¬ F (42 + 2 * 3) = 0 → ∀ H, R5 (unW w (G (66 + 3)) (unN (G (66 + 3)) (min n 16) 0)) t0 t1 F H → (∀ k, k ≠ 1 → H k = G k) → Q (nI (unN (G (66 + 3)) (min n 16) 0)) F H) : qX6_unders (nI 3) F G Q := by
  refine s6_isSheet (k := 3) (by omega) ⟨fun _ => ⟨xvin (by omega) (by omega), ⟨fun c => absurd c (by decide), fun c => absurd c (by decide), fun c => absurd c (by decide), fun _ => ?_⟩⟩, fun c => absurd c (by decide)⟩
  refine s2_missing (F := F) (G := G) (o := 48) (o2 := 69) (fun z => ⟨fun _ => ⟨min n 16 + 1, ?_⟩, fun c => absurd rfl c⟩) (fun z => ⟨fun c => absurd c (by decide), fun _ => h2 z⟩)
  have e16 : (if (16 : Int32) < F 49 then (16 : Int32) else F 49) = nI (min n 16) := by
    rw [show F 49 = nI n from en, show (16 : Int32) = nI 16 from rfl, nI_min (by omega) (by omega), Nat.min_comm]
  rw [e16]
  have key : ∀ (m i : Nat) (H : xA), i + m = min n 16 → unN (G 69) m i = unN (G 69) (min n 16) 0 → (∀ k, k ≠ 1 → H k = G k) → R5 (unW w (G 69) i) t0 t1 F H → qX6_unders_46_3 Q (m + 1) (nI i) (nI (min n 16)) F H := by
    intro m
    induction m with
    | zero =>
      intro i H hi hx hH r
      have hx : i = unN (G 69) (min n 16) 0 := hx
      refine ⟨fun _ => ?_, fun c => absurd (nI_le (by omega) (by omega)) c⟩
      rw [hx] at r ⊢
      exact h0 z H r hH
    | succ m ih =>
      intro i H hi hx hH r
      have hP : H 69 = G 69 := hH 69 (by omega)
      rw [unN_s] at hx
      refine ⟨fun c => absurd c (nI_ge (by omega) (by omega)), fun _ => s2_at (F := F) (G := H) (o := 48) (o2 := 69) (show i < n by omega) hn en ?_⟩
      rw [hP]
      rcases xrng (G 69 i) 999 (by decide) with b | ⟨v, hv, ev⟩
      · refine s6_inG_no (l := 0) (n := 999) b ?_; (first | refine pN1 ?_ | refine pN2 ?_)
        have hx' : i = unN (G 69) (min n 16) 0 := by
          rw [if_neg (un_bad b)] at hx; exact hx
        rw [hx'] at r ⊢
        exact h0 z H r hH
      · rw [ev]
        refine s6_inG (l := 0) (n := 999) (by omega) hv (by decide) ?_; (first | refine pY1 ?_ | refine pY2 ?_)
        refine s2_at (F := F) (G := H) (o := 48) (o2 := 69) (show i < n by omega) hn en ⟨xvin (show i < 16 by omega) (by omega), fun H1 e1 => ?_⟩
        rw [nI_clamp (show i < 2 ^ 31 by omega), hP] at e1
        rw [show nI i + (1 : Int32) = nI (i + 1) from nI_1 i]
        rw [if_pos (un_good ev hv)] at hx
        refine ih (i + 1) H1 (by omega) hx (fun k hk => by rw [e1, xst_ne hk]; exact hH k hk) ?_
        rw [unW_s ev (by omega), e1, ev]
        exact R5_s_under r (by omega)
  exact key (min n 16) 0 G (by omega) rfl (fun _ _ => rfl) (by rw [unW_0]; exact r5)
theorem s6_judge_3 {w : wW} {t0 t1 : wT} {F : xF} {G : xA} {n : Nat} {Q : Int32 → xF → xA → Prop} (hw : Wok w) (hd : w 0 ≤ 9999) (h0' : wTx t0) (h1' : wTx t1) (hn : n ≤ 24) (en : F (43 + 2 * 3) = nI n) (r5 : R5 w t0 t1 F G) (h2 : F (42 + 2 * 3) = 0 → qX6_error (2 : Int32) F G Q) (h0 : ¬ F (42 + 2 * 3) = 0 → ∀ E H, side6 F E G H → Q (nI (jdN t0 t1 w (G (66 + 3)) n 0)) E H) : qX6_judge (nI 3) F G Q := by
  refine s6_isSheet (k := 3) (by omega) ⟨fun _ => ⟨xvin (by omega) (by omega), ⟨fun c => absurd c (by decide), fun c => absurd c (by decide), fun c => absurd c (by decide), fun _ => ?_⟩⟩, fun c => absurd c (by decide)⟩
  refine s2_missing (F := F) (G := G) (o := 48) (o2 := 69) (fun z => ⟨fun _ => ?_, fun c => absurd rfl c⟩) (fun z => ⟨fun c => absurd c (by decide), fun _ => h2 z⟩)
  refine s6_take (o := 14) (p := 0) (o2 := 28) (p2 := 0) (R5_z r5) (by omega) (by omega) (fun E H rE _ _ fE fH => ⟨n + 1, ?_⟩)
  have key : ∀ (m i : Nat) (E1 : xF) (H1 : xA), i + m = n → jdN t0 t1 w (G 69) m i = jdN t0 t1 w (G 69) n 0 → side6 F E1 G H1 → R5 (goW t0 t1 w i) t0 t1 (xsub E1 14) (xsub H1 28) → qX6_judge_46_3 Q (m + 1) (nI i) E1 H1 := by
    intro m
    induction m with
    | zero =>
      intro i E1 H1 hi hx hs r
      obtain rfl : i = n := by omega
      have hx : i = jdN t0 t1 w (G 69) i 0 := hx
      have e43 : E1 49 = nI i := by rw [hs.1 49 (by omega)]; exact en
      refine ⟨fun _ => ?_, fun c => absurd (by rw [e43]; exact nI_le (Nat.le_refl _) (by omega)) c⟩
      rw [e43]
      have := h0 z E1 H1 hs
      rw [← hx] at this
      exact this
    | succ m ih =>
      intro i E1 H1 hi hx hs r
      have e43 : E1 (43 + 2 * 3) = nI n := by rw [hs.1 49 (by omega)]; exact en
      have hP : H1 69 = G 69 := hs.2 69 (by omega)
      obtain ⟨ok, dk⟩ := goW_ok (t0 := t0) (t1 := t1) hw i
      rw [jdN_s] at hx
      refine ⟨fun c => absurd (show nI n ≤ nI i by rw [← e43]; exact c) (nI_ge (by omega) (by omega)), fun _ => s2_at (F := E1) (G := H1) (o := 48) (o2 := 69) (show i < n by omega) hn e43 ?_⟩
      rw [hP, show E1 15 = nI (goW t0 t1 w i 2) from r.1.2.1]
      refine ⟨fun c => ?_, fun c => ?_⟩
      · rw [if_pos c] at hx
        refine s6_day (o := 14) (o2 := 28) ok (by omega) h0' h1' r (Or.inl ⟨rfl, rfl⟩) (fun E2 H2 r2 _ _ fE2 fH2 => ?_)
        rw [show nI i + (1 : Int32) = nI (i + 1) from nI_1 i]
        exact ih (i + 1) E2 H2 (by omega) hx (side6_tr hs (side6_b (by omega) (by omega) fE2 fH2)) r2
      · rw [if_neg c] at hx
        have := h0 z E1 H1 hs
        rw [← hx] at this
        exact this
  exact key n 0 E H (by omega) rfl (side6_b (by omega) (by omega) fE fH) rE
theorem s6_sheet49 {q : Nat} (hq : q < 4) {F : xF} {G : xA} {x2 x3 : Int32} {n : Nat} {Q : Int32 → xF → xA → Prop} (hx : (x2 = 0 ∧ n = 0) ∨ (¬ x2 = 0 ∧ x3 = nI n ∧ n ≤ 24)) (h : ∀ E H, E (42 + 2 * q) = x2 → E (43 + 2 * q) = nI n → (∀ k, k ≠ 42 + 2 * q → k ≠ 43 + 2 * q → E k = F k) → (∀ i, i < 24 → H (66 + q) i = 0) → (∀ k, k ≠ 66 + q → H k = G k) → Q 1 E H) : qX6_sheet_49 Q (nI q) x2 x3 F G := by
  rcases (by omega : q = 0 ∨ q = 1 ∨ q = 2 ∨ q = 3) with rfl | rfl | rfl | rfl
  · exact s6_sheet49_0 hx h
  · exact s6_sheet49_1 hx h
  · exact s6_sheet49_2 hx h
  · exact s6_sheet49_3 hx h
theorem s7_sheet65 {q n : Nat} (hq : q < 4) {F : xF} {G : xA} {x2 x3 : Int32} {Q : Int32 → xF → xA → Prop} (hx : (x2 = 0 ∧ n = 0) ∨ (¬ x2 = 0 ∧ x3 = nI n ∧ n ≤ 24)) (h : ∀ G3, (∀ k, k ≠ 11 → k ≠ 12 → k ≠ 13 → G3 k = G k) → G3 11 = upd (G 11) q x2 → G3 12 = upd (G 12) q (nI n) → (∀ i, i < 24 → G3 13 (24 * q + i) = 0) → (∀ j, (j < 24 * q ∨ 24 * q + 24 ≤ j) → G3 13 j = G 13 j) → Q 1 F G3) : qX7_sheet_65 Q (nI q) x2 x3 F G := by
  unfold qX7_sheet_65
  rw [nI_clamp (show q < 2 ^ 31 by omega)]
  refine ⟨xvin hq (by omega), fun G1 e1 => ?_⟩
  have main : ∀ G2 : xA, G2 = xst G1 12 q (nI n) → ∃ j90, qX7_sheet_90 Q j90 (nI q) (0 : Int32) F G2 := by
    intro G2 e2
    have key : ∀ (m k : Nat) (G3 : xA), k + m = 24 → (∀ j, j ≠ 13 → G3 j = G2 j) → (∀ i, i < k → G3 13 (24 * q + i) = 0) → (∀ j, (j < 24 * q ∨ 24 * q + 24 ≤ j) → G3 13 j = G 13 j) → qX7_sheet_90 Q (m + 1) (nI q) (nI k) F G3 := by
      intro m
      induction m with
      | zero =>
        intro k G3 hk a b c
        obtain rfl : k = 24 := by omega
        refine ⟨fun _ => h G3 (fun k h1 h2 h3 => by rw [a k h3, e2, xst_ne h2, e1, xst_ne h1]) (by rw [a 11 (by omega), e2, xst_ne (by omega), e1, xst_at]) (by rw [a 12 (by omega), e2, xst_at, e1, xst_ne (by omega)]) b c, fun c => absurd (nI_le (a := 24) (b := 24) (Nat.le_refl _) (by decide)) c⟩
      | succ m ih =>
        intro k G3 hk a b c
        refine ⟨fun c => absurd (show nI 24 ≤ nI k from c) (nI_ge (by omega) (by omega)), fun _ => ?_⟩
        rw [show (24 : Int32) * nI q + nI k = nI (24 * q + k) from by rw [show (24 : Int32) = nI 24 from rfl, pk_mul, nI_add], nI_clamp (show 24 * q + k < 2 ^ 31 by omega), show nI k + (1 : Int32) = nI (k + 1) from nI_1 k]
        refine ⟨xvin (by omega) (by omega), fun G4 e4 => ih (k + 1) G4 (by omega) (fun j hj => by rw [e4, xst_ne hj]; exact a j hj) (fun i hi => ?_) (fun j hj => by rw [e4, xst_at, upd_ne (by omega)]; exact c j hj)⟩
        rw [e4, xst_at]
        by_cases z : i = k
        · subst z; rw [upd_at]
        · rw [upd_ne (by omega)]; exact b i (by omega)
    exact ⟨25, key 24 0 G2 (by omega) (fun _ _ => rfl) (fun i hi => by omega) (fun j _ => by rw [e2, xst_ne (by omega), e1, xst_ne (by omega)])⟩
  rcases hx with ⟨z, rfl⟩ | ⟨z, rfl, hn⟩
  · exact ⟨fun c => absurd z c, fun _ => ⟨xvin hq (by omega), fun G2 e2 => main G2 e2⟩⟩
  · exact ⟨fun _ => ⟨xvin hq (by omega), fun G2 e2 => main G2 e2⟩, fun c => absurd c z⟩
theorem c_sheet : oX_sheet jo_I := by
  intro x1 x2 x3 F G F' G' hI
  unfold qX6_sheet
  rcases xrng x1 3 (by decide) with h | ⟨q, hq, rfl⟩
  · refine s6_isSheet_no h ?_; (first | refine pN1 ?_ | refine pN2 ?_); refine s6_error (k := 1) (by decide) ?_; unfold qX7_sheet; refine s7_isSheet_no h ?_; (first | refine pN1 ?_ | refine pN2 ?_); exact c_err (k := 1) (by decide) hI
  refine s6_isSheet hq ?_; (first | refine pY1 ?_ | refine pY2 ?_)
  by_cases z0 : x2 = 0
  · subst z0
    refine ⟨fun _ => ⟨fun _ => s6_sheet49 (n := 0) (by omega) (Or.inl ⟨rfl, rfl⟩) (fun E H a b c d e => ?_), fun c => absurd rfl c⟩, fun c => absurd rfl c⟩
    unfold qX7_sheet
    refine s7_isSheet hq ?_; (first | refine pY1 ?_ | refine pY2 ?_)
    refine ⟨fun _ => ⟨fun _ => ⟨fun _ => s7_sheet65 (n := 0) (by omega) (Or.inl ⟨rfl, rfl⟩) (fun G3 k3 e11 e12 b13 c13 => ⟨rfl, ?_⟩), fun c => absurd rfl c⟩, fun c => absurd rfl c⟩, fun c => absurd rfl c⟩
    exact jo_shq hI (by omega) c e (fun k hk => k3 k (by omega) (by omega) (by omega)) (by rw [a, e11, upd_at]) (fun p _ hpq => by rw [e11, upd_ne hpq]) ⟨0, by omega, b, by rw [e12, upd_at]⟩ (fun p _ hpq => by rw [e12, upd_ne hpq]) (fun i hi => by rw [d i hi, b13 i hi]) (fun p _ hpq i hi => c13 _ (by omega))
  by_cases zb : x2 = 8 ∨ x2 = 16 ∨ x2 = 32
  · have six : ∀ {Q : Int32 → xF → xA → Prop}, ((0 ≤ x3 → qX6_sheet_49 Q (nI q) x2 x3 F G) ∧ (¬ 0 ≤ x3 → qX6_error (3 : Int32) F G Q)) → ((x2 = 0 → ((x2 = 0 → qX6_sheet_49 Q (nI q) x2 x3 F G) ∧ (¬ x2 = 0 → ((0 ≤ x3 → qX6_sheet_49 Q (nI q) x2 x3 F G) ∧ (¬ 0 ≤ x3 → qX6_error (3 : Int32) F G (fun r45 F45 G45 => Q r45 F45 G45)))))) ∧ (¬ x2 = 0 → ((x2 = (8 : Int32) → ((x2 = 0 → qX6_sheet_49 Q (nI q) x2 x3 F G) ∧ (¬ x2 = 0 → ((0 ≤ x3 → qX6_sheet_49 Q (nI q) x2 x3 F G) ∧ (¬ 0 ≤ x3 → qX6_error (3 : Int32) F G (fun r45 F45 G45 => Q r45 F45 G45)))))) ∧ (¬ x2 = (8 : Int32) → ((x2 = (16 : Int32) → ((x2 = 0 → qX6_sheet_49 Q (nI q) x2 x3 F G) ∧ (¬ x2 = 0 → ((0 ≤ x3 → qX6_sheet_49 Q (nI q) x2 x3 F G) ∧ (¬ 0 ≤ x3 → qX6_error (3 : Int32) F G (fun r45 F45 G45 => Q r45 F45 G45)))))) ∧ (¬ x2 = (16 : Int32) → ((x2 = (32 : Int32) → ((x2 = 0 → qX6_sheet_49 Q (nI q) x2 x3 F G) ∧ (¬ x2 = 0 → ((0 ≤ x3 → qX6_sheet_49 Q (nI q) x2 x3 F G) ∧ (¬ 0 ≤ x3 → qX6_error (3 : Int32) F G (fun r45 F45 G45 => Q r45 F45 G45)))))) ∧ (¬ x2 = (32 : Int32) → qX6_error (1 : Int32) F G (fun r31 F31 G31 => Q r31 F31 G31))))))))) := by
      intro Q hQ
      have inn : ((x2 = 0 → qX6_sheet_49 Q (nI q) x2 x3 F G) ∧ (¬ x2 = 0 → ((0 ≤ x3 → qX6_sheet_49 Q (nI q) x2 x3 F G) ∧ (¬ 0 ≤ x3 → qX6_error (3 : Int32) F G (fun r45 F45 G45 => Q r45 F45 G45))))) := ⟨fun c => absurd c z0, fun _ => hQ⟩
      exact ⟨fun c => absurd c z0, fun _ => ⟨fun _ => inn, fun n8 => ⟨fun _ => inn, fun n16 => ⟨fun _ => inn, fun n32 => absurd zb (fun q => q.elim n8 (fun q => q.elim n16 n32))⟩⟩⟩⟩
    have seven : ∀ {Q : Int32 → xF → xA → Prop}, qX7_sheet_35 Q (nI q) x2 x3 F' G' → qX7_sheet (nI q) x2 x3 F' G' Q := by
      intro Q hQ
      unfold qX7_sheet
      refine s7_isSheet hq ?_; (first | refine pY1 ?_ | refine pY2 ?_)
      exact ⟨fun _ => hQ, fun _ => ⟨fun _ => hQ, fun n8 => ⟨fun _ => hQ, fun n16 => ⟨fun _ => hQ, fun n32 => absurd zb (fun q => q.elim n8 (fun q => q.elim n16 n32))⟩⟩⟩⟩
    rcases xrng x3 24 (by decide) with hb | ⟨n, hn, rfl⟩
    · by_cases ng : x3 < 0
      · refine six ⟨fun c => absurd ng (Int32.not_lt.mpr c), fun _ => ?_⟩
        refine s6_error (k := 3) (by decide) ?_
        refine seven ⟨fun c => absurd c z0, fun _ => ⟨fun c => absurd ng (Int32.not_lt.mpr c), fun _ => ?_⟩⟩
        exact c_err (k := 3) (by decide) hI
      · have gt : ¬ x3 ≤ (24 : Int32) := Int32.not_le.mpr (hb.resolve_left ng)
        refine six ⟨fun _ => ⟨fun c => absurd c z0, fun _ => ⟨fun c => absurd c gt, fun _ => ?_⟩⟩, fun c => absurd (Int32.not_lt.mp ng) c⟩
        refine s6_error (k := 1) (by decide) ?_
        refine seven ⟨fun c => absurd c z0, fun _ => ⟨fun _ => ⟨fun c => absurd c z0, fun _ => ⟨fun c => absurd c gt, fun _ => ?_⟩⟩, fun c => absurd (Int32.not_lt.mp ng) c⟩⟩
        exact c_err (k := 1) (by decide) hI
    · refine six ⟨fun _ => s6_sheet49 (n := n) (by omega) (Or.inr ⟨z0, rfl, hn⟩) (fun E H a b c d e => ?_), fun c => absurd (nI_pos' (by omega)) c⟩
      refine seven ⟨fun c => absurd c z0, fun _ => ⟨fun _ => ⟨fun c => absurd c z0, fun _ => ⟨fun _ => s7_sheet65 (n := n) (by omega) (Or.inr ⟨z0, rfl, hn⟩) (fun G3 k3 e11 e12 b13 c13 => ⟨rfl, ?_⟩), fun c => absurd (nI_le (b := 24) hn (by decide)) c⟩⟩, fun c => absurd (nI_pos' (by omega)) c⟩⟩
      exact jo_shq hI (by omega) c e (fun k hk => k3 k (by omega) (by omega) (by omega)) (by rw [a, e11, upd_at]) (fun p _ hpq => by rw [e11, upd_ne hpq]) ⟨n, by omega, b, by rw [e12, upd_at]⟩ (fun p _ hpq => by rw [e12, upd_ne hpq]) (fun i hi => by rw [d i hi, b13 i hi]) (fun p _ hpq i hi => c13 _ (by omega))
  · have n8 : ¬ x2 = 8 := fun q => zb (Or.inl q)
    have n16 : ¬ x2 = 16 := fun q => zb (Or.inr (Or.inl q))
    have n32 : ¬ x2 = 32 := fun q => zb (Or.inr (Or.inr q))
    refine ⟨fun c => absurd c z0, fun _ => ⟨fun c => absurd c n8, fun _ => ⟨fun c => absurd c n16, fun _ => ⟨fun c => absurd c n32, fun _ => ?_⟩⟩⟩⟩
    refine s6_error (k := 1) (by decide) ?_; unfold qX7_sheet; refine s7_isSheet hq ?_; (first | refine pY1 ?_ | refine pY2 ?_)
    refine ⟨fun c => absurd c z0, fun _ => ⟨fun c => absurd c n8, fun _ => ⟨fun c => absurd c n16, fun _ => ⟨fun c => absurd c n32, fun _ => ?_⟩⟩⟩⟩; exact c_err (k := 1) (by decide) hI
theorem c_put : oX_put jo_I := by
  intro x1 x2 x3 F G F' G' hI
  have hSh := hI.2.2.2.2.1
  rcases xrng x1 3 (by decide) with h | ⟨q, hq, rfl⟩
  · unfold qX6_put; refine s6_isSheet_no h ?_; (first | refine pN1 ?_ | refine pN2 ?_); refine s6_error (k := 1) (by decide) ?_; unfold qX7_put; refine s7_isSheet_no h ?_; (first | refine pN1 ?_ | refine pN2 ?_); exact c_err (k := 1) (by decide) hI
  obtain ⟨eb, ⟨n, hn, e1, e2⟩, nu⟩ := hSh q (by omega)
  have six : ∀ {Q : Int32 → xF → xA → Prop}, (F (42 + 2 * q) = 0 → qX6_error (2 : Int32) F G Q) → (¬ F (42 + 2 * q) = 0 → (x2 < 0 ∨ nI n ≤ x2) → qX6_error (1 : Int32) F G Q) → (¬ F (42 + 2 * q) = 0 → ∀ i, i < n → x2 = nI i → Q 1 F (xst G (66 + q) i (shB32 x3 (F (42 + 2 * q))))) → qX6_put (nI q) x2 x3 F G Q := by
    intro Q a b c
    rcases (by omega : q = 0 ∨ q = 1 ∨ q = 2 ∨ q = 3) with rfl | rfl | rfl | rfl
    · exact s6_put_0 hn e1 a b c
    · exact s6_put_1 hn e1 a b c
    · exact s6_put_2 hn e1 a b c
    · exact s6_put_3 hn e1 a b c
  have head : ∀ {Q : Int32 → xF → xA → Prop}, ((¬ (G' 11 q) = 0 → (vp_in (nI q) 4) ∧ qX7_in x2 (0 : Int32) (nI n - (1 : Int32)) (fun r38 => ((¬ r38 = 0 → (vp_in (nI q) 4) ∧ (vp_in (((24 : Int32) * nI q) + x2) 96) ∧ (∀ G78 : xA, G78 = xst G' 13 (((24 : Int32) * nI q) + x2).toNatClampNeg (shB32 x3 (G' 11 q)) → Q (1 : Int32) F' G78)) ∧ (r38 = 0 → qX7_error (1 : Int32) F' G' Q)))) ∧ ((G' 11 q) = 0 → qX7_error (2 : Int32) F' G' Q)) → qX7_put (nI q) x2 x3 F' G' Q := by
    intro Q hQ
    unfold qX7_put
    rw [nI_clamp (show q < 2 ^ 31 by omega), e2]
    exact s7_isSheet hq ⟨fun _ => ⟨xvin (by omega) (by omega), hQ⟩, fun c => absurd c (by decide)⟩
  refine six (fun z => ?_) (fun z b => ?_) (fun z i hi ei => ?_)
  · refine s6_error (k := 2) (by decide) ?_; refine head ⟨fun c => absurd (by rw [← eb]; exact z) c, fun _ => ?_⟩; exact c_err (k := 2) (by decide) hI
  · refine s6_error (k := 1) (by decide) ?_; refine head ⟨fun c => ⟨xvin (by omega) (by omega), s7_upto_no (by omega) b ⟨fun c => absurd rfl c, fun _ => ?_⟩⟩, fun c => absurd (by rw [eb]; exact c) z⟩; exact c_err (k := 1) (by decide) hI
  · subst ei
    refine head ⟨fun c => ⟨xvin (by omega) (by omega), s7_upto (by omega) hi ⟨fun _ => ?_, fun c => absurd c (by decide)⟩⟩, fun c => absurd (by rw [eb]; exact c) z⟩
    rw [show (24 : Int32) * nI q + nI i = nI (24 * q + i) from by rw [show (24 : Int32) = nI 24 from rfl, pk_mul, nI_add], nI_clamp (show 24 * q + i < 2 ^ 31 by omega), ← eb]
    refine ⟨xvin (by omega) (by omega), xvin (by omega) (by omega), fun G3 e3 => ⟨rfl, ?_⟩⟩
    refine jo_shq hI (q := q) (by omega) (fun _ _ _ => rfl) (fun k hk => xst_ne hk) (fun k hk => by rw [e3, xst_ne (by omega)]) (by rw [e3, xst_ne (by omega)]; exact eb) (fun p _ _ => by rw [e3, xst_ne (by omega)]) ⟨n, hn, e1, by rw [e3, xst_ne (by omega)]; exact e2⟩ (fun p _ _ => by rw [e3, xst_ne (by omega)]) (fun j hj => ?_) (fun p hp hpq j hj => by rw [e3, xst_at, upd_ne (by omega)])
    rw [e3, xst_at, xst_at]
    by_cases y : j = i
    · subst y; rw [upd_at, upd_at]
    · rw [upd_ne y, upd_ne (by omega)]; exact nu j hj
theorem s7_lacks {q : Nat} (hq : q < 4) {F : xF} {G : xA} {Q : Int32 → xF → xA → Prop} (h0 : ¬ G 11 q = 0 → Q 0 F G) (h2 : G 11 q = 0 → Q 2 F G) : qX7_lacks (nI q) F G Q := by
  unfold qX7_lacks
  rw [nI_clamp (show q < 2 ^ 31 by omega)]
  exact s7_isSheet (by omega) ⟨fun _ => ⟨xvin hq (by omega), h0, h2⟩, fun c => absurd c (by decide)⟩
theorem c_unders : oX_unders jo_I := by
  intro x1 F G F' G' hI
  obtain ⟨⟨⟨w, t0, t1, hw, hd, h0, h1, r5, r7, hz⟩, hTp, hWt⟩, _, _, _, hSh, h5⟩ := id hI
  rcases xrng x1 3 (by decide) with h | ⟨q, hq, rfl⟩
  · unfold qX6_unders; refine s6_isSheet_no h ?_; (first | refine pN1 ?_ | refine pN2 ?_); refine s6_error (k := 1) (by decide) ?_; unfold qX7_unders qX7_lacks; refine s7_isSheet_no h ?_; (first | refine pN1 ?_ | refine pN2 ?_); refine ⟨fun c => absurd c (by decide), fun _ => ?_⟩; exact c_err (k := 1) (by decide) hI
  obtain ⟨eb, ⟨n, hn, e1, e2⟩, nu⟩ := hSh q (by omega)
  have six : ∀ {Q : Int32 → xF → xA → Prop}, (F (42 + 2 * q) = 0 → qX6_error (2 : Int32) F G Q) → (¬ F (42 + 2 * q) = 0 → ∀ H, R5 (unW w (G (66 + q)) (unN (G (66 + q)) (min n 16) 0)) t0 t1 F H → (∀ k, k ≠ 1 → H k = G k) → Q (nI (unN (G (66 + q)) (min n 16) 0)) F H) → qX6_unders (nI q) F G Q := by
    intro Q a b
    rcases (by omega : q = 0 ∨ q = 1 ∨ q = 2 ∨ q = 3) with rfl | rfl | rfl | rfl
    · exact s6_unders_0 hn e1 r5 a b
    · exact s6_unders_1 hn e1 r5 a b
    · exact s6_unders_2 hn e1 r5 a b
    · exact s6_unders_3 hn e1 r5 a b
  refine six (fun z => ?_) (fun z H rH hH => ?_)
  · refine s6_error (k := 2) (by decide) ?_; unfold qX7_unders; refine s7_lacks (by omega) (fun c => absurd (by rw [← eb]; exact z) c) (fun _ => ⟨fun c => absurd c (by decide), fun _ => ?_⟩); exact c_err (k := 2) (by decide) hI
  have okw := Wok_unW (g := G (66 + q)) hw (min n 16) 0 (by omega) (by rw [unW_0]; exact hw)
  have seven : ∀ {Q : Int32 → xF → xA → Prop}, (∀ G3, fr7 G' G3 → R7 (unW w (G (66 + q)) (unN (G (66 + q)) (min n 16) 0)) t0 t1 (G3 0) → Q (nI (unN (G (66 + q)) (min n 16) 0)) F' G3) → qX7_unders (nI q) F' G' Q := by
    intro Q hQ
    unfold qX7_unders
    refine s7_lacks (by omega) (fun _ => ⟨fun _ => ⟨min n 16 + 1, ?_⟩, fun c => absurd (by decide) c⟩) (fun c => absurd (by rw [eb]; exact c) z)
    have key : ∀ (m i : Nat) (G3 : xA), i + m = min n 16 → unN (G (66 + q)) m i = unN (G (66 + q)) (min n 16) 0 → fr7 G' G3 → R7 (unW w (G (66 + q)) i) t0 t1 (G3 0) → qX7_unders_18 Q (m + 1) (nI q) (nI i) F' G3 := by
      intro m
      induction m with
      | zero =>
        intro i G3 hi hx fr r
        have hx : i = unN (G (66 + q)) (min n 16) 0 := hx
        have fin : Q (nI i) F' G3 := by
          rw [hx] at r ⊢
          exact hQ G3 fr r
        rw [qX7_unders_18, nI_clamp (show q < 2 ^ 31 by omega), fr.1 12 (by omega) (by omega) (by omega) (by omega), e2]
        exact ⟨xvin (by omega) (by omega), le_dec (by omega) (by omega) (fun _ => fin) (fun c => le_dec (a := 16) (by omega) (by omega) (fun _ => fin) (fun c' => absurd hi (by omega)))⟩
      | succ m ih =>
        intro i G3 hi hx fr r
        rw [unN_s] at hx
        rw [qX7_unders_18, nI_clamp (show q < 2 ^ 31 by omega), fr.1 12 (by omega) (by omega) (by omega) (by omega), e2, show (24 : Int32) * nI q + nI i = nI (24 * q + i) from by rw [show (24 : Int32) = nI 24 from rfl, pk_mul, nI_add], nI_clamp (show 24 * q + i < 2 ^ 31 by omega), fr.1 13 (by omega) (by omega) (by omega) (by omega), ← nu i (by omega)]
        refine ⟨xvin (by omega) (by omega), le_dec (by omega) (by omega) (fun c => absurd c (by omega)) (fun _ => le_dec (a := 16) (by omega) (by omega) (fun c => absurd c (by omega)) (fun _ => ⟨xvin (by omega) (by omega), ?_⟩))⟩
        rcases xrng (G (66 + q) i) 999 (by decide) with b | ⟨v, hv, ev⟩
        · refine s7_inG_no (l := 0) (n := 999) b ?_; (first | refine pN1 ?_ | refine pN2 ?_)
          rw [if_neg (un_bad b)] at hx
          rw [hx] at r ⊢
          exact hQ G3 fr r
        · rw [ev]
          refine s7_inG (l := 0) (n := 999) (by omega) hv (by decide) ?_; (first | refine pY1 ?_ | refine pY2 ?_)
          rw [if_pos (un_good ev hv)] at hx
          rw [show (24 : Int32) + nI i = nI (24 + i) from nI_add 24 i, nI_clamp (show 24 + i < 2 ^ 31 by omega), show nI i + (1 : Int32) = nI (i + 1) from nI_1 i]
          refine ⟨xvin (by omega) (by omega), xvin (by omega) (by omega), fun G4 e4 => ih (i + 1) G4 (by omega) hx ?_ ?_⟩
          · rw [e4]; exact fr7_tr fr (fr7_0 (by omega))
          · rw [e4, xst_at, unW_s ev (by omega)]; exact R7_upd r (by omega)
    exact key (min n 16) 0 G' (by omega) rfl fr7_rfl (by rw [unW_0]; exact r7)
  refine seven (fun G3 fr r => ⟨rfl, ?_⟩)
  exact jo_now hI ⟨⟨fun _ _ => rfl, fun k hk => hH k (by omega)⟩, ⟨rfl, rfl, rfl⟩, hH 56 (by omega), hH 57 (by omega)⟩ fr okw (by unfold unW; rw [if_neg (by omega)]; exact hd) h0 h1 rH r
theorem c_judge : oX_judge jo_I := by
  intro x1 F G F' G' hI
  obtain ⟨⟨⟨w, t0, t1, hw, hd, h0, h1, r5, r7, hz⟩, hTp, hWt⟩, _, _, _, hSh, h5⟩ := id hI
  rcases xrng x1 3 (by decide) with h | ⟨q, hq, rfl⟩
  · unfold qX6_judge; refine s6_isSheet_no h ?_; (first | refine pN1 ?_ | refine pN2 ?_); refine s6_error (k := 1) (by decide) ?_; unfold qX7_judge qX7_lacks; refine s7_isSheet_no h ?_; (first | refine pN1 ?_ | refine pN2 ?_); refine ⟨fun c => absurd c (by decide), fun _ => ?_⟩; exact c_err (k := 1) (by decide) hI
  obtain ⟨eb, ⟨n, hn, e1, e2⟩, nu⟩ := hSh q (by omega)
  have six : ∀ {Q : Int32 → xF → xA → Prop}, (F (42 + 2 * q) = 0 → qX6_error (2 : Int32) F G Q) → (¬ F (42 + 2 * q) = 0 → ∀ E H, side6 F E G H → Q (nI (jdN t0 t1 w (G (66 + q)) n 0)) E H) → qX6_judge (nI q) F G Q := by
    intro Q a b
    rcases (by omega : q = 0 ∨ q = 1 ∨ q = 2 ∨ q = 3) with rfl | rfl | rfl | rfl
    · exact s6_judge_0 hw hd h0 h1 hn e1 r5 a b
    · exact s6_judge_1 hw hd h0 h1 hn e1 r5 a b
    · exact s6_judge_2 hw hd h0 h1 hn e1 r5 a b
    · exact s6_judge_3 hw hd h0 h1 hn e1 r5 a b
  refine six (fun z => ?_) (fun z E H hs => ?_)
  · refine s6_error (k := 2) (by decide) ?_; unfold qX7_judge; refine s7_lacks (by omega) (fun c => absurd (by rw [← eb]; exact z) c) (fun _ => ⟨fun c => absurd c (by decide), fun _ => ?_⟩); exact c_err (k := 2) (by decide) hI
  have seven : ∀ {Q : Int32 → xF → xA → Prop}, (∀ G3, G3 0 = G' 0 → (∀ k, k = 1 ∨ k = 3 ∨ (10 ≤ k ∧ k < 14) → G3 k = G' k) → Q (nI (jdN t0 t1 w (G (66 + q)) n 0)) F' G3) → qX7_judge (nI q) F' G' Q := by
    intro Q hQ
    unfold qX7_judge
    refine s7_lacks (by omega) (fun _ => ⟨fun _ => s7_down (fun G1 d1 k1 => ⟨n + 1, ?_⟩), fun c => absurd (by decide) c⟩) (fun c => absurd (by rw [eb]; exact c) z)
    have key : ∀ (m i : Nat) (G2 : xA), i + m = n → jdN t0 t1 w (G (66 + q)) m i = jdN t0 t1 w (G (66 + q)) n 0 → dur7 G' G2 → R7 (goW t0 t1 w i) t0 t1 (G2 0) → qX7_judge_22 Q (m + 1) (nI q) (nI i) F' G2 := by
      intro m
      induction m with
      | zero =>
        intro i G2 hi hx d2 r
        obtain rfl : i = n := by omega
        have hx : i = jdN t0 t1 w (G (66 + q)) i 0 := hx
        rw [qX7_judge_22, nI_clamp (show q < 2 ^ 31 by omega), d2.1 12 (by omega), e2]
        refine ⟨xvin (by omega) (by omega), fun _ => s7_back d2 (fun G3 e3 _ k3 => ?_), fun c => absurd (nI_le (Nat.le_refl _) (by omega)) c⟩
        have := hQ G3 e3 k3
        rw [← hx] at this
        exact this
      | succ m ih =>
        intro i G2 hi hx d2 r
        obtain ⟨ok, dk⟩ := goW_ok (t0 := t0) (t1 := t1) hw i
        rw [jdN_s] at hx
        rw [qX7_judge_22, nI_clamp (show q < 2 ^ 31 by omega), d2.1 12 (by omega), e2, show (24 : Int32) * nI q + nI i = nI (24 * q + i) from by rw [show (24 : Int32) = nI 24 from rfl, pk_mul, nI_add], nI_clamp (show 24 * q + i < 2 ^ 31 by omega), d2.1 13 (by omega), ← nu i (by omega), r.1 2 (by omega) (by omega)]
        refine ⟨xvin (by omega) (by omega), fun c => absurd c (nI_ge (by omega) (by omega)), fun _ => ⟨xvin (by omega) (by omega), fun c => ?_, fun c => ?_⟩⟩
        · rw [if_neg c] at hx
          refine s7_back d2 (fun G3 e3 _ k3 => ?_)
          have := hQ G3 e3 k3
          rw [← hx] at this
          exact this
        · rw [if_pos c] at hx
          refine s7_day ok (by omega) h0 h1 r h5 (fun G3 f3 r3 _ => ?_)
          rw [show nI i + (1 : Int32) = nI (i + 1) from nI_1 i]
          exact ih (i + 1) G3 (by omega) hx (dur_fr d2 f3) r3
    exact key n 0 G1 (by omega) rfl d1 (by rw [k1 0 (by omega)]; exact r7)
  exact seven (fun G3 e3 k3 => ⟨rfl, jo_ahead hI hs e3 k3⟩)
