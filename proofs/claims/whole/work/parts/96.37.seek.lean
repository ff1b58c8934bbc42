/-! the best leash: the class's way -/
def woodW (w wS : wW) : wW := fun j => if j = 2 ∨ (24 ≤ j ∧ j < 40) then wS j else w j
theorem R5_wood {w wS : wW} {t0 t1 s0 s1 : wT} {F : xF} {G : xA} {Q : xF → xA → Prop} (r : R5 w t0 t1 F G) (rS : R5 wS s0 s1 (xsub F 7) (xsub G 14)) (h : ∀ F' G', R5 (woodW w wS) t0 t1 F' G' → (∀ a, a < 16 → G' 8 a = G 22 a) → (∀ k, k ≠ 1 → F' k = F k) → (∀ k, k ≠ 1 → k ≠ 8 → G' k = G k) → Q F' G') : qX5_takeWoodFrom F G Q := by
  intro G1 e1 G2 e2 F1 f1
  rw [cl0, cl16] at e1 e2
  have hF : ∀ k, k ≠ 1 → F1 k = F k := fun k hk => by rw [f1, vu_ne hk]
  have hG : ∀ k, k ≠ 1 → k ≠ 8 → G2 k = G k := fun k a b => by rw [e2, vu_ne b, e1, vu_ne a]
  have n : ∀ j, ¬ (j = 2 ∨ (24 ≤ j ∧ j < 40)) → woodW w wS j = w j := fun j hj => if_neg hj
  obtain ⟨⟨x0, x1, x2, x3⟩, c0, c1, c2, c3, c4, c5, c6, c7, c8, c9⟩ := r
  refine h F1 G2 ⟨⟨?_, ?_, ?_, ?_⟩, fun a ha => ?_, fun a ha => ?_, fun a ha => ?_, fun a ha => ?_, fun a ha => ?_, fun a ha => ?_, fun a ha => ?_, fun a ha i hi => ?_, ?_, ?_⟩ (fun a ha => ?_) hF hG
  · rw [hF 0 (by omega), n 1 (by omega)]; exact x0
  · rw [f1, vu_at]
    show F 8 = nI (if _ then _ else _)
    rw [if_pos (Or.inl rfl)]; exact rS.1.2.1
  · rw [hF 2 (by omega), n 3 (by omega)]; exact x2
  · rw [hF 3 (by omega), n 0 (by omega)]; exact x3
  · rw [hG 0 (by omega) (by omega), c0 a ha]; unfold wO; rw [n _ (by omega)]
  · rw [e2, vu_ne (by omega), e1, vu_at, cpy0 ha]
    show G 15 a = nI (if _ then _ else _)
    rw [if_pos (Or.inr ⟨by omega, by omega⟩)]; exact rS.2.2.1 a ha
  · rw [hG 2 (by omega) (by omega), c2 a ha]; unfold wF; rw [n _ (by omega)]
  · rw [hG 3 (by omega) (by omega), c3 a ha]; unfold wF; rw [n _ (by omega)]
  · rw [hG 4 (by omega) (by omega), c4 a ha]; unfold wF; rw [n _ (by omega)]
  · rw [hG 5 (by omega) (by omega), c5 a ha]; unfold wF; rw [n _ (by omega)]
  · rw [hG 6 (by omega) (by omega), c6 a ha]; unfold wF; rw [n _ (by omega)]
  · rw [hG 7 (by omega) (by omega), c7 a ha i hi]; unfold wF; rw [n _ (by omega)]
  · rw [hF 5 (by omega), hG 11 (by omega) (by omega)]; exact c8
  · rw [hF 6 (by omega), hG 13 (by omega) (by omega)]; exact c9
  · rw [e2, vu_at, cpy0 ha, e1, vu_ne (by omega)]
theorem s6_wood {w wS : wW} {t0 t1 s0 s1 : wT} {o p o2 p2 : Nat} {F : xF} {G : xA} {K : xF → xA → Prop} (r : R5 w t0 t1 (xsub F o) (xsub G o2)) (rS : R5 wS s0 s1 (xsub F p) (xsub G p2)) (hop : o + 7 ≤ p ∨ p + 7 ≤ o) (hop2 : o2 + 14 ≤ p2 ∨ p2 + 14 ≤ o2) (h : ∀ E H, R5 (woodW w wS) t0 t1 (xsub E o) (xsub H o2) → (∀ a, a < 16 → H (o2 + 8) a = G (p2 + 8) a) → (∀ k, (k < o ∨ o + 7 ≤ k) → E k = F k) → (∀ k, (k < o2 ∨ o2 + 14 ≤ k) → H k = G k) → K E H) : qX5_takeWoodFrom (xcat 7 (xsub F o) (xsub F p)) (xcat 14 (xsub G o2) (xsub G p2)) (fun F1 G1 => ∀ E : xF, E = xspl (xspl F o 7 F1) p 7 (xsub F1 7) → ∀ H : xA, H = xspl (xspl G o2 14 G1) p2 14 (xsub G1 14) → K E H) := by
  have xc : ∀ {α : Type} (n : Nat) (f g : Nat → α) (k : Nat), n ≤ k → xcat n f g k = g (k - n) := fun n f g k hk => by unfold xcat; rw [if_neg (by omega)]
  have xl : ∀ {α : Type} (n : Nat) (f g : Nat → α) (k : Nat), k < n → xcat n f g k = f k := fun n f g k hk => by unfold xcat; rw [if_pos hk]
  refine R5_wood (w := w) (wS := wS) (t0 := t0) (t1 := t1) (s0 := s0) (s1 := s1) ?_ ?_ (fun F1 G1 r1 g8 hF hG E eE H eH => ?_)
  · exact R5_c r (fun k hk _ => xl _ _ _ _ hk) (fun k hk => xl _ _ _ _ (by omega))
  · refine R5_c rS (fun k hk _ => ?_) (fun k hk => ?_)
    · show xcat 7 _ _ (7 + k) = _
      rw [xc _ _ _ _ (by omega), Nat.add_sub_cancel_left]
    · show xcat 14 _ _ (14 + k) = _
      rw [xc _ _ _ _ (by omega), Nat.add_sub_cancel_left]
  · have hE : ∀ k, (k < o ∨ o + 7 ≤ k) → E k = F k := fun k hk => by
      rw [eE]
      by_cases c : p ≤ k ∧ k < p + 7
      · obtain ⟨j, rfl⟩ : ∃ j, k = p + j := ⟨k - p, by omega⟩
        rw [xspl_in (by omega)]
        show F1 (7 + j) = _
        rw [hF _ (by omega), xc _ _ _ _ (by omega), Nat.add_sub_cancel_left]; rfl
      · rw [xspl_out (by omega), xspl_out (by omega)]
    have hH : ∀ k, (k < o2 ∨ o2 + 14 ≤ k) → H k = G k := fun k hk => by
      rw [eH]
      by_cases c : p2 ≤ k ∧ k < p2 + 14
      · obtain ⟨j, rfl⟩ : ∃ j, k = p2 + j := ⟨k - p2, by omega⟩
        rw [xspl_in (by omega)]
        show G1 (14 + j) = _
        rw [hG _ (by omega) (by omega), xc _ _ _ _ (by omega), Nat.add_sub_cancel_left]; rfl
      · rw [xspl_out (by omega), xspl_out (by omega)]
    have iE : ∀ k, k < 7 → E (o + k) = F1 k := fun k hk => by rw [eE, xspl_out (by omega), xspl_in hk]
    have iH : ∀ k, k < 14 → H (o2 + k) = G1 k := fun k hk => by rw [eH, xspl_out (by omega), xspl_in hk]
    refine h E H (R5_c r1 (fun k hk _ => iE k hk) (fun k hk => iH k (by omega))) (fun a ha => ?_) hE hH
    rw [iH 8 (by omega), g8 a ha, xc _ _ _ _ (by omega)]; rfl
theorem xsub_xst {H : xA} {o m j : Nat} {x : Int32} : xsub (xst H (o + m) j x) o = xst (xsub H o) m j x := by
  funext k
  show xst H (o + m) j x (o + k) = _
  by_cases c : k = m
  · subst c; rw [xst_at, xst_at]; rfl
  · rw [xst_ne (by omega), xst_ne c]; rfl
theorem s6_hours {t0 t1 : wT} {o o2 f : Nat} {F : xF} {G : xA} {w : wW} {K : Int32 → xF → xA → Prop} (hw : Wok w) (hf : f < 9) (h1 : wTx t1) (r : R5 w t0 t1 (xsub F o) (xsub G o2)) (s : ∀ a, a < 16 → G (o2 + 8) a = smW t1 w a) (h : ∀ E H, R5 (hrs t1 f w (w 3)).1 t0 t1 (xsub E o) (xsub H o2) → (∀ k, (k < o ∨ o + 7 ≤ k) → E k = F k) → (∀ k, (k < o2 ∨ o2 + 14 ≤ k) → H k = G k) → K (nI (hrs t1 f w (w 3)).2.2) E H) : qX5_hours (nI f) (xsub F o) (xsub G o2) (fun r1 F1 G1 => ∀ E : xF, E = xspl F o 7 F1 → ∀ H : xA, H = xspl G o2 14 G1 → K r1 E H) :=
  s5_hours hw hf h1 r s (fun F1 G1 r1 _ _ E eE H eH => h E H (by rw [eE, eH]; exact R5_blk r1) (fun k hk => by rw [eE, xspl_out hk]) (fun k hk => by rw [eH, xspl_out hk]))
theorem whoS_c {w w' : wW} (h0 : w' 0 = w 0) (h4 : ∀ f, wF w' f 4 = wF w f 4) : ∀ n k, whoS w' n k = whoS w n k
  | 0, _ => rfl
  | n + 1, k => by
    unfold whoS
    rw [h0, h4, whoS_c h0 h4 n (k + 1)]
theorem whoW_c {w w' : wW} (h0 : w' 0 = w 0) (h4 : ∀ f, wF w' f 4 = wF w f 4) : whoW w' = whoW w := whoS_c h0 h4 9 0
theorem hrs_lo {t1 : wT} {f : Nat} {w : wW} (hw : Wok w) (hf : f < 9) {j : Nat} (hj : j ≠ 2 ∧ (j < 24 ∨ 40 ≤ j)) : ∀ h, (hrs t1 f w h).1 j = w j
  | 0 => rfl
  | h + 1 => by
    have ok := (hrs_ok (t1 := t1) hw hf h).1
    have hp := toW_lt (t1 := t1) (h := h) ok hf
    show digAt _ _ j = _
    unfold digAt
    rw [wU_ne (by omega), wU_ne (by omega)]
    exact hrs_lo hw hf hj h
theorem side6_60 {F E : xF} {G H H1 : xA} (h : side6 F E G H) (hH : ∀ k, k ≠ 60 → H1 k = H k) : side6 F E G H1 := ⟨h.1, fun k q => by rw [hH k (by omega)]; exact h.2 k q⟩
/-- the class's seeking -/
theorem s6_seek {w : wW} {t0 t1 : wT} {F : xF} {G : xA} {Q : xF → xA → Prop} (hw : Wok w) (hd : w 0 ≤ 9999) (h1 : wTx t1) (r5 : R5 w t0 t1 F G) (h : ∀ E H, side6 F E G H → H 60 0 = nI (blS t1 w (whoW w) 624).2 → (∀ i, i < 4 → H 60 (1 + i) = nI (dg i (blS t1 w (whoW w) 624).1)) → Q E H) : qX6_seekLeash F G Q := by
  obtain ⟨hf, _, _⟩ := whoW_ok hw
  have okM := Wok_mornK hw (Nat.le_refl 16)
  have mF : ∀ f, wF (mornW w) f 4 = wF w f 4 := fun f => mornK_ne (by omega) (by omega)
  have m0 : mornW w 0 = w 0 := mornK_ne (by omega) (by omega)
  have m3 : mornW w 3 = w 3 := mornK_ne (by omega) (by omega)
  unfold qX6_seekLeash
  refine s6_take (o := 14) (p := 0) (o2 := 28) (p2 := 0) (R5_z r5) (by omega) (by omega) (fun E H rE _ _ fE fH => ?_)
  refine s5_morning hw h1 rE (fun G1 rM sM E1 eE1 H1 eH1 => ?_)
  have rM1 : R5 (mornW w) t0 t1 (xsub E1 14) (xsub H1 28) := by rw [eE1, eH1]; exact R5_blk rM
  have sM1 : ∀ a, a < 16 → H1 (28 + 8) a = smW t1 (mornW w) a := fun a ha => by rw [eH1, xspl_in (by omega)]; exact sM a ha
  have fE1 : ∀ k, (k < 14 ∨ 14 + 7 ≤ k) → E1 k = E k := fun k hk => by rw [eE1, xspl_out hk]
  have fH1 : ∀ k, (k < 28 ∨ 28 + 14 ≤ k) → H1 k = H k := fun k hk => by rw [eH1, xspl_out hk]
  refine s6_take (o := 21) (p := 14) (o2 := 42) (p2 := 28) rM1 (by omega) (by omega) (fun E2 H2 rT _ _ fE2 fH2 => ?_)
  have rS : R5 (mornW w) t0 t1 (xsub E2 14) (xsub H2 28) := R5_c rM1 (fun k hk _ => fE2 (14 + k) (by omega)) (fun k hk => fH2 (28 + k) (by omega))
  have sS : ∀ a, a < 16 → H2 (28 + 8) a = smW t1 (mornW w) a := fun a ha => by rw [fH2 _ (by omega)]; exact sM1 a ha
  refine s6_who (o := 14) (o2 := 28) (w := mornW w) okM (by rw [m0]; omega) rS ?_
  rw [whoW_c m0 mF]
  intro G3 e3
  have hs3 : side6 F E2 G G3 := side6_60 (side6_tr (side6_b (by omega) (by omega) fE fH) (side6_tr (side6_b (by omega) (by omega) fE1 fH1) (side6_b (by omega) (by omega) fE2 fH2))) (fun k hk => by rw [e3, xst_ne hk])
  have b3 : G3 60 0 = -1 := by rw [e3, xst_at, upd_at]
  -- the rows
  have key : ∀ (n k : Nat) (E4 : xF) (H4 : xA), k + n = 625 → side6 F E4 G H4 → R5 (mornW w) t0 t1 (xsub E4 14) (xsub H4 28) → (∀ a, a < 16 → H4 (28 + 8) a = smW t1 (mornW w) a) → (∃ wT : wW, R5 wT t0 t1 (xsub E4 21) (xsub H4 42) ∧ ∀ j, j ≠ 2 → (j < 24 ∨ 40 ≤ j) → (j < 45 + 9 * whoW w ∨ 49 + 9 * whoW w ≤ j) → wT j = mornW w j) → ((k = 0 ∧ H4 60 0 = -1) ∨ (∃ u, k = u + 1 ∧ H4 60 0 = nI (blS t1 w (whoW w) u).2 ∧ ∀ i, i < 4 → H4 60 (1 + i) = nI (dg i (blS t1 w (whoW w) u).1))) → qX6_seekLeash_46 Q (n + 1) (nI (whoW w)) (nI k) E4 H4 := by
    intro n
    induction n with
    | zero =>
      intro k E4 H4 hk hs _ _ _ hx
      obtain rfl : k = 625 := by omega
      rcases hx with ⟨q, _⟩ | ⟨u, hu, p1, p2⟩
      · exact absurd q (by decide)
      · obtain rfl : u = 624 := by omega
        exact ⟨fun _ => h E4 H4 hs p1 p2, fun c => absurd (nI_le (a := 625) (b := 625) (Nat.le_refl _) (by decide)) c⟩
    | succ n ih =>
      intro k E4 H4 hk hs rS sS ⟨wT, rT, eT⟩ hx
      refine ⟨fun c => absurd (show nI 625 ≤ nI k from c) (nI_ge (by omega) (by omega)), fun _ => ?_⟩
      refine s6_wood (o := 21) (p := 14) (o2 := 42) (p2 := 28) rT rS (by omega) (by omega) (fun E5 H5 rW s5 fE5 fH5 => ⟨5, ?_⟩)
      have eW : ∀ j, (j < 45 + 9 * whoW w ∨ 49 + 9 * whoW w ≤ j) → woodW wT (mornW w) j = mornW w j := fun j hj => by
        unfold woodW
        by_cases c : j = 2 ∨ (24 ≤ j ∧ j < 40)
        · rw [if_pos c]
        · rw [if_neg c]; exact eT j (by omega) (by omega) hj
      have st : ∀ (i : Nat) (w' : wW) (H' : xA), i < 4 → R5 w' t0 t1 (xsub E5 21) (xsub H' 42) → R5 (wU w' (40 + 9 * whoW w + (5 + i)) (dg i k)) t0 t1 (xsub E5 21) (xsub (xst H' 49 (4 * whoW w + i) (nI (dg i k))) 42) := fun i w' H' hi r => by
        rw [show (49 : Nat) = 42 + 7 from rfl, xsub_xst]
        exact R5_s_leash r hf hi
      have e4 : ∀ i : Nat, (4 : Int32) * nI (whoW w) + nI i = nI (4 * whoW w + i) := fun i => by rw [show (4 : Int32) = nI 4 from rfl, pk_mul, nI_add]
      refine ⟨fun c => absurd c (by decide), fun _ => ⟨xvin (k := 0) (by decide) (by decide), by decide, by rw [show (0 : Int32) = nI 0 from rfl, e4]; exact xvin (by omega) (by omega), fun G6 e6 => ?_⟩⟩
      refine ⟨fun c => absurd c (by decide), fun _ => ⟨xvin (k := 1) (by decide) (by decide), by decide, by rw [show (0 : Int32) + 1 = nI 1 from rfl, e4]; exact xvin (by omega) (by omega), fun G7 e7 => ?_⟩⟩
      refine ⟨fun c => absurd c (by decide), fun _ => ⟨xvin (k := 2) (by decide) (by decide), by decide, by rw [show (0 : Int32) + 1 + 1 = nI 2 from rfl, e4]; exact xvin (by omega) (by omega), fun G8 e8 => ?_⟩⟩
      refine ⟨fun c => absurd c (by decide), fun _ => ⟨xvin (k := 3) (by decide) (by decide), by decide, by rw [show (0 : Int32) + 1 + 1 + 1 = nI 3 from rfl, e4]; exact xvin (by omega) (by omega), fun G9 e9 => ⟨fun _ => ?_, fun c => absurd (by decide) c⟩⟩⟩
      have d0 : nI k / (xt_places.getD (0 : Int32).toNatClampNeg 0) = nI (k / 125) := pk_div (d := 125) (by omega) (by omega) (by omega)
      have d1 : nI k / (xt_places.getD ((0 : Int32) + 1).toNatClampNeg 0) = nI (k / 25) := pk_div (d := 25) (by omega) (by omega) (by omega)
      have d2 : nI k / (xt_places.getD ((0 : Int32) + 1 + 1).toNatClampNeg 0) = nI (k / 5) := pk_div (d := 5) (by omega) (by omega) (by omega)
      have d3 : nI k / (xt_places.getD ((0 : Int32) + 1 + 1 + 1).toNatClampNeg 0) = nI (k / 1) := pk_div (d := 1) (by omega) (by omega) (by omega)
      rw [d0, r5' (by omega), show (0 : Int32) = nI 0 from rfl, e4, nI_clamp (by omega)] at e6
      rw [d1, r5' (by omega), show (0 : Int32) + 1 = nI 1 from rfl, e4, nI_clamp (by omega)] at e7
      rw [d2, r5' (by omega), show (0 : Int32) + 1 + 1 = nI 2 from rfl, e4, nI_clamp (by omega)] at e8
      rw [d3, r5' (by omega), show (0 : Int32) + 1 + 1 + 1 = nI 3 from rfl, e4, nI_clamp (by omega), Nat.div_one] at e9
      have q6 := st 0 _ H5 (by omega) rW
      rw [show dg 0 k = k / 125 % 5 from rfl, ← e6] at q6
      have q7 := st 1 _ G6 (by omega) q6
      rw [show dg 1 k = k / 25 % 5 from rfl, ← e7] at q7
      have q8 := st 2 _ G7 (by omega) q7
      rw [show dg 2 k = k / 5 % 5 from rfl, ← e8] at q8
      have q9 := st 3 _ G8 (by omega) q8
      rw [show dg 3 k = k % 5 from rfl, ← e9] at q9
      have q : R5 (lsW (mornW w) (whoW w) k) t0 t1 (xsub E5 21) (xsub G9 42) := by
        rw [← lsW_mk (w := mornW w) (w' := woodW wT (mornW w)) (f := whoW w) (r := k) eW]
        exact q9
      have kG : ∀ j, j ≠ 49 → G9 j = H5 j := fun j hj => by rw [e9, xst_ne hj, e8, xst_ne hj, e7, xst_ne hj, e6, xst_ne hj]
      have sT : ∀ a, a < 16 → G9 (42 + 8) a = smW t1 (lsW (mornW w) (whoW w) k) a := fun a ha => by
        rw [kG _ (by omega), s5 a ha, sS a ha]
        exact (smW_congr (w := mornW w) (w' := lsW (mornW w) (whoW w) k) (a := a) (show lsW (mornW w) (whoW w) k (24 + a) = mornW w (24 + a) from lsW_ne (by omega)) (show lsW (mornW w) (whoW w) k 3 = mornW w 3 from lsW_ne (by omega))).symm
      have okL : Wok (lsW (mornW w) (whoW w) k) := Wok_lsW hf okM
      have l3 : lsW (mornW w) (whoW w) k 3 = w 3 := by rw [lsW_ne (by omega), m3]
      refine s6_hours (o := 21) (o2 := 42) okL hf h1 q sT (fun E6 H6 r6 fE6 fH6 => ?_)
      have efo : (hrs t1 (whoW w) (lsW (mornW w) (whoW w) k) (lsW (mornW w) (whoW w) k 3)).2.2 = foR t1 w (whoW w) k := by
        unfold foR digW
        rw [morn_ls, l3, lsW_ne (by omega)]
      obtain ⟨_, hk6, _, _⟩ := hrs_ok (t1 := t1) okL hf (lsW (mornW w) (whoW w) k 3)
      have hs6 : side6 F E6 G H6 := side6_tr hs (side6_tr (side6_b (o := 21) (o2 := 42) (by omega) (by omega) fE5 (fun j hj => by rw [kG j (by omega)]; exact fH5 j hj)) (side6_b (by omega) (by omega) fE6 fH6))
      have kS : ∀ j, (28 ≤ j ∧ j < 42) ∨ j = 60 → H6 j = H4 j := fun j hj => by rw [fH6 j (by omega), kG j (by omega), fH5 j (by omega)]
      have kE : ∀ j, 14 ≤ j → j < 21 → E6 j = E4 j := fun j h1 h2 => by rw [fE6 j (by omega), fE5 j (by omega)]
      have rS6 : R5 (mornW w) t0 t1 (xsub E6 14) (xsub H6 28) := R5_c rS (fun k hk _ => kE (14 + k) (by omega) (by omega)) (fun k hk => kS (28 + k) (by omega))
      have sS6 : ∀ a, a < 16 → H6 (28 + 8) a = smW t1 (mornW w) a := fun a ha => by rw [kS _ (by omega)]; exact sS a ha
      have hle : foR t1 w (whoW w) k ≤ 99 := foR_le hw hf
      have b6 : H6 60 = H4 60 := kS 60 (by omega)
      have ls6 : ∀ i, i < 4 → H6 49 (4 * whoW w + i) = nI (dg i k) := fun i hi => by
        have := r6.2.2.2.2.2.2.2.2.1 (whoW w) hf i hi
        rw [show H6 49 (4 * whoW w + i) = xsub H6 42 7 (4 * whoW w + i) from rfl, this]
        congr 1
        rw [← lsW_i (w := mornW w) (f := whoW w) (r := k) hi]
        exact hk6 _ (by omega)
      have wt : ∀ (H8 : xA), (∀ j, j ≠ 60 → H8 j = H6 j) → ∃ wT : wW, R5 wT t0 t1 (xsub E6 21) (xsub H8 42) ∧ ∀ j, j ≠ 2 → (j < 24 ∨ 40 ≤ j) → (j < 45 + 9 * whoW w ∨ 49 + 9 * whoW w ≤ j) → wT j = mornW w j := fun H8 h8 => ⟨_, R5_c r6 (fun _ _ _ => rfl) (fun k hk => h8 (42 + k) (by omega)), fun j h2 hj hl => by
        rw [hrs_lo okL hf ⟨h2, hj⟩, lsW_ne hl]⟩
      rw [efo, show nI k + (1 : Int32) = nI (k + 1) from nI_1 k, b6]
      rcases hx with ⟨z, z1⟩ | ⟨u, hu, z1, z2⟩
      · subst z
        rw [z1]
        refine ⟨fun c => absurd (Int32.le_trans (nI_pos' (by omega)) c) (by decide), fun _ G10 e10 => ?_⟩
        rw [show (4 : Int32) * nI (whoW w) = nI (4 * whoW w) from by rw [show (4 : Int32) = nI 4 from rfl, pk_mul], nI_clamp (show 4 * whoW w < 2 ^ 31 by omega), cl4, cl1]
        refine ⟨nI_pos (by omega), by omega, fun G11 e11 => ih 1 E6 G11 (by omega) (side6_60 hs6 (fun j hj => by rw [e11, vu_ne hj, e10, xst_ne hj])) (R5_c rS6 (fun _ _ _ => rfl) (fun k hk => by show G11 (28 + k) = H6 (28 + k); rw [e11, vu_ne (by omega), e10, xst_ne (by omega)])) (fun a ha => by rw [e11, vu_ne (by omega), e10, xst_ne (by omega)]; exact sS6 a ha) (wt G11 (fun j hj => by rw [e11, vu_ne hj, e10, xst_ne hj])) (Or.inr ⟨0, rfl, ?_, fun i hi => ?_⟩)⟩
        · rw [e11, vu_at, pk_cpy_out (by omega), e10, xst_at, upd_at]; rfl
        · rw [e11, vu_at, pk_cpy_in (by omega) (by omega), e10, xst_ne (by omega), Nat.add_sub_cancel_left]
          exact ls6 i hi
      · subst hu
        obtain ⟨p1, p2⟩ := blS_ok (t1 := t1) hw hf u
        rw [z1]
        refine le_dec (by omega) (by omega) (fun c => ih (u + 1 + 1) E6 H6 (by omega) hs6 rS6 sS6 (wt H6 (fun _ _ => rfl)) (Or.inr ⟨u + 1, rfl, ?_, fun i hi => ?_⟩)) (fun c G10 e10 => ?_)
        · rw [b6, z1, blS_s, if_pos c]
        · rw [b6, z2 i hi, blS_s, if_pos c]
        rw [show (4 : Int32) * nI (whoW w) = nI (4 * whoW w) from by rw [show (4 : Int32) = nI 4 from rfl, pk_mul], nI_clamp (show 4 * whoW w < 2 ^ 31 by omega), cl4, cl1]
        refine ⟨nI_pos (by omega), by omega, fun G11 e11 => ih (u + 1 + 1) E6 G11 (by omega) (side6_60 hs6 (fun j hj => by rw [e11, vu_ne hj, e10, xst_ne hj])) (R5_c rS6 (fun _ _ _ => rfl) (fun k hk => by show G11 (28 + k) = H6 (28 + k); rw [e11, vu_ne (by omega), e10, xst_ne (by omega)])) (fun a ha => by rw [e11, vu_ne (by omega), e10, xst_ne (by omega)]; exact sS6 a ha) (wt G11 (fun j hj => by rw [e11, vu_ne hj, e10, xst_ne hj])) (Or.inr ⟨u + 1, rfl, ?_, fun i hi => ?_⟩)⟩
        · rw [e11, vu_at, pk_cpy_out (by omega), e10, xst_at, upd_at, blS_s, if_neg (by omega)]
        · rw [e11, vu_at, pk_cpy_in (by omega) (by omega), e10, xst_ne (by omega), Nat.add_sub_cancel_left, blS_s, if_neg (by omega)]
          exact ls6 i hi
  refine ⟨626, key 625 0 E2 G3 (by omega) hs3 (R5_c rS (fun _ _ _ => rfl) (fun k hk => by show G3 (28 + k) = H2 (28 + k); rw [e3, xst_ne (by omega)])) (fun a ha => by rw [e3, xst_ne (by omega)]; exact sS a ha) ⟨mornW w, R5_c rT (fun _ _ _ => rfl) (fun k hk => by show G3 (42 + k) = H2 (42 + k); rw [e3, xst_ne (by omega)]), fun _ _ _ _ => rfl⟩ (Or.inl ⟨rfl, b3⟩)⟩
theorem c_bestLeash : oX_bestLeash jo_I := by
  intro x1 F G F' G' hI
  obtain ⟨⟨⟨w, t0, t1, hw, hd, h0, h1, r5, r7, hz⟩, _⟩, _, _, _, _, h5⟩ := id hI
  unfold qX6_bestLeash
  rcases xrng x1 4 (by decide) with h | ⟨b, hb, rfl⟩
  · refine s6_inG_no (l := 0) (n := 4) h ?_; (first | refine pN1 ?_ | refine pN2 ?_); refine s6_error (k := 1) (by decide) ?_; unfold qX7_bestLeash; refine s7_inG_no (l := 0) (n := 4) h ?_; (first | refine pN1 ?_ | refine pN2 ?_); exact c_err (k := 1) (by decide) hI
  refine s6_inG (l := 0) (n := 4) (by omega) hb (by decide) ?_; (first | refine pY1 ?_ | refine pY2 ?_)
  refine s6_seek hw hd h1 r5 (fun E H hs b0 b1 => ⟨xvin (by omega) (by omega), ?_⟩)
  rw [nI_clamp (show b < 2 ^ 31 by omega)]
  refine s7_bestLeash hw hd h1 r7 hb (fun G3 e3 k3 => ⟨?_, jo_ahead hI hs e3 k3⟩)
  unfold blQ
  by_cases c : b = 0
  · rw [if_pos c, c]; exact b0
  · rw [if_neg c]
    obtain ⟨i, rfl⟩ : ∃ i, b = 1 + i := ⟨b - 1, by omega⟩
    rw [Nat.add_sub_cancel_left]
    exact b1 i (by omega)
