/-! the class's hours -/
def mhN (x p : Int32) : Int32 := ((if 0 ≤ ((x / (4 : Int32)) - (p / (4 : Int32))) then ((x / (4 : Int32)) - (p / (4 : Int32))) else 0 - ((x / (4 : Int32)) - (p / (4 : Int32)))) + (if 0 ≤ ((x - x / (4 : Int32) * (4 : Int32)) - (p - p / (4 : Int32) * (4 : Int32))) then ((x - x / (4 : Int32) * (4 : Int32)) - (p - p / (4 : Int32) * (4 : Int32))) else 0 - ((x - x / (4 : Int32) * (4 : Int32)) - (p - p / (4 : Int32) * (4 : Int32)))))
/-- an oak is the pig's own or lies beside it -/
def nbB (p a : Nat) : Bool := decide (a = p) || (decide (nxv p 0 = nI a) || (decide (nxv p 1 = nI a) || (decide (nxv p 2 = nI a) || decide (nxv p 3 = nI a))))
theorem mh_all : ∀ p : Fin 16, ∀ a : Fin 16, decide ((1 : Int32) < mhN (nI a.val) (nI p.val)) = !(nbB p.val a.val) := by decide +kernel
theorem mh_no {p a : Nat} (hp : p < 16) (ha : a < 16) (h : nbB p a = false) : (1 : Int32) < mhN (nI a) (nI p) := by
  have := mh_all ⟨p, hp⟩ ⟨a, ha⟩
  simp only [h] at this
  simpa using this
theorem mh_yes {p a : Nat} (hp : p < 16) (ha : a < 16) (h : nbB p a = true) : ¬ (1 : Int32) < mhN (nI a) (nI p) := by
  have := mh_all ⟨p, hp⟩ ⟨a, ha⟩
  simp only [h] at this
  simpa using this
def bbR (sm : Nat → Int32) (a b : Nat) : Prop := sm a < sm b ∨ (sm a = sm b ∧ b ≤ a)
theorem bbR_rfl {sm : Nat → Int32} {a : Nat} : bbR sm a a := Or.inr ⟨rfl, Nat.le_refl _⟩
theorem bbR_tr {sm : Nat → Int32} {a b c : Nat} (h : bbR sm a b) (h' : bbR sm b c) : bbR sm a c := by
  rcases h with h | ⟨h, q⟩ <;> rcases h' with h' | ⟨h', q'⟩
  · exact Or.inl (Int32.lt_trans h h')
  · exact Or.inl (by rw [← h']; exact h)
  · exact Or.inl (by rw [h]; exact h')
  · exact Or.inr ⟨by rw [h, h'], by omega⟩
theorem bbR_as {sm : Nat → Int32} {a b : Nat} (h : bbR sm a b) (h' : bbR sm b a) : a = b := by
  rcases h with h | ⟨h, q⟩ <;> rcases h' with h' | ⟨h', q'⟩
  · exact absurd (Int32.lt_trans h h') (Int32.lt_irrefl)
  · exact absurd h (by rw [h']; exact Int32.lt_irrefl)
  · exact absurd h' (by rw [h]; exact Int32.lt_irrefl)
  · omega
theorem bst_ge {sm : Nat → Int32} {b c : Nat} (hc : c < 2 ^ 31) : bbR sm b (bst sm b (nI c)) ∧ bbR sm c (bst sm b (nI c)) := by
  rw [bst_nI hc]
  by_cases h : sm b < sm c
  · rw [if_pos h]; exact ⟨Or.inl h, bbR_rfl⟩
  · rw [if_neg h]
    by_cases e : sm c = sm b
    · rw [if_pos e]
      by_cases l : b ≤ c
      · rw [if_pos l]; exact ⟨bbR_rfl, Or.inr ⟨e, l⟩⟩
      · rw [if_neg l]; exact ⟨Or.inr ⟨e.symm, by omega⟩, bbR_rfl⟩
    · rw [if_neg e]
      refine ⟨bbR_rfl, Or.inl ?_⟩
      rw [Int32.not_lt] at h
      exact Int32.lt_of_le_of_ne h e
theorem bst_in {sm : Nat → Int32} {b c : Nat} (hc : c < 2 ^ 31) : bst sm b (nI c) = b ∨ bst sm b (nI c) = c := by
  rw [bst_nI hc]
  split
  · exact Or.inr rfl
  · split
    · split
      · exact Or.inl rfl
      · exact Or.inr rfl
    · exact Or.inl rfl
theorem bsN_best {sm : Nat → Int32} {p : Nat} (hp : p < 16) : ∀ n, n ≤ 4 → (bsN sm p n = p ∨ ∃ j, j < n ∧ nxv p j = nI (bsN sm p n)) ∧ bbR sm p (bsN sm p n) ∧ ∀ a, a < 16 → ∀ j, j < n → nxv p j = nI a → bbR sm a (bsN sm p n)
  | 0, _ => ⟨Or.inl rfl, bbR_rfl, fun _ _ j hj => by omega⟩
  | n + 1, h => by
    obtain ⟨q1, q2, q3⟩ := bsN_best (sm := sm) hp n (by omega)
    have hs : bsN sm p (n + 1) = bst sm (bsN sm p n) (nxv p n) := rfl
    rw [hs]
    rcases nxv_cases hp (show n < 4 by omega) with e | ⟨b, hb, e⟩
    · rw [e, bst_no]
      refine ⟨q1.imp id (fun ⟨j, hj, x⟩ => ⟨j, by omega, x⟩), q2, fun a ha j hj x => ?_⟩
      by_cases c : j = n
      · subst c; rw [e] at x; exact absurd x.symm (nI_nem1 (by omega))
      · exact q3 a ha j (by omega) x
    · rw [e]
      obtain ⟨g1, g2⟩ := bst_ge (sm := sm) (b := bsN sm p n) (c := b) (by omega)
      refine ⟨?_, bbR_tr q2 g1, fun a ha j hj x => ?_⟩
      · rcases bst_in (sm := sm) (b := bsN sm p n) (c := b) (by omega) with z | z
        · rw [z]; exact q1.imp id (fun ⟨j, hj, x⟩ => ⟨j, by omega, x⟩)
        · rw [z]; exact Or.inr ⟨n, by omega, e⟩
      · by_cases c : j = n
        · subst c
          rw [e] at x
          obtain rfl : b = a := (nI_eq (by omega) (by omega)).mp x
          exact g2
        · exact bbR_tr (q3 a ha j (by omega) x) g1
theorem nbB_of {p a : Nat} (h : a = p ∨ ∃ j, j < 4 ∧ nxv p j = nI a) : nbB p a = true := by
  unfold nbB
  rcases h with h | ⟨j, hj, h⟩
  · simp [h]
  · rcases (by omega : j = 0 ∨ j = 1 ∨ j = 2 ∨ j = 3) with rfl | rfl | rfl | rfl <;> simp [h]
theorem nbB_to {p a : Nat} (h : nbB p a = true) : a = p ∨ ∃ j, j < 4 ∧ nxv p j = nI a := by
  unfold nbB at h
  simp only [Bool.or_eq_true, decide_eq_true_eq] at h
  rcases h with h | h | h | h | h
  · exact Or.inl h
  · exact Or.inr ⟨0, by omega, h⟩
  · exact Or.inr ⟨1, by omega, h⟩
  · exact Or.inr ⟨2, by omega, h⟩
  · exact Or.inr ⟨3, by omega, h⟩
theorem bsW_best {t1 : wT} {w : wW} (h : w 2 < 16) : nbB (w 2) (bsW t1 w) = true ∧ ∀ a, a < 16 → nbB (w 2) a = true → bbR (smW t1 w) a (bsW t1 w) := by
  obtain ⟨q1, q2, q3⟩ := bsN_best (sm := smW t1 w) h 4 (Nat.le_refl _)
  refine ⟨nbB_of q1, fun a ha q => ?_⟩
  rcases nbB_to q with rfl | ⟨j, hj, e⟩
  · exact q2
  · exact q3 a ha j hj e
theorem s5_bestSmell {t1 : wT} {w : wW} {F : xF} {G : xA} {Q : Int32 → xF → xA → Prop} (hp : w 2 < 16) (e1 : F 1 = nI (w 2)) (hs : ∀ a, a < 16 → G 8 a = smW t1 w a) (h : Q (nI (bsW t1 w)) F G) : qX5_bestSmell F G Q := by
  have key : ∀ (n k : Nat) (x : Int32), k + n = 16 → ((x = -1 ∧ ∀ a, a < k → nbB (w 2) a = false) ∨ (∃ b, b < k ∧ x = nI b ∧ nbB (w 2) b = true ∧ ∀ a, a < k → nbB (w 2) a = true → bbR (smW t1 w) a b)) → qX5_bestSmell_4 Q (n + 1) x (nI k) F G := by
    intro n
    induction n with
    | zero =>
      intro k x hk hx
      obtain rfl : k = 16 := by omega
      obtain ⟨z1, z2⟩ := bsW_best (t1 := t1) hp
      have hb := bsW_lt (t1 := t1) hp
      refine ⟨fun _ => ?_, fun c => absurd (nI_le (a := 16) (b := 16) (Nat.le_refl _) (by decide)) c⟩
      rcases hx with ⟨_, q⟩ | ⟨b, hb', rfl, q1, q2⟩
      · rw [q _ hb] at z1; exact absurd z1 (by decide)
      · obtain rfl : b = bsW t1 w := bbR_as (z2 b hb' q1) (q2 _ hb z1)
        exact ⟨fun _ => h, fun c => absurd (nI_pos' (by omega)) c⟩
    | succ n ih =>
      intro k x hk hx
      have hk' : k < 16 := by omega
      rw [qX5_bestSmell_4, e1, show nI k + (1 : Int32) = nI (k + 1) from nI_1 k]
      refine ⟨fun c => absurd (show nI 16 ≤ nI k from c) (nI_ge (by omega) (by omega)), fun _ => ⟨fun c => ?_, fun c => ?_⟩⟩
      · have hn : nbB (w 2) k = false := by
          rcases hz : nbB (w 2) k with _ | _
          · rfl
          · exact absurd c (mh_yes hp hk' hz)
        refine ih (k + 1) x (by omega) ?_
        rcases hx with ⟨e, q⟩ | ⟨b, hb, e, q1, q2⟩
        · refine Or.inl ⟨e, fun a ha => ?_⟩
          by_cases d : a = k
          · rw [d]; exact hn
          · exact q a (by omega)
        · refine Or.inr ⟨b, by omega, e, q1, fun a ha z => ?_⟩
          by_cases d : a = k
          · rw [d, hn] at z; exact absurd z (by decide)
          · exact q2 a (by omega) z
      · have hn : nbB (w 2) k = true := by
          rcases hz : nbB (w 2) k with _ | _
          · exact absurd (mh_no hp hk' hz) c
          · rfl
        rcases hx with ⟨rfl, q⟩ | ⟨b, hb, rfl, q1, q2⟩
        · refine ⟨fun _ => ih (k + 1) (nI k) (by omega) (Or.inr ⟨k, by omega, rfl, hn, fun a ha z => ?_⟩), fun c => absurd (by decide) c⟩
          by_cases d : a = k
          · rw [d]; exact bbR_rfl
          · rw [q a (by omega)] at z; exact absurd z (by decide)
        · refine ⟨fun c => absurd c (nI_pos (by omega)), fun _ => ⟨xvin hk' (by omega), xvin (by omega) (by omega), ?_⟩⟩
          rw [nI_clamp (show k < 2 ^ 31 by omega), nI_clamp (show b < 2 ^ 31 by omega), hs k hk', hs b (by omega)]
          refine ⟨fun c => ih (k + 1) (nI b) (by omega) (Or.inr ⟨b, by omega, rfl, q1, fun a ha z => ?_⟩), fun c => ih (k + 1) (nI k) (by omega) (Or.inr ⟨k, by omega, rfl, hn, fun a ha z => ?_⟩)⟩
          · by_cases d : a = k
            · subst d
              by_cases e : smW t1 w a = smW t1 w b
              · exact Or.inr ⟨e, by omega⟩
              · exact Or.inl (Int32.lt_of_le_of_ne c e)
            · exact q2 a (by omega) z
          · have c' : smW t1 w b < smW t1 w k := Int32.not_le.mp c
            by_cases d : a = k
            · rw [d]; exact bbR_rfl
            · exact bbR_tr (q2 a (by omega) z) (Or.inl c')
  exact ⟨17, key 16 0 (-1) (by omega) (Or.inl ⟨rfl, fun a ha => by omega⟩)⟩
theorem smW_congr {t1 : wT} {w w' : wW} {a : Nat} (h : wD w' a = wD w a) (h3 : w' 3 = w 3) : smW t1 w' a = smW t1 w a := by
  unfold smW
  rw [h, h3]
theorem s5_dig1 {w : wW} {t0 t1 : wT} {F : xF} {G : xA} {Q : Int32 → xF → xA → Prop} {K : Int32 → Int32 → Int32 → xF → xA → Prop} {p f fd h : Nat} {d : Nat → Nat} (hw : Wok w) (hp : p < 16) (hr : R5 w t0 t1 F G) (h1 : wTx t1) (hs : ∀ a, a < 16 → G 8 a = smW t1 w a) (hd : ∀ a, a < 16 → G 9 a = nI (d a)) (k : ∀ F' G', R5 (digAt w p) t0 t1 F' G' → F' 4 = F 4 → (∀ a, a < 16 → G' 8 a = smW t1 (digAt w p) a) → (∀ a, a < 16 → G' 9 a = nI (if a = p then d a + gotAt w p else d a)) → K (nI f) (nI (fd + gotAt w p)) (nI (h + 1)) F' G') : qX5_hours_63 Q K (nI f) (nI fd) (nI h) (nI p) F G := by
  intro F1 e1
  have r1 : R5 (wU w 2 p) t0 t1 F1 G := by rw [e1]; exact R5_s_place hr
  have p1 : F1 1 = nI p := by rw [e1, vu_at]
  have h1' : F1 2 = nI (w 3) := by rw [e1, vu_ne (by omega)]; exact hr.1.2.2.1
  have u1 : G 1 p = nI (wD w p) := hr.2.2.1 p hp
  have h3 := hw.2.2.1
  have hu := (hw.2.2.2.1 p hp).2
  rw [p1, h1', nI_clamp (show p < 2 ^ 31 by omega), u1, show (2 : Int32) + nI (w 3) = nI (2 + w 3) from nI_add 2 (w 3), nI_min (by omega) (by omega)]
  have eg : min (wD w p) (2 + w 3) = gotAt w p := rfl
  have hg : gotAt w p ≤ wD w p := by unfold gotAt; omega
  rw [eg, pk_sub hg]
  refine ⟨xvin hp (by omega), xvin hp (by omega), xvin hp (by omega), fun G1 e2 => ?_⟩
  have r2 : R5 (digAt w p) t0 t1 F1 G1 := by rw [e2]; exact R5_s_under r1 hp
  refine ⟨xvin hp (by omega), xvin hp (by omega), fun G2 e3 => ?_⟩
  have d2 : G1 9 p = nI (d p) := by rw [e2, xst_ne (by omega)]; exact hd p hp
  rw [d2, nI_add] at e3
  have r3 : R5 (digAt w p) t0 t1 F1 G2 := R5_fr r2 rfl (fun k hk => by rw [e3, xst_ne (by omega)])
  refine s5_smellOf r3 h1 hp (fun G3 h3' => ⟨xvin hp (by omega), fun G4 e4 => ?_⟩)
  rw [nI_add, show nI h + (1 : Int32) = nI (h + 1) from nI_1 h]
  refine k F1 G4 (R5_fr r3 rfl (fun k hk => by rw [e4, xst_ne (by omega), h3' k (by omega)])) (by rw [e1, vu_ne (by omega)]) (fun a ha => ?_) (fun a ha => ?_)
  · rw [e4, xst_at]
    by_cases c : a = p
    · subst c; rw [upd_at]
    · rw [upd_ne c, h3' 8 (by omega), e3, xst_ne (by omega), e2, xst_ne (by omega), hs a ha]
      exact (smW_congr (digAt_d c) (digAt_hi hp (by omega))).symm
  · rw [e4, xst_ne (by omega), h3' 9 (by omega), e3, xst_at]
    by_cases c : a = p
    · subst c; rw [upd_at, if_pos rfl]
    · rw [upd_ne c, if_neg c, e2, xst_ne (by omega)]; exact hd a ha
theorem s5_hours_loop {t0 t1 : wT} {z : Int32} {Q : Int32 → xF → xA → Prop} {w : wW} {f : Nat} (hw : Wok w) (hf : f < 9) (h1 : wTx t1) (h : ∀ F' G', R5 (hrs t1 f w (w 3)).1 t0 t1 F' G' → F' 4 = z → (∀ a, a < 16 → G' 9 a = nI ((hrs t1 f w (w 3)).2.1 a)) → Q (nI (hrs t1 f w (w 3)).2.2) F' G') :
    ∀ (n k : Nat) (F' : xF) (G' : xA), k + n = w 3 → R5 (hrs t1 f w k).1 t0 t1 F' G' → F' 4 = z → (∀ a, a < 16 → G' 8 a = smW t1 (hrs t1 f w k).1 a) → (∀ a, a < 16 → G' 9 a = nI ((hrs t1 f w k).2.1 a)) → qX5_hours_12 Q (n + 1) (nI f) (nI (hrs t1 f w k).2.2) (nI k) F' G' := by
  intro n
  induction n with
  | zero =>
    intro k F' G' hk r ez s d
    obtain rfl : k = w 3 := by omega
    have h3 := hw.2.2.1
    have e3 : F' 2 = nI (w 3) := by rw [r.1.2.2.1, (hrs_ok hw hf (w 3)).2.1 3 (by omega)]
    rw [qX5_hours_12, e3]
    exact ⟨fun _ => h F' G' r ez d, fun c => absurd (nI_le (Nat.le_refl _) (by omega)) c⟩
  | succ n ih =>
    intro k F' G' hk r ez s d
    have h3 := hw.2.2.1
    obtain ⟨ok, a2, _, _⟩ := hrs_ok (t1 := t1) hw hf k
    have e3 : F' 2 = nI (w 3) := by rw [r.1.2.2.1, a2 3 (by omega)]
    have e2 : F' 1 = nI ((hrs t1 f w k).1 2) := r.1.2.1
    have hb := bsW_lt (t1 := t1) ok.2.1
    have next : qX5_hours_63 Q (fun x1 x2 x3 F G => qX5_hours_12 Q (n + 1) x1 x2 x3 F G) (nI f) (nI (hrs t1 f w k).2.2) (nI k) (nI (toW t1 f k (hrs t1 f w k).1)) F' G' := s5_dig1 ok (toW_lt ok hf) r h1 s d (fun F2 G2 r2 z2 s2 d2 => ih (k + 1) F2 G2 (by omega) r2 (by rw [z2, ez]) s2 d2)
    have smell : toW t1 f k (hrs t1 f w k).1 = bsW t1 (hrs t1 f w k).1 → qX5_bestSmell F' G' (fun r60 F60 G60 => qX5_hours_63 Q (fun x1 x2 x3 F G => qX5_hours_12 Q (n + 1) x1 x2 x3 F G) (nI f) (nI (hrs t1 f w k).2.2) (nI k) r60 F60 G60) := fun e => s5_bestSmell ok.2.1 e2 s (by rw [← e]; exact next)
    rw [qX5_hours_12, e3]
    refine ⟨fun c => absurd c (nI_ge (by omega) (by omega)), fun _ => le_dec (a := 4) (b := k) (by decide) (by omega) (fun c => ?_) (fun c => ?_)⟩
    · have e : toW t1 f k (hrs t1 f w k).1 = bsW t1 (hrs t1 f w k).1 := by unfold toW; rw [if_neg (by omega)]
      exact ⟨fun _ => smell e, fun q => absurd (by decide) q⟩
    · have h4 : wF (hrs t1 f w k).1 f (5 + k) ≤ 4 := ok.2.2.2.2.2.1 f hf k c
      have el : G' 7 (4 * f + k) = nI (wF (hrs t1 f w k).1 f (5 + k)) := r.2.2.2.2.2.2.2.2.1 f hf k c
      rw [e2, show (4 : Int32) * nI f + nI k = nI (4 * f + k) from by rw [show (4 : Int32) = nI 4 from rfl, pk_mul, nI_add], nI_clamp (by omega), el]
      refine ⟨xvin (by omega) (by omega), ?_⟩
      by_cases q : wF (hrs t1 f w k).1 f (5 + k) = 4
      · have e : toW t1 f k (hrs t1 f w k).1 = bsW t1 (hrs t1 f w k).1 := by unfold toW; rw [if_pos c, if_pos q]
        rw [q]
        refine ⟨fun c => absurd c (by decide), fun _ => ⟨fun c => absurd c (by decide), fun _ => ⟨fun c => absurd c (by decide), fun _ => ⟨fun c => absurd c (by decide), fun _ => ⟨fun _ => smell e, fun q => absurd (by decide) q⟩⟩⟩⟩⟩
      · refine s5_beside ok.2.1 (by omega) ?_
        rcases nxv_cases ok.2.1 (show wF (hrs t1 f w k).1 f (5 + k) < 4 by omega) with e0 | ⟨b, hb', e0⟩
        · have e : toW t1 f k (hrs t1 f w k).1 = bsW t1 (hrs t1 f w k).1 := by unfold toW; rw [if_pos c, if_neg q, if_pos e0]
          rw [e0]
          exact ⟨fun _ => smell e, fun q => absurd (by decide) q⟩
        · have e : toW t1 f k (hrs t1 f w k).1 = b := by unfold toW; rw [if_pos c, if_neg q, e0, if_neg (nI_nem1 (by omega)), nI_clamp (by omega)]
          rw [e0]
          refine ⟨fun q => absurd q (nI_pos (by omega)), fun _ => ?_⟩
          rw [← e]
          exact next
theorem s_fill {N : Nat} {x : Int32} {F : xF} {G : xA} {Q : xF → xA → Prop} (hN : N < 2 ^ 31) (h : ∀ p, (∀ a, a < N → p a = x) → (∀ a, N ≤ a → p a = G 0 a) → Q F (va_up G 0 p)) : qJ7_fill_53178 N x F G Q := by
  have key : ∀ (n k : Nat) (p : Nat → Int32), k + n = N → (∀ a, a < k → p a = x) → (∀ a, N ≤ a → p a = G 0 a) → qJ7_fill_53178_5 N Q (n + 1) x (nI k) (Int32.ofNat N) F (va_up G 0 p) := by
    intro n
    induction n with
    | zero =>
      intro k p hk hp hq
      obtain rfl : k = N := by omega
      exact ⟨fun _ => h p hp hq, fun c => absurd (nI_le (Nat.le_refl _) (by omega)) c⟩
    | succ n ih =>
      intro k p hk hp hq
      refine ⟨fun c => absurd (show nI N ≤ nI k from c) (nI_ge (by omega) (by omega)), fun _ => ⟨xvin (by omega) (by omega), fun G1 e => ?_⟩⟩
      rw [e, nI_clamp (by omega), xst_up, show nI k + (1 : Int32) = nI (k + 1) from nI_1 k]
      refine ih (k + 1) (upd p k x) (by omega) (fun a ha => ?_) (fun a ha => by rw [upd_ne (by omega)]; exact hq a ha)
      by_cases c : a = k
      · subst c; rw [upd_at]
      · rw [upd_ne c]; exact hp a (by omega)
  have := key N 0 (G 0) (by omega) (fun a ha => by omega) (fun a _ => rfl)
  rw [xup_self] at this
  exact ⟨N + 1, this⟩
theorem s5_hours {t0 t1 : wT} {F : xF} {G : xA} {Q : Int32 → xF → xA → Prop} {w : wW} {f : Nat} (hw : Wok w) (hf : f < 9) (h1 : wTx t1) (r : R5 w t0 t1 F G) (s : ∀ a, a < 16 → G 8 a = smW t1 w a) (h : ∀ F' G', R5 (hrs t1 f w (w 3)).1 t0 t1 F' G' → F' 4 = F 4 → (∀ a, a < 16 → G' 9 a = nI ((hrs t1 f w (w 3)).2.1 a)) → Q (nI (hrs t1 f w (w 3)).2.2) F' G') : qX5_hours (nI f) F G Q := by
  refine s_fill (N := 16) (by decide) (fun p hp _ => fun H eH => ⟨w 3 + 1, ?_⟩)
  have hk : ∀ k, k ≠ 9 → H k = G k := fun k hk => by rw [eH, xspl_up _ _ _ _ _ _ (by omega)]
  refine s5_hours_loop (z := F 4) hw hf h1 h (w 3) 0 F H (by omega) (R5_fr r rfl (fun k h => hk k (by omega))) rfl (fun a ha => by rw [hk 8 (by omega)]; exact s a ha) (fun a ha => ?_)
  rw [eH]
  show p a = nI 0
  rw [hp a ha]; rfl
theorem s5_morning {t0 t1 : wT} {F : xF} {G : xA} {Q : xF → xA → Prop} {w : wW} (hw : Wok w) (h1 : wTx t1) (hr : R5 w t0 t1 F G) (h : ∀ G', R5 (mornW w) t0 t1 F G' → (∀ a, a < 16 → G' 8 a = smW t1 (mornW w) a) → Q F G') : qX5_morning F G Q := by
  have key : ∀ (n k : Nat) (G' : xA), k + n = 16 → R5 (mornK w k) t0 t1 F G' → (∀ a, a < k → G' 8 a = smW t1 (mornK w k) a) → qX5_morning_2 Q (n + 1) (nI k) F G' := by
    intro n
    induction n with
    | zero =>
      intro k G' hk r s
      obtain rfl : k = 16 := by omega
      exact ⟨fun _ => h G' r s, fun c => absurd (nI_le (a := 16) (b := 16) (Nat.le_refl _) (by decide)) c⟩
    | succ n ih =>
      intro k G' hk r s
      have hwk := Wok_mornK hw (show k ≤ 16 by omega)
      have eu : G' 1 k = nI (mornK w k (24 + k)) := r.2.2.1 k (by omega)
      have e1 : F 0 = nI (mornK w k 1) := r.1.1
      have b1 := hwk.1
      have b2 : mornK w k (24 + k) ≤ 999 := (hwk.2.2.2.1 k (by omega)).2
      refine ⟨fun c => absurd (show nI 16 ≤ nI k from c) (nI_ge (by omega) (by omega)), fun _ => ⟨xvin (by omega) (by omega), xvin (by omega) (by omega), fun G1 e => ?_⟩⟩
      rw [nI_clamp (show k < 2 ^ 31 by omega), eu, e1, nI_add, show (999 : Int32) = nI 999 from rfl, nI_min (by omega) (by omega), Nat.min_comm] at e
      have r1 : R5 (mornK w (k + 1)) t0 t1 F G1 := by rw [e, ← mornK_s]; exact R5_s_under r (by omega)
      refine s5_smellOf r1 h1 (show k < 16 by omega) (fun G2 h2 => ⟨xvin (by omega) (by omega), fun G3 e3 => ?_⟩)
      rw [show nI k + (1 : Int32) = nI (k + 1) from nI_1 k]
      rw [nI_clamp (show k < 2 ^ 31 by omega)] at e3
      refine ih (k + 1) G3 (by omega) (R5_fr r1 rfl (fun j hj => by rw [e3, xst_ne (by omega), h2 j (by omega)])) (fun a ha => ?_)
      rw [e3, xst_at]
      by_cases c : a = k
      · subst c; rw [upd_at]
      · rw [upd_ne c, h2 8 (by omega), e, xst_ne (by omega), s a (by omega)]
        refine (smW_congr ?_ ?_).symm
        · show mornK w (k + 1) (24 + a) = mornK w k (24 + a)
          unfold mornK
          by_cases d : 24 ≤ 24 + a ∧ 24 + a < 24 + k
          · rw [if_pos d, if_pos (by omega)]
          · omega
        · rw [mornK_ne (by omega) (by omega), mornK_ne (by omega) (by omega)]
  exact ⟨17, key 16 0 G (by omega) (by rw [mornK_0]; exact hr) (fun a ha => by omega)⟩
