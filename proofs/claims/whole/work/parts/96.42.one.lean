/-! texts read: one piece -/
def dgP (B : Nat → Int32) (n a : Nat) : Prop := a < n ∧ ¬ B a < 48 ∧ ¬ (57 : Int32) < B a
theorem dgP_e {B : Nat → Int32} {n a : Nat} (h : dgP B n a) : ∃ e, e ≤ 9 ∧ B a = nI (48 + e) := by
  obtain ⟨_, h1, h2⟩ := h
  rcases xrng1 (B a) 48 57 (by decide) (by decide) with q | ⟨k, q1, q2, q3⟩
  · rcases q with q | q
    · exact absurd q h1
    · exact absurd q h2
  · exact ⟨k - 48, by omega, by rw [q3]; congr 1; omega⟩
section READ1
variable {u n : Nat} {B : Nat → Int32} {F0 : xF} {G0 : xA}
theorem s0_digit {a : Nat} {T : wT} {F : xF} {G : xA} {Q : Int32 → xF → xA → Prop} (hn : n ≤ 60) (hs : cS u n B a T F G) (ha : a ≤ n) (h1 : dgP B n a → Q 1 F G) (h0 : ¬ dgP B n a → Q 0 F G) : qX0_seesDigit F G Q := by
  refine s0_more hn ha hs (fun hl => s0_at hn hs hl ⟨fun c => h0 (fun q => q.2.1 c), fun c => s0_at hn hs hl ⟨fun d => h0 (fun q => q.2.2 d), fun d => h1 ⟨hl, c, d⟩⟩⟩) (fun e => h0 (fun q => absurd q.1 (by omega)))
theorem s7_dg {a : Nat} {Q : Int32 → Prop} (h1 : dgP B n a → Q 1) (h0 : ¬ dgP B n a → Q 0) : qX7_in (lkB B n a) (48 : Int32) (57 : Int32) Q := by
  refine s7_in ?_
  unfold lkB
  by_cases c : a < n
  · rw [if_pos c]
    by_cases d : B a < 48
    · rw [if_pos d]; exact h0 (fun q => q.2.1 d)
    · rw [if_neg d]
      by_cases e : (57 : Int32) < B a
      · rw [if_pos e]; exact h0 (fun q => q.2.2 e)
      · rw [if_neg e]; exact h1 ⟨c, d, e⟩
  · rw [if_neg c, if_pos (by decide)]
    exact h0 (fun q => c q.1)
theorem dg_val {v e : Nat} : (((10 : Int32) * nI v) + nI (48 + e)) - (48 : Int32) = nI (10 * v + e) := by
  rw [show (10 : Int32) = nI 10 from rfl, show (48 : Int32) = nI 48 from rfl, pk_mul, nI_add, pk_sub (by omega)]
  congr 1
  omega
/-- a number: as many digits as stand there, 4 at most -/
theorem num_lp (hn : n ≤ 60) (b : hB n B G0) {o : Nat} {W1 W2 : xF → xA → (Int32 → xF → xA → Prop) → Prop} : ∀ (m k a v : Nat) (T : wT), k + m = 4 → v < 10 ^ k → T.length < 60 → a ≤ n → ∃ a' v', a ≤ a' ∧ a' ≤ n ∧ v' ≤ 9999 ∧ (dgP B n a → k < 4 → a < a') ∧ (∀ F G Q, cS u n B a T F G → (∀ F' G', cS u n B a' (T ++ [(0, v')]) F' G' → Q F' G') → qX0_number_4 Q (m + 1) (nI v) (nI k) F G) ∧ ∀ F G Q, rT u F0 G0 o a T F G → (∀ F' G', rT u F0 G0 o a' (T ++ [(0, v')]) F' G' → Q 1 F' G') → qX7_one_46 W1 W2 Q (m + 1) (nI v) (nI k) F G := by
  intro m
  induction m with
  | zero =>
    intro k a v T hk hv hT ha
    obtain rfl : k = 4 := by omega
    have hv : v < 10000 := hv
    refine ⟨a, v, Nat.le_refl _, ha, by omega, fun _ q => by omega, fun F G Q hs h => ⟨fun _ => s0_app hs hT rfl h, fun c => absurd (nI_le (a := 4) (b := 4) (Nat.le_refl _) (by decide)) c⟩, fun F G Q hs h => ⟨fun _ => s7_step1 (w' := 0) hs (by omega) h, fun c => absurd (nI_le (a := 4) (b := 4) (Nat.le_refl _) (by decide)) c⟩⟩
  | succ m ih =>
    intro k a v T hk hv hT ha
    have hv4 : v < 10 ^ 4 := Nat.lt_of_lt_of_le hv (Nat.pow_le_pow_right (by omega) (by omega))
    have hv4 : v < 10000 := hv4
    have k4 : ¬ (4 : Int32) ≤ nI k := nI_ge (b := k) (a := k) |> fun _ => fun c => absurd ((nI_leI (a := 4) (by decide) (by omega)).mp c) (by omega)
    by_cases d : dgP B n a
    · obtain ⟨e, he, eB⟩ := dgP_e d
      have hv2 : 10 * v + e < 10 ^ (k + 1) := by
        rw [Nat.pow_succ]; omega
      obtain ⟨a', v', p1, p2, p3, _, c1, r1⟩ := ih (k + 1) (a + 1) (10 * v + e) T (by omega) hv2 hT (by have := d.1; omega)
      refine ⟨a', v', by omega, p2, p3, fun _ _ => by omega, fun F G Q hs h => ⟨fun c => absurd c k4, fun _ => s0_digit hn hs ha (fun _ => ⟨fun q => absurd q (by decide), fun _ => s0_at hn hs d.1 (fun F1 e1 => ?_)⟩) (fun q => absurd d q)⟩, fun F G Q hs h => ⟨fun c => absurd c k4, fun _ => s7_look b hs ha (s7_dg (fun _ => ⟨fun q => absurd q (by decide), fun _ => s7_look b hs ha (fun F1 e1 => ?_)⟩) (fun q => absurd d q))⟩⟩
      · rw [eB, dg_val, nI_1]
        exact c1 F1 G Q (by rw [e1]; exact cS_at hs) h
      · rw [lk_of d.1 eB, dg_val, nI_1]
        exact r1 F1 G Q (by rw [e1]; exact rT_at hs) h
    · refine ⟨a, v, Nat.le_refl _, ha, by omega, fun q _ => absurd q d, fun F G Q hs h => ⟨fun c => absurd c k4, fun _ => s0_digit hn hs ha (fun q => absurd q d) (fun _ => ⟨fun _ => s0_app hs hT rfl h, fun q => absurd rfl q⟩)⟩, fun F G Q hs h => ⟨fun c => absurd c k4, fun _ => s7_look b hs ha (s7_dg (fun q => absurd q d) (fun _ => ⟨fun _ => s7_step1 (w' := 0) hs (by omega) h, fun q => absurd rfl q⟩))⟩⟩
/-- names -/
theorem nm_st {a c i j : Nat} {T : wT} {F : xF} {G : xA} {Q : Int32 → xF → xA → Prop} (hn : n ≤ 60) (hu : u < 2) (hs : cS u n B a T F G) (ha : a ≤ n) (hT : T.length ≤ a) (hi : i < 3) (ec : xt_names.getD (3 * u + i) 0 = nI c) (hc : c < 128) (et : tkNm u c = i) (h1 : lkB B n a = nI c → ∀ E H, cS u n B (a + 1) (T ++ [(1, c)]) E H → Q 1 E H) (h0 : ¬ lkB B n a = nI c → qX0_readsName_2 Q j (nI (i + 1)) F G) : qX0_readsName_2 Q (j + 1) (nI i) F G := by
  refine ⟨fun q => absurd (show nI 3 ≤ nI i from q) (nI_ge hi (by omega)), fun _ => ?_⟩
  rw [hs.1, nI_add, nI_clamp (show 3 * u + i < 2 ^ 31 by omega), ec, show nI i + (1 : Int32) = nI (i + 1) from nI_1 i]
  refine ⟨xvin (show 3 * u + i < 6 by omega) (by decide), s0_sees hn hs ha (by omega) (fun e => ⟨fun q => absurd q (by decide), fun _ => ?_⟩) (fun e => ⟨fun _ => h0 e, fun q => absurd rfl q⟩)⟩
  have hlt := (lk_lt (by omega) e).1
  refine s0_app (q := (1, c)) hs (by omega) ?_ (fun E H h2 F1 e1 => h1 e F1 H (by rw [e1]; exact cS_at h2))
  show (10000 : Int32) + nI i = nI (10000 + tkNm u c)
  rw [et]
  exact nI_add 10000 i
theorem s0_name {a : Nat} {T : wT} {F : xF} {G : xA} {Q : Int32 → xF → xA → Prop} (hn : n ≤ 60) (hu : u < 2) (hs : cS u n B a T F G) (ha : a ≤ n) (hT : T.length ≤ a) (h1 : ∀ c, tkName u c → lkB B n a = nI c → ∀ E H, cS u n B (a + 1) (T ++ [(1, c)]) E H → Q 1 E H) (h0 : (¬ ∃ c, tkName u c ∧ lkB B n a = nI c) → Q 0 F G) : qX0_readsName F G Q := by
  refine ⟨4, ?_⟩
  rcases (by omega : u = 0 ∨ u = 1) with rfl | rfl
  · refine nm_st (i := 0) (c := 102) hn hu hs ha hT (by omega) rfl (by omega) rfl (h1 102 (Or.inl rfl)) (fun n1 => nm_st (i := 1) (c := 104) hn hu hs ha hT (by omega) rfl (by omega) rfl (h1 104 (Or.inr (Or.inl rfl))) (fun n2 => nm_st (i := 2) (c := 109) hn hu hs ha hT (by omega) rfl (by omega) rfl (h1 109 (Or.inr (Or.inr rfl))) (fun n3 => ⟨fun _ => h0 ?_, fun q => absurd (nI_le (a := 3) (b := 3) (Nat.le_refl _) (by decide)) q⟩)))
    rintro ⟨c, hc, e⟩
    have hc' : c = 102 ∨ c = 104 ∨ c = 109 := by simpa [tkName] using hc
    rcases hc' with rfl | rfl | rfl
    · exact n1 e
    · exact n2 e
    · exact n3 e
  · refine nm_st (i := 0) (c := 117) hn hu hs ha hT (by omega) rfl (by omega) rfl (h1 117 (Or.inl rfl)) (fun n1 => nm_st (i := 1) (c := 97) hn hu hs ha hT (by omega) rfl (by omega) rfl (h1 97 (Or.inr (Or.inl rfl))) (fun n2 => nm_st (i := 2) (c := 104) hn hu hs ha hT (by omega) rfl (by omega) rfl (h1 104 (Or.inr (Or.inr rfl))) (fun n3 => ⟨fun _ => h0 ?_, fun q => absurd (nI_le (a := 3) (b := 3) (Nat.le_refl _) (by decide)) q⟩)))
    rintro ⟨c, hc, e⟩
    have hc' : c = 117 ∨ c = 97 ∨ c = 104 := by simpa [tkName] using hc
    rcases hc' with rfl | rfl | rfl
    · exact n1 e
    · exact n2 e
    · exact n3 e
theorem s7_name {o a : Nat} {x : Int32} {T : wT} {F : xF} {G : xA} {Q : Int32 → xF → xA → Prop} (hu : u < 2) (hr : rT u F0 G0 o a T F G) (h1 : ∀ c, tkName u c → x = nI c → Q 1 F G) (h0 : (¬ ∃ c, tkName u c ∧ x = nI c) → Q 0 F G) : qX7_isName x F G Q := by
  unfold qX7_isName
  rw [hr.2.2.2.1]
  rcases (by omega : u = 0 ∨ u = 1) with rfl | rfl
  · refine ⟨fun n2 => ⟨fun q => absurd rfl q, fun _ => ⟨fun e => h1 102 (Or.inl rfl) e, fun n1 => ⟨fun n3 => h0 ?_, fun e => h1 109 (Or.inr (Or.inr rfl)) e⟩⟩⟩, fun e => h1 104 (Or.inr (Or.inl rfl)) e⟩
    rintro ⟨c, hc, e⟩
    have hc' : c = 102 ∨ c = 104 ∨ c = 109 := by simpa [tkName] using hc
    rcases hc' with rfl | rfl | rfl
    · exact n1 e
    · exact n2 e
    · exact n3 e
  · refine ⟨fun n3 => ⟨fun _ => ⟨fun e => h1 117 (Or.inl rfl) e, fun n1 => ⟨fun n2 => h0 ?_, fun e => h1 97 (Or.inr (Or.inl rfl)) e⟩⟩, fun q => absurd q (by decide)⟩, fun e => h1 104 (Or.inr (Or.inr rfl)) e⟩
    rintro ⟨c, hc, e⟩
    have hc' : c = 117 ∨ c = 97 ∨ c = 104 := by simpa [tkName] using hc
    rcases hc' with rfl | rfl | rfl
    · exact n1 e
    · exact n2 e
    · exact n3 e
theorem s7_opens {o a : Nat} {T : wT} {F : xF} {G : xA} {Q : Int32 → xF → xA → Prop} (hr : rT u F0 G0 o a T F G) (ho : o ≤ 5) (h1 : o < 5 → ∀ F', rT u F0 G0 (o + 1) (a + 1) T F' G → Q 1 F' G) (h0 : o = 5 → Q 0 F G) : qX7_opens F G Q := by
  unfold qX7_opens
  rw [hr.2.1]
  refine eq_dec' (b := 5) (by omega) (by decide) (fun e => h0 e) (fun ne F1 e1 F2 e2 => h1 (by omega) F2 ?_)
  rw [e2]
  exact rT_at (by rw [e1]; exact rT_op hr (nI_1 o))
/-- names are no digits, nor ! nor ( -/
theorem nm_dg {a c : Nat} (hc : tkName u c) (e : lkB B n a = nI c) : ¬ dgP B n a ∧ ¬ lkB B n a = nI 33 ∧ ¬ lkB B n a = nI 40 := by
  have h97 : 97 ≤ c ∧ c < 128 := by
    have := tkName_lt hc
    unfold tkName at hc
    split at hc <;> omega
  refine ⟨fun d => ?_, fun q => ?_, fun q => ?_⟩
  · obtain ⟨k, hk, eB⟩ := dgP_e d
    rw [lk_of d.1 eB] at e
    have := (nI_eq (by omega) (by omega)).mp e
    omega
  · rw [e] at q
    have := (nI_eq (by omega) (by omega)).mp q
    omega
  · rw [e] at q
    have := (nI_eq (by omega) (by omega)).mp q
    omega
theorem dg_no {a c : Nat} (hc : c < 48) (e : lkB B n a = nI c) : ¬ dgP B n a := fun d => by
  obtain ⟨k, hk, eB⟩ := dgP_e d
  rw [lk_of d.1 eB] at e
  have := (nI_eq (by omega) (by omega)).mp e
  omega
theorem p_one {o : Nat} (hn : n ≤ 60) (hu : u < 2) (b : hB n B G0) (ho : o ≤ 5) {W1 W2 : Int32 → xF → xA → (Int32 → xF → xA → Prop) → Prop} {R1 R2 : xF → xA → (Int32 → xF → xA → Prop) → Prop} (sub1 : o < 5 → ∀ a T, T.length ≤ a → a ≤ n → pOk u n B F0 G0 (o + 1) a T (W1 (nI (o + 1))) R1) (sub2 : o < 5 → ∀ a T, T.length ≤ a → a ≤ n → pOk u n B F0 G0 (o + 1) a T (W2 (nI (o + 1))) R2) : ∀ a T, T.length ≤ a → a ≤ n → pOk u n B F0 G0 o a T (qX0_single W1 (qX0_enclosed W2) (nI o)) (qX7_one R1 R2) := fun a T hT ha => by
  by_cases nm : ∃ c, tkName u c ∧ lkB B n a = nI c
  · -- a name
    obtain ⟨c, hc, e⟩ := nm
    obtain ⟨nd, _, _⟩ := nm_dg hc e
    have c128 := tkName_lt hc
    obtain ⟨hlt, eB⟩ := lk_lt (by omega) e
    have uniq : ∀ c', tkName u c' → lkB B n a = nI c' → c' = c := fun c' hc' e' => by
      have := tkName_lt hc'
      rw [e] at e'
      exact ((nI_eq (by omega) (by omega)).mp e').symm
    refine Or.inl ⟨a + 1, [(1, c)], ⟨by omega, by omega, wfX_nm c, fun q hq => ?_, Nat.le_refl _⟩, fun F G Q hs h => s0_digit hn hs ha (fun d => absurd d nd) (fun _ => ⟨fun _ => s0_name hn hu hs ha hT (fun c' hc' e' E H h2 => ⟨fun q => absurd q (by decide), fun _ => h E H (by rw [← uniq c' hc' e']; exact h2)⟩) (fun q => absurd ⟨c, hc, e⟩ q), fun q => absurd rfl q⟩), fun F G Q hs h => s7_look b hs ha (s7_name hu hs (fun c' hc' e' => ⟨fun q => absurd q (by decide), fun _ F1 e1 => ?_⟩) (fun q => absurd ⟨c, hc, e⟩ q))⟩
    · rw [List.mem_singleton.mp hq]
      exact Or.inr (Or.inl ⟨rfl, hc⟩)
    · rw [e]
      exact s7_step1 (w' := 1) (by rw [e1]; exact rT_at hs) (by omega) h
  · by_cases dg : dgP B n a
    · -- a number
      obtain ⟨a', v', p1, p2, p3, p4, c1, r1⟩ := num_lp (u := u) (F0 := F0) (G0 := G0) hn b (o := o) (W1 := R1) (W2 := R2) 4 0 a 0 T rfl (by decide) (by have := dg.1; omega) ha
      have p4 := p4 dg (by omega)
      refine Or.inl ⟨a', [(0, v')], ⟨p4, p2, wfX_num v', fun q hq => ?_, by show a + 1 ≤ a'; omega⟩, fun F G Q hs h => s0_digit hn hs ha (fun _ => ⟨fun q => absurd q (by decide), fun _ => ⟨5, c1 F G _ hs (fun F' G' h' => h F' G' h')⟩⟩) (fun q => absurd dg q), fun F G Q hs h => s7_look b hs ha (s7_name hu hs (fun c hc e => absurd ⟨c, hc, e⟩ nm) (fun _ => ⟨fun _ => s7_dg (fun _ => ⟨fun q => absurd q (by decide), fun _ => ⟨5, r1 F G Q hs h⟩⟩) (fun q => absurd dg q), fun q => absurd rfl q⟩))⟩
      rw [List.mem_singleton.mp hq]
      exact Or.inl ⟨rfl, p3⟩
    · -- neither: the class's way as far as the signs, and the reference's
      have hC : ∀ F G Q, cS u n B a T F G → ((nI o < (5 : Int32) → qX0_sees (33 : Int32) F G (fun r32 F32 G32 => ((r32 = 0 → qX0_sees (40 : Int32) F32 G32 (fun r75 F75 G75 => ((r75 = 0 → Q (0 : Int32) F75 G75) ∧ (¬ r75 = 0 → qX0_enclosed W2 (nI o + (1 : Int32)) F75 G75 (fun r85 F85 G85 => ((r85 = 0 → Q (0 : Int32) F85 G85) ∧ (¬ r85 = 0 → Q (1 : Int32) F85 G85))))))) ∧ (¬ r32 = 0 → (∀ F45 : xF, F45 = va_up F32 1 ((F32 1) + (1 : Int32)) → W1 (nI o + (1 : Int32)) F45 G32 (fun r52 F52 G52 => ((¬ r52 = 0 → qX1_append 60 (20033 : Int32) (xsub F52 2) (xsub G52 0) (fun F67 G67 => (∀ E67 : xF, E67 = (xspl F52 2 1 F67) → (∀ H67 : xA, H67 = (xspl G52 0 1 G67) → Q (1 : Int32) E67 H67)))) ∧ (r52 = 0 → Q (0 : Int32) F52 G52)))))))) ∧ (¬ nI o < (5 : Int32) → Q (0 : Int32) F G)) → qX0_single W1 (qX0_enclosed W2) (nI o) F G Q := fun F G Q hs k => s0_digit hn hs ha (fun d => absurd d dg) (fun _ => ⟨fun _ => s0_name hn hu hs ha hT (fun c hc e => absurd ⟨c, hc, e⟩ nm) (fun _ => ⟨fun _ => k, fun q => absurd rfl q⟩), fun q => absurd rfl q⟩)
      have hR : ∀ F G Q, rT u F0 G0 o a T F G → ((¬ lkB B n a = (33 : Int32) → ((¬ lkB B n a = (40 : Int32) → Q (0 : Int32) F G) ∧ (lkB B n a = (40 : Int32) → qX7_opens F G (fun r149 F149 G149 => ((r149 = 0 → Q (0 : Int32) F149 G149) ∧ (¬ r149 = 0 → R2 F149 G149 (fun r156 F156 G156 => ((r156 = 0 → Q (0 : Int32) F156 G156) ∧ (¬ r156 = 0 → qX7_look F156 G156 (fun r163 F163 G163 => ((r163 = (41 : Int32) → (∀ F180 : xF, F180 = va_up F163 1 ((F163 1) + (1 : Int32)) → (∀ F190 : xF, F190 = va_up F180 2 ((F180 2) - (1 : Int32)) → Q (1 : Int32) F190 G163))) ∧ (¬ r163 = (41 : Int32) → Q (0 : Int32) F163 G163)))))))))))) ∧ (lkB B n a = (33 : Int32) → qX7_opens F G (fun r109 F109 G109 => ((r109 = 0 → Q (0 : Int32) F109 G109) ∧ (¬ r109 = 0 → R1 F109 G109 (fun r116 F116 G116 => ((¬ r116 = 0 → (∀ F131 : xF, F131 = va_up F116 2 ((F116 2) - (1 : Int32)) → qX7_step1 (2 : Int32) (0 : Int32) F131 G116 (fun F137 G137 => Q (1 : Int32) F137 G137))) ∧ (r116 = 0 → Q (0 : Int32) F116 G116)))))))) → qX7_one R1 R2 F G Q := fun F G Q hs k => s7_look b hs ha (s7_name hu hs (fun c hc e => absurd ⟨c, hc, e⟩ nm) (fun _ => ⟨fun _ => s7_dg (fun d => absurd d dg) (fun _ => ⟨fun _ => k, fun q => absurd rfl q⟩), fun q => absurd rfl q⟩))
      have o5 : ¬ o < 5 → ∀ {P N : Prop}, N → ((nI o < (5 : Int32) → P) ∧ (¬ nI o < (5 : Int32) → N)) := fun q P N x => ⟨fun c => absurd ((nI_ltI (b := 5) (by omega) (by decide)).mp c) q, fun _ => x⟩
      have o4 : o < 5 → ∀ {P N : Prop}, P → ((nI o < (5 : Int32) → P) ∧ (¬ nI o < (5 : Int32) → N)) := fun q P N x => ⟨fun _ => x, fun c => absurd (show nI o < nI 5 from nI_lt q (by decide)) c⟩
      by_cases ex : lkB B n a = nI 33
      · by_cases hl : o < 5
        · obtain ⟨hlt, eB⟩ := lk_lt (by omega) ex
          rcases sub1 hl (a + 1) T (by omega) (by omega) with ⟨a1, X1, ok1, c1, r1⟩ | ⟨a1, b1, c1, r1⟩
          · obtain ⟨p1, p2, p3, p4, p5⟩ := id ok1
            have hl2 : (T ++ X1).length < 60 := by rw [List.length_append]; omega
            refine Or.inl ⟨a1, X1 ++ [(2, 0)], ⟨by omega, p2, wfX_not p3, fun q hq => (List.mem_append.mp hq).elim (p4 q) (fun hq => by rw [List.mem_singleton.mp hq]; exact Or.inr (Or.inr (Or.inl ⟨rfl, rfl⟩))), by rw [List.length_append]; show a + (X1.length + 1) ≤ a1; omega⟩, fun F G Q hs h => hC F G Q hs (o4 hl (s0_sees (c := 33) hn hs ha (by decide) (fun _ => ⟨fun q => absurd q (by decide), fun _ F1 e1 => ?_⟩) (fun q => absurd ex q))), fun F G Q hs h => hR F G Q hs ⟨fun q => absurd ex q, fun _ => s7_opens hs ho (fun _ F1 h1 => ⟨fun q => absurd q (by decide), fun _ => r1 F1 G _ h1 (fun F2 G2 h2 => ⟨fun _ F3 e3 => s7_step1 (w' := 2) (v := 0) (o := o) (a := a1) (T := T ++ X1) (u := u) (F0 := F0) (G0 := G0) (by rw [e3]; exact rT_op h2 (by rw [h2.2.1]; exact nI_pred o)) (by omega) (fun E H h3 => h E H (by rw [← List.append_assoc]; exact h3)), fun q => absurd q (by decide)⟩)⟩) (fun q => absurd q (by omega))⟩⟩
            rw [show nI o + (1 : Int32) = nI (o + 1) from nI_1 o]
            exact c1 F1 G _ (by rw [e1]; exact cS_at hs) (fun F2 G2 h2 => ⟨fun _ => s0_app (q := (2, 0)) h2 hl2 rfl (fun E H h3 => h E H (by rw [← List.append_assoc]; exact h3)), fun q => absurd q (by decide)⟩)
          · refine Or.inr ⟨a1, b1, fun F G Q hs h => hC F G Q hs (o4 hl (s0_sees (c := 33) hn hs ha (by decide) (fun _ => ⟨fun q => absurd q (by decide), fun _ F1 e1 => ?_⟩) (fun q => absurd ex q))), fun F G Q hs h => hR F G Q hs ⟨fun q => absurd ex q, fun _ => s7_opens hs ho (fun _ F1 h1 => ⟨fun q => absurd q (by decide), fun _ => r1 F1 G _ h1 (fun F2 G2 h2 => ⟨fun q => absurd rfl q, fun _ => h F2 G2 h2⟩)⟩) (fun q => absurd q (by omega))⟩⟩
            rw [show nI o + (1 : Int32) = nI (o + 1) from nI_1 o]
            exact c1 F1 G _ (by rw [e1]; exact cS_at hs) (fun F2 G2 h2 => ⟨fun q => absurd rfl q, fun _ => h F2 G2 h2⟩)
        · exact Or.inr ⟨a, ha, fun F G Q hs h => hC F G Q hs (o5 hl (h F G hs.2.1)), fun F G Q hs h => hR F G Q hs ⟨fun q => absurd ex q, fun _ => s7_opens hs ho (fun q => absurd q hl) (fun _ => ⟨fun _ => h F G (rT_Q hs), fun q => absurd rfl q⟩)⟩⟩
      · by_cases ep : lkB B n a = nI 40
        · by_cases hl : o < 5
          · obtain ⟨hlt, eB⟩ := lk_lt (by omega) ep
            rcases sub2 hl (a + 1) T (by omega) (by omega) with ⟨a1, X1, ok1, c1, r1⟩ | ⟨a1, b1, c1, r1⟩
            · obtain ⟨p1, p2, p3, p4, p5⟩ := id ok1
              by_cases e41 : lkB B n a1 = nI 41
              · have hl1 := (lk_lt (by omega) e41).1
                refine Or.inl ⟨a1 + 1, X1, ⟨by omega, by omega, p3, p4, by omega⟩, fun F G Q hs h => hC F G Q hs (o4 hl (s0_sees (c := 33) hn hs ha (by decide) (fun q => absurd q ex) (fun _ => ⟨fun _ => s0_sees (c := 40) hn hs ha (by decide) (fun _ => ⟨fun q => absurd q (by decide), fun _ F1 e1 => by
                rw [show nI o + (1 : Int32) = nI (o + 1) from nI_1 o]
                exact c1 F1 G _ (by rw [e1]; exact cS_at hs) (fun F2 G2 h2 => ⟨fun q => absurd q (by decide), fun _ => s0_sees (c := 41) hn h2 p2 (by decide) (fun _ => ⟨fun _ F36 e36 => ⟨fun q => absurd q (by decide), fun _ => h F36 G2 (by rw [e36]; exact cS_at h2)⟩, fun q => absurd q (by decide)⟩) (fun q => absurd e41 q)⟩)⟩) (fun q => absurd ep q), fun q => absurd rfl q⟩))), fun F G Q hs h => hR F G Q hs ⟨fun _ => ⟨fun q => absurd ep q, fun _ => s7_opens hs ho (fun _ F1 h1 => ⟨fun q => absurd q (by decide), fun _ => r1 F1 G _ h1 (fun F2 G2 h2 => ⟨fun q => absurd q (by decide), fun _ => s7_look b h2 p2 ⟨fun _ F3 e3 F4 e4 => h F4 G2 (by rw [e4]; exact rT_op (by rw [e3]; exact rT_at h2) (by rw [e3, vu_ne (by omega), h2.2.1]; exact nI_pred o)), fun q => absurd e41 q⟩⟩)⟩) (fun q => absurd q (by omega))⟩, fun q => absurd q ex⟩⟩
              · refine Or.inr ⟨a1, p2, fun F G Q hs h => hC F G Q hs (o4 hl (s0_sees (c := 33) hn hs ha (by decide) (fun q => absurd q ex) (fun _ => ⟨fun _ => s0_sees (c := 40) hn hs ha (by decide) (fun _ => ⟨fun q => absurd q (by decide), fun _ F1 e1 => by
                rw [show nI o + (1 : Int32) = nI (o + 1) from nI_1 o]
                exact c1 F1 G _ (by rw [e1]; exact cS_at hs) (fun F2 G2 h2 => ⟨fun q => absurd q (by decide), fun _ => s0_sees (c := 41) hn h2 p2 (by decide) (fun q => absurd q e41) (fun _ => ⟨fun q => absurd rfl q, fun _ => ⟨fun _ => h F2 G2 h2.2.1, fun q => absurd rfl q⟩⟩)⟩)⟩) (fun q => absurd ep q), fun q => absurd rfl q⟩))), fun F G Q hs h => hR F G Q hs ⟨fun _ => ⟨fun q => absurd ep q, fun _ => s7_opens hs ho (fun _ F1 h1 => ⟨fun q => absurd q (by decide), fun _ => r1 F1 G _ h1 (fun F2 G2 h2 => ⟨fun q => absurd q (by decide), fun _ => s7_look b h2 p2 ⟨fun q => absurd q e41, fun _ => h F2 G2 (rT_Q h2)⟩⟩)⟩) (fun q => absurd q (by omega))⟩, fun q => absurd q ex⟩⟩
            · refine Or.inr ⟨a1, b1, fun F G Q hs h => hC F G Q hs (o4 hl (s0_sees (c := 33) hn hs ha (by decide) (fun q => absurd q ex) (fun _ => ⟨fun _ => s0_sees (c := 40) hn hs ha (by decide) (fun _ => ⟨fun q => absurd q (by decide), fun _ F1 e1 => by
                rw [show nI o + (1 : Int32) = nI (o + 1) from nI_1 o]
                exact c1 F1 G _ (by rw [e1]; exact cS_at hs) (fun F2 G2 h2 => ⟨fun _ => ⟨fun _ => h F2 G2 h2, fun q => absurd rfl q⟩, fun q => absurd rfl q⟩)⟩) (fun q => absurd ep q), fun q => absurd rfl q⟩))), fun F G Q hs h => hR F G Q hs ⟨fun _ => ⟨fun q => absurd ep q, fun _ => s7_opens hs ho (fun _ F1 h1 => ⟨fun q => absurd q (by decide), fun _ => r1 F1 G _ h1 (fun F2 G2 h2 => ⟨fun _ => h F2 G2 h2, fun q => absurd rfl q⟩)⟩) (fun q => absurd q (by omega))⟩, fun q => absurd q ex⟩⟩
          · exact Or.inr ⟨a, ha, fun F G Q hs h => hC F G Q hs (o5 hl (h F G hs.2.1)), fun F G Q hs h => hR F G Q hs ⟨fun _ => ⟨fun q => absurd ep q, fun _ => s7_opens hs ho (fun q => absurd q hl) (fun _ => ⟨fun _ => h F G (rT_Q hs), fun q => absurd rfl q⟩)⟩, fun q => absurd q ex⟩⟩
        · refine Or.inr ⟨a, ha, fun F G Q hs h => ?_, fun F G Q hs h => hR F G Q hs ⟨fun _ => ⟨fun _ => h F G (rT_Q hs), fun q => absurd q ep⟩, fun q => absurd q ex⟩⟩
          by_cases hl : o < 5
          · exact hC F G Q hs (o4 hl (s0_sees (c := 33) hn hs ha (by decide) (fun q => absurd q ex) (fun _ => ⟨fun _ => s0_sees (c := 40) hn hs ha (by decide) (fun q => absurd q ep) (fun _ => ⟨fun _ => h F G hs.2.1, fun q => absurd rfl q⟩), fun q => absurd rfl q⟩)))
          · exact hC F G Q hs (o5 hl (h F G hs.2.1))
theorem p_deep (hn : n ≤ 60) (hu : u < 2) (b : hB n B G0) : ∀ (k o d e : Nat), o + k = 5 → ∀ a T, T.length ≤ a → a ≤ n → pOk u n B F0 G0 o a T (qX0_single_d (d + k + 1) (nI o)) (qX7_one_d (e + k + 1)) := by
  intro k
  induction k with
  | zero =>
    intro o d e ho
    exact p_one hn hu b (by omega) (W2 := qX0_either (qX0_both (qX0_compared (qX0_added (qX0_multiplied (qX0_single_d (d + 0))))))) (fun q => absurd q (by omega)) (fun q => absurd q (by omega))
  | succ k ih =>
    intro o d e ho
    have i1 := ih (o + 1) d e (by omega)
    exact p_one hn hu b (by omega) (W1 := qX0_single_d (d + k + 1)) (W2 := qX0_either (qX0_both (qX0_compared (qX0_added (qX0_multiplied (qX0_single_d (d + k + 1))))))) (R1 := qX7_one_d (e + k + 1)) (R2 := qX7_whole (qX7_both (qX7_compared (qX7_sum (qX7_product (qX7_one_d (e + k + 1))))))) (fun _ => i1) (fun _ => p_whole hn b (p_both hn b (p_comp hn b (p_sum hn b (p_prod hn b i1)))))
theorem p_top (hn : n ≤ 60) (hu : u < 2) (b : hB n B G0) : pOk u n B F0 G0 0 0 [] (qX0_eitherT (nI 0)) qX7_wholeT :=
  p_whole hn b (p_both hn b (p_comp hn b (p_sum hn b (p_prod hn b (p_deep hn hu b 5 0 1 0 rfl))))) 0 [] (Nat.le_refl _) (Nat.zero_le _)
end READ1
/-! the call -/
def txS (u : Nat) (F : xF) : xF := va_up (va_up (va_up (va_up F 4 (nI u)) 1 0) 2 0) 3 0
theorem txS_ne {u k : Nat} {F : xF} (h : k = 0 ∨ 5 ≤ k) : txS u F k = F k := by
  unfold txS
  rw [vu_ne (by omega), vu_ne (by omega), vu_ne (by omega), vu_ne (by omega)]
theorem s7_text {u : Nat} {F : xF} {G : xA} {Q : Int32 → xF → xA → Prop} (hu : u < 2) (k : rT u (txS u F) G 0 0 [] (txS u F) G → qX7_wholeT (txS u F) G (fun r36 F36 G36 => ((r36 = 0 → qX7_text_60 Q (nI u) (0 : Int32) F36 G36) ∧ (¬ r36 = 0 → ((¬ (F36 1) = (G36 0 4) → qX7_text_60 Q (nI u) (0 : Int32) F36 G36) ∧ ((F36 1) = (G36 0 4) → qX7_text_60 Q (nI u) (1 : Int32) F36 G36)))))) : qX7_text (nI u) F G Q := by
  unfold qX7_text
  refine s7_inG (l := 0) (n := 1) (by omega) (by omega) (by decide) ?_; (first | refine pY1 ?_ | refine pY2 ?_)
  intro F1 e1 F2 e2 F3 e3 F4 e4
  have e : F4 = txS u F := by rw [e4, e3, e2, e1]; rfl
  rw [e]
  refine k ⟨?_, ?_, ?_, ?_, fun i hi => absurd hi (by simp), fun _ _ => rfl, fun _ _ => rfl⟩
  · unfold txS; rw [vu_ne (by omega), vu_ne (by omega), vu_at]; rfl
  · unfold txS; rw [vu_ne (by omega), vu_at]; rfl
  · unfold txS; rw [vu_at]; rfl
  · unfold txS; rw [vu_ne (by omega), vu_ne (by omega), vu_ne (by omega), vu_at]
/-- a text is laid into the row -/
theorem s7_laid {u : Nat} {X : wT} {a : Nat} {F F0 : xF} {G G0 : xA} {Q : Int32 → xF → xA → Prop} (hu : u < 2) (hX : X.length ≤ 60) (hr : rT u F0 G0 0 a X F G) (h : ∀ G3, (∀ k, k ≠ 0 → k ≠ 4 → G3 k = G0 k) → G3 0 4 = 0 → (∀ j, j ≠ 4 → (j < 121 + 125 * u ∨ 121 + 125 * u + 125 ≤ j) → G3 0 j = G0 0 j) → G3 0 (121 + 125 * u) = nI X.length → (∀ i, i < X.length → G3 0 (121 + 125 * u + 1 + 2 * i) = nI (X.getD i (0, 0)).1 ∧ G3 0 (121 + 125 * u + 2 + 2 * i) = nI (X.getD i (0, 0)).2) → Q 1 F G3) : qX7_text_60 Q (nI u) (1 : Int32) F G := by
  obtain ⟨h1, h2, h3, h4, h5, h6, h7⟩ := hr
  intro G1 e1
  have eb : (121 : Int32) + (125 : Int32) * nI u = nI (121 + 125 * u) := by
    rw [show (121 : Int32) = nI 121 from rfl, show (125 : Int32) = nI 125 from rfl, pk_mul, nI_add]
  rw [eb, nI_clamp (show 121 + 125 * u < 2 ^ 31 by omega), h3]
  refine ⟨fun _ => ⟨xvin (by omega) (by omega), fun G2 e2 => ⟨2 * X.length + 1, ?_⟩⟩, fun c => absurd c (by decide)⟩
  have g4 : G2 4 = G 4 := by rw [e2, xst_ne (by omega), e1, xst_ne (by omega)]
  have key : ∀ (m k : Nat) (G3 : xA), k + m = 2 * X.length → (∀ j, j ≠ 0 → G3 j = G2 j) → (∀ j, (j < 121 + 125 * u + 1 ∨ 121 + 125 * u + 125 ≤ j) → G3 0 j = G2 0 j) → (∀ i, i < k → G3 0 (121 + 125 * u + 1 + i) = G 4 i) → qX7_text_101 Q (m + 1) (nI (121 + 125 * u)) (nI k) F G3 := by
    intro m
    induction m with
    | zero =>
      intro k G3 hk a1 a2 a3
      obtain rfl : k = 2 * X.length := by omega
      rw [qX7_text_101, h3, show (2 : Int32) * nI X.length = nI (2 * X.length) from by rw [show (2 : Int32) = nI 2 from rfl, pk_mul]]
      refine ⟨fun _ => h G3 (fun k p q => by rw [a1 k p, e2, xst_ne p, e1, xst_ne p]; exact h6 k q) ?_ (fun j p q => ?_) ?_ (fun i hi => ?_), fun c => absurd (nI_le (Nat.le_refl _) (by omega)) c⟩
      · rw [a2 4 (by omega), e2, xst_at, upd_ne (by omega), e1, xst_at, upd_at]
      · rw [a2 j (by omega), e2, xst_at, upd_ne (by omega), e1, xst_at, upd_ne p, h6 0 (by omega)]
      · rw [a2 _ (by omega), e2, xst_at, upd_at]
      · have := h5 i hi
        rw [a3 (2 * i) (by omega), show 121 + 125 * u + 2 + 2 * i = 121 + 125 * u + 1 + (2 * i + 1) by omega, a3 (2 * i + 1) (by omega)]
        exact this
    | succ m ih =>
      intro k G3 hk a1 a2 a3
      rw [qX7_text_101, h3, show (2 : Int32) * nI X.length = nI (2 * X.length) from by rw [show (2 : Int32) = nI 2 from rfl, pk_mul], nI_1, nI_add, nI_1, nI_clamp (show k < 2 ^ 31 by omega), nI_clamp (show 121 + 125 * u + 1 + k < 2 ^ 31 by omega)]
      refine ⟨fun c => absurd c (nI_ge (by omega) (by omega)), fun _ => ⟨xvin (by omega) (by omega), xvin (by omega) (by omega), fun G4 e4 => ?_⟩⟩
      refine ih (k + 1) G4 (by omega) (fun j hj => by rw [e4, xst_ne hj]; exact a1 j hj) (fun j hj => by rw [e4, xst_at, upd_ne (by omega)]; exact a2 j hj) (fun i hi => ?_)
      rw [e4, xst_at]
      by_cases z : i = k
      · subst z; rw [upd_at, a1 4 (by omega), g4]
      · rw [upd_ne (by omega)]; exact a3 i (by omega)
  exact key (2 * X.length) 0 G2 (by omega) (fun _ _ => rfl) (fun _ _ => rfl) (fun i hi => by omega)
theorem tape0_tp {x : Int32} {g s : Nat → Int32} (hx : x = 0) (h : s 4 = 0) : jo_tp x g s := ⟨0, by omega, hx, h, fun i hi => by omega⟩
theorem c_text : oX_text jo_I := by
  intro x1 F G F' G' hI
  obtain ⟨⟨⟨w, t0, t1, hw, hd, h0, h1, r5, r7, hz⟩, ⟨n, hn, n1, n2, n3⟩, hWt⟩, _, _, _, _, h5⟩ := id hI
  unfold qX6_text
  rcases xrng x1 1 (by decide) with h | ⟨u, hu, rfl⟩
  · refine s6_inG_no (l := 0) (n := 1) h ?_; (first | refine pN1 ?_ | refine pN2 ?_); refine s6_error (k := 1) (by decide) ?_; unfold qX7_text; refine s7_inG_no (l := 0) (n := 1) h ?_; (first | refine pN1 ?_ | refine pN2 ?_); exact c_err (k := 1) (by decide) hI
  refine s6_inG (l := 0) (n := 1) (by omega) hu (by decide) ?_; (first | refine pY1 ?_ | refine pY2 ?_)
  have b : hB n (G 56) G' := ⟨hn, n2, fun i hi => (n3 i hi).symm⟩
  unfold qX0_read
  refine s1_takeB (N := 60) (o := 3) (p := 4) (o2 := 1) (p2 := 2) (n := n) (by decide) hn (by decide) (by decide) (show xcat 4 (xsub F 33) (xsub F 29) 4 = _ from n1) ?_
  intro F1 e1 F2 e2 F3 e3
  rw [xsub_0, xsub_0]
  have cs0 : cS u n (G 56) 0 [] F3 (va_up (xcat 2 (xsub G 63) (xsub G 56)) 1 (va_cpy (xcat 2 (xsub G 63) (xsub G 56) 2) (xcat 2 (xsub G 63) (xsub G 56) 1) 0 0 n)) := by
    refine ⟨?_, ?_, ?_, ?_, fun i hi => ?_, fun i hi => absurd hi (by simp)⟩
    · rw [e3, vu_ne (by omega), e2, vu_ne (by omega), e1, vu_at, show (3 : Int32) = nI 3 from rfl, pk_mul]
    · rw [e3, vu_ne (by omega), e2, vu_at]; rfl
    · rw [e3, vu_at]; rfl
    · rw [e3, vu_ne (by omega), e2, vu_ne (by omega), e1, vu_ne (by omega), vu_at]
    · rw [vu_at, cpy0 hi]; rfl
  have f34 : F3 4 = nI n := by
    rw [e3, vu_ne (by omega), e2, vu_ne (by omega), e1, vu_ne (by omega), vu_ne (by omega)]; exact n1
  have hu2 : u < 2 := by omega
  -- what the class holds behind its reading, whatever it answers
  have frames : ∀ (Fr : xF) (Gr : xA) (E24 : xF) (H24 : xA) (Ek : xF), E24 = xspl (xspl F 33 4 Fr) 29 1 (xsub Fr 4) → H24 = xspl (xspl G 63 2 Gr) 56 1 (xsub Gr 2) → Ek = va_up E24 29 0 → (∀ k, k ≠ 29 → (k < 33 ∨ 37 ≤ k) → Ek k = F k) ∧ (∀ k, k ≠ 56 → k ≠ 63 → k ≠ 64 → H24 k = G k) ∧ Ek 29 = 0 ∧ (∀ k, k < 4 → Ek (33 + k) = Fr k) ∧ ∀ k, k < 2 → H24 (63 + k) = Gr k := by
    intro Fr Gr E24 H24 Ek eE eH ek
    refine ⟨fun k h1 h2 => ?_, fun k h1 h2 h3 => ?_, by rw [ek, vu_at], fun k hk => ?_, fun k hk => ?_⟩
    · rw [ek, vu_ne h1, eE, xspl_out (by omega), xspl_out (by omega)]
    · rw [eH, xspl_out (by omega), xspl_out (by omega)]
    · rw [ek, vu_ne (by omega), eE, xspl_out (by omega), xspl_in hk]
    · rw [eH, xspl_out (by omega), xspl_in hk]
  -- a fault: both say where
  have fault : ∀ (a : Nat) (Ek : xF) (H24 : xA) (F2' : xF) (G2' : xA), (∀ k, k ≠ 29 → (k < 33 ∨ 37 ≤ k) → Ek k = F k) → (∀ k, k ≠ 56 → k ≠ 63 → k ≠ 64 → H24 k = G k) → Ek 29 = 0 → rQ (txS u F') G' a F2' G2' → qX7_text_60 (fun r' F2 G2 => (-10 : Int32) - nI a = r' ∧ jo_I Ek H24 F2 G2) (nI u) 0 F2' G2' := by
    intro a Ek H24 F2' G2' fE fH e29 hq
    intro G3 e3'
    refine ⟨fun c => absurd rfl c, fun _ => ⟨by rw [hq.1], ?_⟩⟩
    have s3 : ∀ j, j ≠ 4 → G3 0 j = G' 0 j := fun j hj => by rw [e3', xst_at, upd_ne hj, hq.2.1 0 (by omega)]
    refine jo_of hI ⟨fun k hk => fE k (by omega) (by omega), fun k hk => fH k (by omega) (by omega) (by omega)⟩ ⟨⟨by rw [hq.2.2 0 (by omega), txS_ne (by omega)], by rw [hq.2.2 5 (by omega), txS_ne (by omega)], by rw [hq.2.2 6 (by omega), txS_ne (by omega)]⟩, fun k hk => by rw [e3', xst_ne (by omega)]; exact hq.2.1 k (by omega)⟩ ⟨⟨w, t0, t1, hw, hd, h0, h1, R5_c r5 (fun k hk _ => fE k (by omega) (by omega)) (fun k hk => fH k (by omega) (by omega) (by omega)), ⟨fun k p q => by rw [s3 k (by omega)]; exact r7.1 k p q, tkS_at (fun k p q => s3 k (by omega)) r7.2.1, tkS_at (fun k p q => s3 k (by omega)) r7.2.2⟩, by rw [fE 4 (by omega) (by omega), s3 6 (by omega)]; exact hz⟩, tape0_tp e29 (by rw [e3', xst_at, upd_at]), ?_⟩
    rw [fE 30 (by omega) (by omega), fH 57 (by omega) (by omega) (by omega)]
    exact wt_c hWt (fun j hj => s3 j (by omega))
  rcases p_top (u := u) (F0 := txS u F') hn hu2 b with ⟨a, X, ⟨p1, p2, p3, p4, p5⟩, hC, hR⟩ | ⟨a, p2, hC, hR⟩
  · by_cases full : a = n
    · -- a whole text
      subst full
      refine hC _ _ _ cs0 (fun Fr Gr hcr E30 eE30 H30 eH30 => ?_)
      have x0 : ∀ k, k < 4 → E30 k = Fr k := fun k hk => by rw [eE30, xspl_now hk]
      have y0 : ∀ k, k < 2 → H30 k = Gr k := fun k hk => by rw [eH30, xspl_now hk]
      have z1 : E30 1 = E30 3 := by rw [x0 1 (by omega), x0 3 (by omega), hcr.2.1, hcr.2.2.2.1]
      refine ⟨fun c => absurd c (by decide), fun _ => ⟨fun c => absurd z1 c, fun _ => ⟨fun c => absurd c (by decide), fun _ => fun E24 eE H24 eH Ek ek => ⟨fun _ => ?_, fun c => absurd (by decide) c⟩⟩⟩⟩
      obtain ⟨fE, fH, e29, gE, gH⟩ := frames _ _ _ _ _ eE eH ek
      have c35 : Ek 35 = nI X.length := by
        rw [gE 2 (by omega), x0 2 (by omega), hcr.2.2.1]; rfl
      have c63 : ∀ i, i < X.length → H24 63 i = nI (tkC u (X.getD i (0, 0))) := fun i hi => by
        rw [gH 0 (by omega), y0 0 (by omega)]; exact hcr.2.2.2.2.2 i hi
      have hX : X.length ≤ 60 := by omega
      have ok : wTx X := Or.inr (by
        have := p3 [] 0
        rw [List.append_nil] at this
        rw [this]; rfl)
      have fin : ∀ (E9 : xF) (H9 : xA), (∀ k, k ≠ 5 + u → E9 k = Ek k) → (∀ k, k ≠ 11 + 2 * u → H9 k = H24 k) → E9 (5 + u) = nI X.length → (∀ i, i < X.length → H9 (11 + 2 * u) i = nI (tkC u (X.getD i (0, 0)))) → qX7_text (nI u) F' G' (fun r' F2 G2 => (1 : Int32) = r' ∧ jo_I E9 H9 F2 G2) := by
        intro E9 H9 kE kH z5 z11
        refine s7_text hu2 (fun hr1 => hR _ _ _ hr1 (fun F2 G2 h2 => ⟨fun c => absurd c (by decide), fun _ => ⟨fun c => absurd (by rw [h2.1, h2.2.2.2.2.2.1 0 (by omega), n2]) c, fun _ => s7_laid hu2 hX h2 (fun G3 k3 z4 s3 l0 l1 => ⟨rfl, ?_⟩)⟩⟩))
        have cd : tkCd u (E9 (5 + u)) (H9 (11 + 2 * u)) X := ⟨z5, hX, p4, z11⟩
        have sd : tkS u (G3 0) (121 + 125 * u) X := ⟨l0, hX, p4, l1⟩
        have sp : ∀ j, j ≠ 4 → j < 121 ∨ 371 ≤ j → G3 0 j = G' 0 j := fun j p q => s3 j p (by omega)
        refine jo_of hI ⟨fun k hk => by rw [kE k (by omega)]; exact fE k (by omega) (by omega), fun k hk => by rw [kH k (by omega)]; exact fH k (by omega) (by omega) (by omega)⟩ ⟨⟨by rw [h2.2.2.2.2.2.2 0 (by omega), txS_ne (by omega)], by rw [h2.2.2.2.2.2.2 5 (by omega), txS_ne (by omega)], by rw [h2.2.2.2.2.2.2 6 (by omega), txS_ne (by omega)]⟩, fun k hk => k3 k (by omega) (by omega)⟩ ⟨?_, tape0_tp (by rw [kE 29 (by omega)]; exact e29) z4, ?_⟩
        · have q4 : E9 4 = G3 0 6 := by rw [kE 4 (by omega), fE 4 (by omega) (by omega), sp 6 (by omega) (by omega)]; exact hz
          rcases (by omega : u = 0 ∨ u = 1) with rfl | rfl
          · exact ⟨w, X, t1, hw, hd, ok, h1, R5_t0 r5 (fun k hk _ => by rw [kE k (by omega)]; exact fE k (by omega) (by omega)) (fun k hk => by rw [kH k (by omega)]; exact fH k (by omega) (by omega) (by omega)) cd, ⟨fun k p q => by rw [sp k (by omega) (by omega)]; exact r7.1 k p q, sd, tkS_at (fun k p q => s3 k (by omega) (by omega)) r7.2.2⟩, q4⟩
          · exact ⟨w, t0, X, hw, hd, h0, ok, R5_t1 r5 (fun k hk _ => by rw [kE k (by omega)]; exact fE k (by omega) (by omega)) (fun k hk => by rw [kH k (by omega)]; exact fH k (by omega) (by omega) (by omega)) cd, ⟨fun k p q => by rw [sp k (by omega) (by omega)]; exact r7.1 k p q, tkS_at (fun k p q => s3 k (by omega) (by omega)) r7.2.1, sd⟩, q4⟩
        · rw [kE 30 (by omega), fE 30 (by omega) (by omega), kH 57 (by omega), fH 57 (by omega) (by omega) (by omega)]
          exact wt_c hWt (fun j hj => sp j (by omega) (by omega))
      rw [xsub_0, xsub_0]
      rcases (by omega : u = 0 ∨ u = 1) with rfl | rfl
      · refine ⟨fun c => absurd rfl c, fun _ E50 eE50 H50 eH50 => ⟨Or.inl rfl, fun _ => ?_, fun c => absurd c (by decide)⟩⟩
        rw [show xspl Ek 0 7 Ek = Ek from by have := xspl_sub Ek 0 7; rw [xsub_0] at this; exact this] at eE50
        rw [show xspl H24 0 14 H24 = H24 from by have := xspl_sub H24 0 14; rw [xsub_0] at this; exact this] at eH50
        subst eE50 eH50
        refine s1_takeB (N := 60) (o := 5) (p := 35) (o2 := 11) (p2 := 63) (n := X.length) (by decide) hX (by decide) (by decide) c35 ?_
        exact fin _ _ (fun k hk => vu_ne (by omega)) (fun k hk => vu_ne (by omega)) (vu_at _ _ _) (fun i hi => by refine (congrFun (vu_at _ _ _) i).trans ?_; rw [cpy0 hi]; exact c63 i hi)
      · refine ⟨fun _ E50 eE50 H50 eH50 => ⟨Or.inr rfl, fun c => absurd c (by decide), fun _ => ?_⟩, fun c => absurd c (by decide)⟩
        rw [show xspl Ek 0 7 Ek = Ek from by have := xspl_sub Ek 0 7; rw [xsub_0] at this; exact this] at eE50
        rw [show xspl H24 0 14 H24 = H24 from by have := xspl_sub H24 0 14; rw [xsub_0] at this; exact this] at eH50
        subst eE50 eH50
        refine s1_takeB (N := 60) (o := 6) (p := 35) (o2 := 13) (p2 := 63) (n := X.length) (by decide) hX (by decide) (by decide) c35 ?_
        exact fin _ _ (fun k hk => vu_ne (by omega)) (fun k hk => vu_ne (by omega)) (vu_at _ _ _) (fun i hi => by refine (congrFun (vu_at _ _ _) i).trans ?_; rw [cpy0 hi]; exact c63 i hi)
    · -- more stands behind it
      refine hC _ _ _ cs0 (fun Fr Gr hcr E30 eE30 H30 eH30 => ?_)
      have x0 : ∀ k, k < 4 → E30 k = Fr k := fun k hk => by rw [eE30, xspl_now hk]
      have z1 : E30 1 = nI a := by rw [x0 1 (by omega), hcr.2.1]
      have z3 : ¬ E30 1 = E30 3 := fun c => by
        rw [z1, x0 3 (by omega), hcr.2.2.2.1] at c
        exact full ((nI_eq (by omega) (by omega)).mp c)
      rw [z1] at z3 ⊢
      refine ⟨fun c => absurd c (by decide), fun _ => ⟨fun _ => ⟨fun _ => fun E24 eE H24 eH Ek ek => ?_, fun c => absurd rfl c⟩, fun c => absurd c z3⟩⟩
      obtain ⟨fE, fH, e29, gE, gH⟩ := frames _ _ _ _ _ eE eH ek
      refine ⟨fun c => absurd c (nI_pos (by omega)), fun _ => s7_text hu2 (fun hr1 => hR _ _ _ hr1 (fun F2 G2 h2 => ⟨fun c => absurd c (by decide), fun _ => ⟨fun _ => fault a Ek H24 F2 G2 fE fH e29 (rT_Q h2), fun c => ?_⟩⟩))⟩
      rw [h2.1, h2.2.2.2.2.2.1 0 (by omega), n2] at c
      exact absurd ((nI_eq (by omega) (by omega)).mp c) full
  · -- it doesn't stand
    refine hC _ _ _ cs0 (fun Fr Gr hcr E30 eE30 H30 eH30 => ?_)
    have z1 : E30 1 = nI a := by rw [eE30, xspl_now (by omega)]; exact hcr
    rw [z1]
    refine ⟨fun _ => ⟨fun _ => fun E24 eE H24 eH Ek ek => ?_, fun c => absurd rfl c⟩, fun c => absurd rfl c⟩
    obtain ⟨fE, fH, e29, gE, gH⟩ := frames _ _ _ _ _ eE eH ek
    exact ⟨fun c => absurd c (nI_pos (by omega)), fun _ => s7_text hu2 (fun hr1 => hR _ _ _ hr1 (fun F2 G2 h2 => ⟨fun _ => fault a Ek H24 F2 G2 fE fH e29 h2, fun c => absurd rfl c⟩))⟩
