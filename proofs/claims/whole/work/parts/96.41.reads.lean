/-! texts read: both readers, one behind the other -/
def lkB (B : Nat → Int32) (n a : Nat) : Int32 := if a < n then B a else -1
def cS (u n : Nat) (B : Nat → Int32) (a : Nat) (T : wT) (F : xF) (G : xA) : Prop := F 0 = nI (3 * u) ∧ F 1 = nI a ∧ F 2 = nI T.length ∧ F 3 = nI n ∧ (∀ i, i < n → G 1 i = B i) ∧ ∀ i, i < T.length → G 0 i = nI (tkC u (T.getD i (0, 0)))
def rT (u : Nat) (F0 : xF) (G0 : xA) (o a : Nat) (T : wT) (F : xF) (G : xA) : Prop := F 1 = nI a ∧ F 2 = nI o ∧ F 3 = nI T.length ∧ F 4 = nI u ∧ (∀ i, i < T.length → G 4 (2 * i) = nI (T.getD i (0, 0)).1 ∧ G 4 (2 * i + 1) = nI (T.getD i (0, 0)).2) ∧ (∀ k, k ≠ 4 → G k = G0 k) ∧ ∀ k, (k = 0 ∨ 5 ≤ k) → F k = F0 k
def rQ (F0 : xF) (G0 : xA) (a : Nat) (F : xF) (G : xA) : Prop := F 1 = nI a ∧ (∀ k, k ≠ 4 → G k = G0 k) ∧ ∀ k, (k = 0 ∨ 5 ≤ k) → F k = F0 k
def hB (n : Nat) (B : Nat → Int32) (G0 : xA) : Prop := n ≤ 60 ∧ G0 0 4 = nI n ∧ ∀ i, i < n → G0 0 (371 + i) = B i
def wfX (X : wT) : Prop := ∀ rest d, tkOk (X ++ rest) d = tkOk rest (d + 1)
def wlX (X : wT) : Prop := ∀ rest d, tkOk (X ++ rest) (d + 1) = tkOk rest (d + 1)
theorem wfX_num (v : Nat) : wfX [(0, v)] := fun rest d => by
  show (if 0 ≤ 1 then tkOk rest (d + 1) else _) = _
  rw [if_pos (by omega)]
theorem wfX_nm (v : Nat) : wfX [(1, v)] := fun rest d => by
  show (if 1 ≤ 1 then tkOk rest (d + 1) else _) = _
  rw [if_pos (by omega)]
theorem wfX_not {X : wT} (h : wfX X) : wfX (X ++ [(2, 0)]) := fun rest d => by
  rw [List.append_assoc, h]
  simp [tkOk]
theorem tkOk_sg {c d : Nat} {rest : wT} : tkOk ((3, c) :: rest) (d + 2) = tkOk rest (d + 1) := by
  simp [tkOk]
theorem wfX_l {X Y : wT} (h : wfX X) (h' : wlX Y) : wfX (X ++ Y) := fun rest d => by
  rw [List.append_assoc, h, h']
theorem wlX_nil : wlX [] := fun _ _ => rfl
theorem wlX_s {X Y : wT} {c : Nat} (h : wfX X) (h' : wlX Y) : wlX (X ++ [(3, c)] ++ Y) := fun rest d => by
  rw [List.append_assoc, List.append_assoc, h]
  show tkOk ((3, c) :: (Y ++ rest)) (d + 2) = _
  rw [tkOk_sg, h']
theorem tk_push {T : wT} {q : Nat × Nat} : (T ++ [q]).length = T.length + 1 := by
  rw [List.length_append]; rfl
theorem tk_pushl {T : wT} {q : Nat × Nat} {i : Nat} (h : i < T.length) : (T ++ [q]).getD i (0, 0) = T.getD i (0, 0) := by
  simp [List.getD, List.getElem?_append_left h]
theorem tk_pushe {T : wT} {q : Nat × Nat} : (T ++ [q]).getD T.length (0, 0) = q := by
  simp [List.getD]
section READS
variable {u n : Nat} {B : Nat → Int32} {F0 : xF} {G0 : xA}
theorem cS_push {a : Nat} {T : wT} {q : Nat × Nat} {F : xF} {G : xA} (h : cS u n B a T F G) : cS u n B a (T ++ [q]) (va_up F 2 (nI (T.length + 1))) (xst G 0 T.length (nI (tkC u q))) := by
  obtain ⟨h0, h1, h2, h3, h4, h5⟩ := h
  refine ⟨by rw [vu_ne (by omega)]; exact h0, by rw [vu_ne (by omega)]; exact h1, by rw [vu_at, tk_push], by rw [vu_ne (by omega)]; exact h3, fun i hi => by rw [xst_ne (by omega)]; exact h4 i hi, fun i hi => ?_⟩
  rw [tk_push] at hi
  rw [xst_at]
  by_cases c : i = T.length
  · subst c; rw [upd_at, tk_pushe]
  · rw [upd_ne c, tk_pushl (by omega)]; exact h5 i (by omega)
theorem cS_at {a : Nat} {T : wT} {F : xF} {G : xA} (h : cS u n B a T F G) : cS u n B (a + 1) T (va_up F 1 ((F 1) + (1 : Int32))) G := by
  obtain ⟨h0, h1, h2, h3, h4, h5⟩ := h
  exact ⟨by rw [vu_ne (by omega)]; exact h0, by rw [vu_at, h1, nI_1], by rw [vu_ne (by omega)]; exact h2, by rw [vu_ne (by omega)]; exact h3, h4, h5⟩
theorem rT_at {o a : Nat} {T : wT} {F : xF} {G : xA} (h : rT u F0 G0 o a T F G) : rT u F0 G0 o (a + 1) T (va_up F 1 ((F 1) + (1 : Int32))) G := by
  obtain ⟨h1, h2, h3, h4, h5, h6, h7⟩ := h
  exact ⟨by rw [vu_at, h1, nI_1], by rw [vu_ne (by omega)]; exact h2, by rw [vu_ne (by omega)]; exact h3, by rw [vu_ne (by omega)]; exact h4, h5, h6, fun k hk => by rw [vu_ne (by omega)]; exact h7 k hk⟩
theorem rT_op {o o' a : Nat} {T : wT} {F : xF} {G : xA} {x : Int32} (h : rT u F0 G0 o a T F G) (e : x = nI o') : rT u F0 G0 o' a T (va_up F 2 x) G := by
  obtain ⟨h1, h2, h3, h4, h5, h6, h7⟩ := h
  exact ⟨by rw [vu_ne (by omega)]; exact h1, by rw [vu_at]; exact e, by rw [vu_ne (by omega)]; exact h3, by rw [vu_ne (by omega)]; exact h4, h5, h6, fun k hk => by rw [vu_ne (by omega)]; exact h7 k hk⟩
theorem rT_Q {o a : Nat} {T : wT} {F : xF} {G : xA} (h : rT u F0 G0 o a T F G) : rQ F0 G0 a F G := ⟨h.1, h.2.2.2.2.2.1, h.2.2.2.2.2.2⟩
theorem s7_look {o a : Nat} {T : wT} {F : xF} {G : xA} {Q : Int32 → xF → xA → Prop} (b : hB n B G0) (hr : rT u F0 G0 o a T F G) (ha : a ≤ n) (h : Q (lkB B n a) F G) : qX7_look F G Q := by
  obtain ⟨hn, b4, bb⟩ := b
  unfold qX7_look
  unfold lkB at h
  rw [hr.2.2.2.2.2.1 0 (by omega), b4, hr.1, show (371 : Int32) + nI a = nI (371 + a) from nI_add 371 a, nI_clamp (show 371 + a < 2 ^ 31 by omega)]
  refine le_dec (by omega) (by omega) (fun c => ?_) (fun c => ⟨xvin (by omega) (by omega), ?_⟩)
  · rw [if_neg (by omega)] at h; exact h
  · rw [if_pos c] at h; rw [bb a c]; exact h
theorem s7_step1 {o a v : Nat} {w' : Nat} {T : wT} {F : xF} {G : xA} {Q : xF → xA → Prop} (hr : rT u F0 G0 o a T F G) (hT : T.length < 62) (h : ∀ F' G', rT u F0 G0 o a (T ++ [(w', v)]) F' G' → Q F' G') : qX7_step1 (nI w') (nI v) F G Q := by
  obtain ⟨h1, h2, h3, h4, h5, h6, h7⟩ := hr
  unfold qX7_step1
  rw [h3, show (2 : Int32) * nI T.length = nI (2 * T.length) from by rw [show (2 : Int32) = nI 2 from rfl, pk_mul], nI_1, nI_1, nI_clamp (show 2 * T.length < 2 ^ 31 by omega), nI_clamp (show 2 * T.length + 1 < 2 ^ 31 by omega)]
  refine ⟨xvin (by omega) (by omega), fun G1 e1 => ⟨xvin (by omega) (by omega), fun G2 e2 F1 f1 => h F1 G2 ⟨?_, ?_, ?_, ?_, fun i hi => ?_, fun k hk => ?_, fun k hk => ?_⟩⟩⟩
  · rw [f1, vu_ne (by omega)]; exact h1
  · rw [f1, vu_ne (by omega)]; exact h2
  · rw [f1, vu_at, tk_push]
  · rw [f1, vu_ne (by omega)]; exact h4
  · rw [tk_push] at hi
    rw [e2, xst_at, e1, xst_at]
    by_cases c : i = T.length
    · subst c
      rw [upd_ne (by omega), upd_at, upd_at, tk_pushe]; exact ⟨rfl, rfl⟩
    · rw [upd_ne (by omega), upd_ne (by omega), upd_ne (by omega), upd_ne (by omega), tk_pushl (by omega)]
      exact h5 i (by omega)
  · rw [e2, xst_ne hk, e1, xst_ne hk]; exact h6 k hk
  · rw [f1, vu_ne (by omega)]; exact h7 k hk
theorem s0_at {a : Nat} {T : wT} {F : xF} {G : xA} {K : Int32 → xF → xA → Prop} (hn : n ≤ 60) (hs : cS u n B a T F G) (ha : a < n) (h : K (B a) F G) : qX1_at 60 (F 1) (xsub F 3) (xsub G 1) (fun r F1 G1 => (∀ E : xF, E = (xspl F 3 1 F1) → (∀ H : xA, H = (xspl G 1 1 G1) → K r E H))) := by
  rw [hs.2.1]
  refine s1_at (N := 60) (len := n) ha hn (by decide) (show F (3 + 0) = _ from hs.2.2.2.1) (fun E eE H eH => ?_)
  rw [eE, eH, xspl_sub, xspl_sub, show xsub G 1 0 a = B a from hs.2.2.2.2.1 a ha]
  exact h
theorem s0_sees {a c : Nat} {T : wT} {F : xF} {G : xA} {Q : Int32 → xF → xA → Prop} (hn : n ≤ 60) (hs : cS u n B a T F G) (ha : a ≤ n) (hc : c < 2 ^ 31) (h1 : lkB B n a = nI c → Q 1 F G) (h0 : ¬ lkB B n a = nI c → Q 0 F G) : qX0_sees (nI c) F G Q := by
  unfold qX0_sees
  have e3 : F 3 = nI n := hs.2.2.2.1
  have e1 : F 1 = nI a := hs.2.1
  have z : ((F 3) ≤ (F 1) → Q (0 : Int32) F G) := fun q => by
    rw [e3, e1] at q
    have : n ≤ a := (nI_leI (by omega) (by omega)).mp q
    refine h0 (fun x => ?_)
    unfold lkB at x
    rw [if_neg (by omega)] at x
    exact absurd x.symm (nI_nem1 hc)
  refine ⟨z, fun q => ?_⟩
  have hlt : a < n := by
    by_cases y : a < n
    · exact y
    · exact absurd (by rw [e3, e1]; exact nI_le (by omega) (by omega)) q
  unfold lkB at h1 h0
  rw [if_pos hlt] at h1 h0
  exact s0_at hn hs hlt ⟨fun y => h0 y, fun y => h1 y⟩
theorem s0_app {a : Nat} {q : Nat × Nat} {x : Int32} {T : wT} {F : xF} {G : xA} {K : xF → xA → Prop} (hs : cS u n B a T F G) (hT : T.length < 60) (ex : x = nI (tkC u q)) (h : ∀ E H, cS u n B a (T ++ [q]) E H → K E H) : qX1_append 60 x (xsub F 2) (xsub G 0) (fun F1 G1 => (∀ E : xF, E = (xspl F 2 1 F1) → (∀ H : xA, H = (xspl G 0 1 G1) → K E H))) := s1_appendB (N := 60) (by decide) hT hs.2.2.1 (by rw [ex]; exact h _ _ (cS_push hs))
/-- both sides of a piece of a text: from a on both go to a', with tokens X more; or both fail at a' -/
def okX (u n a a' : Nat) (X : wT) : Prop := a < a' ∧ a' ≤ n ∧ wfX X ∧ (∀ q ∈ X, tkV u q) ∧ a + X.length ≤ a'
def lkX (u n a a' : Nat) (X : wT) : Prop := a ≤ a' ∧ a' ≤ n ∧ wlX X ∧ (∀ q ∈ X, tkV u q) ∧ a + X.length ≤ a'
def pOk (u n : Nat) (B : Nat → Int32) (F0 : xF) (G0 : xA) (o a : Nat) (T : wT) (C R : xF → xA → (Int32 → xF → xA → Prop) → Prop) : Prop :=
  (∃ a' X, okX u n a a' X ∧ (∀ F G Q, cS u n B a T F G → (∀ F' G', cS u n B a' (T ++ X) F' G' → Q 1 F' G') → C F G Q) ∧ ∀ F G Q, rT u F0 G0 o a T F G → (∀ F' G', rT u F0 G0 o a' (T ++ X) F' G' → Q 1 F' G') → R F G Q)
  ∨ ∃ a', a' ≤ n ∧ (∀ F G Q, cS u n B a T F G → (∀ F' G', F' 1 = nI a' → Q 0 F' G') → C F G Q) ∧ ∀ F G Q, rT u F0 G0 o a T F G → (∀ F' G', rQ F0 G0 a' F' G' → Q 0 F' G') → R F G Q
def pLp (u n : Nat) (B : Nat → Int32) (F0 : xF) (G0 : xA) (o a : Nat) (T : wT) (C R : (Int32 → xF → xA → Prop) → Nat → xF → xA → Prop) : Prop :=
  (∃ a' X jC jR, lkX u n a a' X ∧ (∀ F G Q, cS u n B a T F G → (∀ F' G', cS u n B a' (T ++ X) F' G' → Q 1 F' G') → C Q jC F G) ∧ ∀ F G Q, rT u F0 G0 o a T F G → (∀ F' G', rT u F0 G0 o a' (T ++ X) F' G' → Q 1 F' G') → R Q jR F G)
  ∨ ∃ a' jC jR, a' ≤ n ∧ (∀ F G Q, cS u n B a T F G → (∀ F' G', F' 1 = nI a' → Q 0 F' G') → C Q jC F G) ∧ ∀ F G Q, rT u F0 G0 o a T F G → (∀ F' G', rQ F0 G0 a' F' G' → Q 0 F' G') → R Q jR F G
theorem lkX_s {a a1 a2 c : Nat} {X1 X2 : wT} (h1 : okX u n (a + 1) a1 X1) (h2 : lkX u n a1 a2 X2) (hc : tkSign c) : lkX u n a a2 (X1 ++ [(3, c)] ++ X2) := by
  obtain ⟨p1, p2, p3, p4, p5⟩ := h1
  obtain ⟨q1, q2, q3, q4, q5⟩ := h2
  refine ⟨by omega, q2, wlX_s p3 q3, fun q hq => ?_, ?_⟩
  · rcases List.mem_append.mp hq with hq | hq
    · rcases List.mem_append.mp hq with hq | hq
      · exact p4 q hq
      · rw [List.mem_singleton.mp hq]
        exact Or.inr (Or.inr (Or.inr ⟨rfl, hc⟩))
    · exact q4 q hq
  · rw [List.length_append, List.length_append]
    show a + (X1.length + 1 + X2.length) ≤ a2
    omega
/-- a loop: as long as a sign of S lies there, it and one piece more -/
theorem lp_all {o : Nat} (hn : n ≤ 60) {C R : xF → xA → (Int32 → xF → xA → Prop) → Prop} {LC LR : (Int32 → xF → xA → Prop) → Nat → xF → xA → Prop} {S : Nat → Prop} (hS : ∀ c, S c → tkSign c) (sub : ∀ a T, T.length ≤ a → a ≤ n → pOk u n B F0 G0 o a T C R)
    (cstop : ∀ a T F G Q j, a ≤ n → (¬ ∃ c, S c ∧ lkB B n a = nI c) → cS u n B a T F G → Q 1 F G → LC Q (j + 1) F G)
    (cgo : ∀ a c T F G Q j, a < n → S c → B a = nI c → cS u n B a T F G → (∀ F1, cS u n B (a + 1) T F1 G → C F1 G (fun r F' G' => ((¬ r = 0 → qX1_append 60 (nI (20000 + c)) (xsub F' 2) (xsub G' 0) (fun F92 G92 => (∀ E92 : xF, E92 = (xspl F' 2 1 F92) → (∀ H92 : xA, H92 = (xspl G' 0 1 G92) → LC Q j E92 H92)))) ∧ (r = 0 → Q 0 F' G')))) → LC Q (j + 1) F G)
    (rstop : ∀ a T F G Q j, a ≤ n → (¬ ∃ c, S c ∧ lkB B n a = nI c) → rT u F0 G0 o a T F G → Q 1 F G → LR Q (j + 1) F G)
    (rgo : ∀ a c T F G Q j, a < n → S c → B a = nI c → rT u F0 G0 o a T F G → (∀ F1, rT u F0 G0 o (a + 1) T F1 G → R F1 G (fun r F' G' => ((¬ r = 0 → qX7_step1 (3 : Int32) (nI c) F' G' (fun F63 G63 => LR Q j F63 G63)) ∧ (r = 0 → Q 0 F' G')))) → LR Q (j + 1) F G) :
    ∀ (m a : Nat) (T : wT), n - a ≤ m → T.length ≤ a → a ≤ n → pLp u n B F0 G0 o a T LC LR := by
  intro m
  induction m with
  | zero =>
    intro a T hm hT ha
    have st : ¬ ∃ c, S c ∧ lkB B n a = nI c := fun ⟨c, hc, e⟩ => by
      unfold lkB at e
      rw [if_neg (by omega)] at e
      have := hS c hc
      unfold tkSign at this
      exact absurd e.symm (nI_nem1 (by omega))
    refine Or.inl ⟨a, [], 1, 1, ⟨Nat.le_refl _, ha, wlX_nil, (fun q hq => by cases hq), Nat.le_refl _⟩, fun F G Q hs h => cstop a T F G Q 0 ha st hs (h F G (by rw [List.append_nil]; exact hs)), fun F G Q hs h => rstop a T F G Q 0 ha st hs (h F G (by rw [List.append_nil]; exact hs))⟩
  | succ m ih =>
    intro a T hm hT ha
    by_cases st : ∃ c, S c ∧ lkB B n a = nI c
    · obtain ⟨c, hc, e⟩ := st
      have hcs := hS c hc
      have c31 : c < 2 ^ 31 := by unfold tkSign at hcs; omega
      have hlt : a < n := by
        by_cases y : a < n
        · exact y
        · unfold lkB at e
          rw [if_neg y] at e
          exact absurd e.symm (nI_nem1 c31)
      have eB : B a = nI c := by unfold lkB at e; rw [if_pos hlt] at e; exact e
      have c3 : tkC u (3, c) = 20000 + c := rfl
      rcases sub (a + 1) T (by omega) (by omega) with ⟨a1, X1, ok1, hC, hR⟩ | ⟨a1, b1, hC, hR⟩
      · obtain ⟨p1, p2, p3, p4, p5⟩ := id ok1
        have hl : (T ++ X1 ++ [(3, c)]).length ≤ a1 := by
          rw [List.length_append, List.length_append]
          show T.length + X1.length + 1 ≤ a1
          omega
        have hl2 : (T ++ X1).length < 60 := by
          rw [List.length_append]; omega
        have as : ∀ X2 : wT, T ++ (X1 ++ [(3, c)] ++ X2) = T ++ X1 ++ [(3, c)] ++ X2 := fun X2 => by
          simp only [List.append_assoc]
        rcases ih a1 (T ++ X1 ++ [(3, c)]) (by omega) hl p2 with ⟨a2, X2, jC, jR, ok2, hC2, hR2⟩ | ⟨a2, jC, jR, b2, hC2, hR2⟩
        · refine Or.inl ⟨a2, X1 ++ [(3, c)] ++ X2, jC + 1, jR + 1, lkX_s ok1 ok2 hcs, fun F G Q hs h => ?_, fun F G Q hs h => ?_⟩
          · refine cgo a c T F G Q jC hlt hc eB hs (fun F1 h1 => hC F1 G _ h1 (fun F2 G2 h2 => ⟨fun _ => s0_app h2 hl2 (by rw [c3]) (fun E H h3 => hC2 E H Q h3 (fun F4 G4 h4 => h F4 G4 (by rw [as]; exact h4))), fun q => absurd q (by decide)⟩))
          · refine rgo a c T F G Q jR hlt hc eB hs (fun F1 h1 => hR F1 G _ h1 (fun F2 G2 h2 => ⟨fun _ => s7_step1 (w' := 3) h2 (by omega) (fun E H h3 => hR2 E H Q h3 (fun F4 G4 h4 => h F4 G4 (by rw [as]; exact h4))), fun q => absurd q (by decide)⟩))
        · refine Or.inr ⟨a2, jC + 1, jR + 1, b2, fun F G Q hs h => ?_, fun F G Q hs h => ?_⟩
          · refine cgo a c T F G Q jC hlt hc eB hs (fun F1 h1 => hC F1 G _ h1 (fun F2 G2 h2 => ⟨fun _ => s0_app h2 hl2 (by rw [c3]) (fun E H h3 => hC2 E H Q h3 h), fun q => absurd q (by decide)⟩))
          · refine rgo a c T F G Q jR hlt hc eB hs (fun F1 h1 => hR F1 G _ h1 (fun F2 G2 h2 => ⟨fun _ => s7_step1 (w' := 3) h2 (by omega) (fun E H h3 => hR2 E H Q h3 h), fun q => absurd q (by decide)⟩))
      · refine Or.inr ⟨a1, 1, 1, b1, fun F G Q hs h => ?_, fun F G Q hs h => ?_⟩
        · exact cgo a c T F G Q 0 hlt hc eB hs (fun F1 h1 => hC F1 G _ h1 (fun F2 G2 h2 => ⟨fun q => absurd rfl q, fun _ => h F2 G2 h2⟩))
        · exact rgo a c T F G Q 0 hlt hc eB hs (fun F1 h1 => hR F1 G _ h1 (fun F2 G2 h2 => ⟨fun q => absurd rfl q, fun _ => h F2 G2 h2⟩))
    · refine Or.inl ⟨a, [], 1, 1, ⟨Nat.le_refl _, ha, wlX_nil, (fun q hq => by cases hq), Nat.le_refl _⟩, fun F G Q hs h => cstop a T F G Q 0 ha st hs (h F G (by rw [List.append_nil]; exact hs)), fun F G Q hs h => rstop a T F G Q 0 ha st hs (h F G (by rw [List.append_nil]; exact hs))⟩
/-- a piece, and the loop behind it -/
theorem lv_all {o : Nat} {C R C' R' : xF → xA → (Int32 → xF → xA → Prop) → Prop} {LC LR : (Int32 → xF → xA → Prop) → Nat → xF → xA → Prop} {a : Nat} {T : wT} (hT : T.length ≤ a) (sub : pOk u n B F0 G0 o a T C R) (lp : ∀ a T, T.length ≤ a → a ≤ n → pLp u n B F0 G0 o a T LC LR)
    (hC : ∀ F G Q, C F G (fun r F2 G2 => ((¬ r = 0 → ∃ j, LC Q j F2 G2) ∧ (r = 0 → Q 0 F2 G2))) → C' F G Q)
    (hR : ∀ F G Q, R F G (fun r F2 G2 => ((¬ r = 0 → ∃ j, LR Q j F2 G2) ∧ (r = 0 → Q 0 F2 G2))) → R' F G Q) : pOk u n B F0 G0 o a T C' R' := by
  rcases sub with ⟨a1, X1, ok1, c1, r1⟩ | ⟨a1, b1, c1, r1⟩
  · obtain ⟨p1, p2, p3, p4, p5⟩ := id ok1
    rcases lp a1 (T ++ X1) (by rw [List.length_append]; omega) p2 with ⟨a2, X2, jC, jR, ok2, c2, r2⟩ | ⟨a2, jC, jR, b2, c2, r2⟩
    · obtain ⟨q1, q2, q3, q4, q5⟩ := id ok2
      refine Or.inl ⟨a2, X1 ++ X2, ⟨by omega, q2, wfX_l p3 q3, fun q hq => (List.mem_append.mp hq).elim (p4 q) (q4 q), by rw [List.length_append]; omega⟩, fun F G Q hs h => hC F G Q (c1 F G _ hs (fun F2 G2 h2 => ⟨fun _ => ⟨jC, c2 F2 G2 Q h2 (fun F3 G3 h3 => h F3 G3 (by rw [← List.append_assoc]; exact h3))⟩, fun q => absurd q (by decide)⟩)), fun F G Q hs h => hR F G Q (r1 F G _ hs (fun F2 G2 h2 => ⟨fun _ => ⟨jR, r2 F2 G2 Q h2 (fun F3 G3 h3 => h F3 G3 (by rw [← List.append_assoc]; exact h3))⟩, fun q => absurd q (by decide)⟩))⟩
    · exact Or.inr ⟨a2, b2, fun F G Q hs h => hC F G Q (c1 F G _ hs (fun F2 G2 h2 => ⟨fun _ => ⟨jC, c2 F2 G2 Q h2 h⟩, fun q => absurd q (by decide)⟩)), fun F G Q hs h => hR F G Q (r1 F G _ hs (fun F2 G2 h2 => ⟨fun _ => ⟨jR, r2 F2 G2 Q h2 h⟩, fun q => absurd q (by decide)⟩))⟩
  · exact Or.inr ⟨a1, b1, fun F G Q hs h => hC F G Q (c1 F G _ hs (fun F2 G2 h2 => ⟨fun q => absurd rfl q, fun _ => h F2 G2 h2⟩)), fun F G Q hs h => hR F G Q (r1 F G _ hs (fun F2 G2 h2 => ⟨fun q => absurd rfl q, fun _ => h F2 G2 h2⟩))⟩
theorem lk_lt {a c : Nat} (hc : c < 2 ^ 31) (h : lkB B n a = nI c) : a < n ∧ B a = nI c := by
  unfold lkB at h
  by_cases y : a < n
  · rw [if_pos y] at h; exact ⟨y, h⟩
  · rw [if_neg y] at h; exact absurd h.symm (nI_nem1 hc)
theorem lk_of {a c : Nat} (ha : a < n) (h : B a = nI c) : lkB B n a = nI c := by
  unfold lkB
  rw [if_pos ha]; exact h
theorem lk_ne {a c d : Nat} (ha : a < n) (h : B a = nI c) (hc : c < 2 ^ 31) (hd : d < 2 ^ 31) (q : c ≠ d) : ¬ lkB B n a = nI d := fun x => by
  rw [lk_of ha h] at x
  exact q ((nI_eq hc hd).mp x)
/-- the class looks whether there is more, first -/
theorem s0_more {a : Nat} {T : wT} {F : xF} {G : xA} {P N : Prop} (hn : n ≤ 60) (ha : a ≤ n) (hs : cS u n B a T F G) (h1 : a < n → N) (h0 : a = n → P) : ((F 3) ≤ (F 1) → P) ∧ (¬ (F 3) ≤ (F 1) → N) := by
  rw [hs.2.2.2.1, hs.2.1]
  exact le_dec (by omega) (by omega) (fun c => h0 (by omega)) (fun c => h1 c)
/-- both: & -/
theorem p_both {o : Nat} (hn : n ≤ 60) (b : hB n B G0) {W : Int32 → xF → xA → (Int32 → xF → xA → Prop) → Prop} {R : xF → xA → (Int32 → xF → xA → Prop) → Prop} (sub : ∀ a T, T.length ≤ a → a ≤ n → pOk u n B F0 G0 o a T (W (nI o)) R) : ∀ a T, T.length ≤ a → a ≤ n → pOk u n B F0 G0 o a T (qX0_both W (nI o)) (qX7_both R) := fun a T hT ha => by
  refine lv_all hT (sub a T hT ha) (LC := fun Q j => qX0_both_10 W Q j (nI o)) (LR := fun Q j => qX7_both_9 R Q j) (fun a T hT ha => lp_all hn (S := fun c => c = 38) (fun c hc => by rw [hc]; exact Or.inl rfl) sub ?_ ?_ ?_ ?_ (n - a) a T (Nat.le_refl _) hT ha) (fun _ _ _ h => h) (fun _ _ _ h => h)
  · intro a T F G Q j ha st hs q
    exact s0_more hn ha hs (fun hl => s0_sees (c := 38) hn hs ha (by decide) (fun e => absurd ⟨38, rfl, e⟩ st) (fun _ => ⟨fun _ => q, fun c => absurd rfl c⟩)) (fun _ => q)
  · intro a c T F G Q j ha hc eB hs k
    subst hc
    exact s0_more hn (by omega) hs (fun hl => s0_sees (c := 38) hn hs (by omega) (by decide) (fun _ => ⟨fun q => absurd q (by decide), fun _ F1 e1 => k F1 (by rw [e1]; exact cS_at hs)⟩) (fun q => absurd (lk_of ha eB) q)) (fun e => absurd ha (by omega))
  · intro a T F G Q j ha st hs q
    refine s7_look b hs ha ⟨fun _ => q, fun e => absurd ⟨38, rfl, e⟩ st⟩
  · intro a c T F G Q j ha hc eB hs k
    subst hc
    exact s7_look b hs (by omega) ⟨fun q => absurd (lk_of ha eB) q, fun _ F1 e1 => k F1 (by rw [e1]; exact rT_at hs)⟩
/-- whole: | -/
theorem p_whole {o : Nat} (hn : n ≤ 60) (b : hB n B G0) {W : Int32 → xF → xA → (Int32 → xF → xA → Prop) → Prop} {R : xF → xA → (Int32 → xF → xA → Prop) → Prop} (sub : ∀ a T, T.length ≤ a → a ≤ n → pOk u n B F0 G0 o a T (W (nI o)) R) : ∀ a T, T.length ≤ a → a ≤ n → pOk u n B F0 G0 o a T (qX0_either W (nI o)) (qX7_whole R) := fun a T hT ha => by
  refine lv_all hT (sub a T hT ha) (LC := fun Q j => qX0_either_10 W Q j (nI o)) (LR := fun Q j => qX7_whole_9 R Q j) (fun a T hT ha => lp_all hn (S := fun c => c = 124) (fun c hc => by rw [hc]; unfold tkSign; omega) sub ?_ ?_ ?_ ?_ (n - a) a T (Nat.le_refl _) hT ha) (fun _ _ _ h => h) (fun _ _ _ h => h)
  · intro a T F G Q j ha st hs q
    exact s0_more hn ha hs (fun hl => s0_sees (c := 124) hn hs ha (by decide) (fun e => absurd ⟨124, rfl, e⟩ st) (fun _ => ⟨fun _ => q, fun c => absurd rfl c⟩)) (fun _ => q)
  · intro a c T F G Q j ha hc eB hs k
    subst hc
    exact s0_more hn (by omega) hs (fun hl => s0_sees (c := 124) hn hs (by omega) (by decide) (fun _ => ⟨fun q => absurd q (by decide), fun _ F1 e1 => k F1 (by rw [e1]; exact cS_at hs)⟩) (fun q => absurd (lk_of ha eB) q)) (fun e => absurd ha (by omega))
  · intro a T F G Q j ha st hs q
    refine s7_look b hs ha ⟨fun _ => q, fun e => absurd ⟨124, rfl, e⟩ st⟩
  · intro a c T F G Q j ha hc eB hs k
    subst hc
    exact s7_look b hs (by omega) ⟨fun q => absurd (lk_of ha eB) q, fun _ F1 e1 => k F1 (by rw [e1]; exact rT_at hs)⟩
theorem sg20 {c : Nat} : (20000 : Int32) + nI c = nI (20000 + c) := nI_add 20000 c
/-- added: + - -/
theorem p_sum {o : Nat} (hn : n ≤ 60) (b : hB n B G0) {W : Int32 → xF → xA → (Int32 → xF → xA → Prop) → Prop} {R : xF → xA → (Int32 → xF → xA → Prop) → Prop} (sub : ∀ a T, T.length ≤ a → a ≤ n → pOk u n B F0 G0 o a T (W (nI o)) R) : ∀ a T, T.length ≤ a → a ≤ n → pOk u n B F0 G0 o a T (qX0_added W (nI o)) (qX7_sum R) := fun a T hT ha => by
  refine lv_all hT (sub a T hT ha) (LC := fun Q j => qX0_added_10 W Q j (nI o)) (LR := fun Q j => qX7_sum_9 R Q j) (fun a T hT ha => lp_all hn (S := fun c => c = 43 ∨ c = 45) (fun c hc => by unfold tkSign; omega) sub ?_ ?_ ?_ ?_ (n - a) a T (Nat.le_refl _) hT ha) (fun _ _ _ h => h) (fun _ _ _ h => h)
  · intro a T F G Q j ha st hs q
    exact s0_more hn ha hs (fun hl => s0_sees (c := 43) hn hs ha (by decide) (fun e => absurd ⟨43, Or.inl rfl, e⟩ st) (fun _ => ⟨fun c => absurd rfl c, fun _ => s0_sees (c := 45) hn hs ha (by decide) (fun e => absurd ⟨45, Or.inr rfl, e⟩ st) (fun _ => ⟨fun _ => q, fun c => absurd rfl c⟩)⟩)) (fun _ => q)
  · intro a c T F G Q j ha hc eB hs k
    have op : qX0_added_42 W Q (fun x1 F G => qX0_added_10 W Q j x1 F G) (nI o) F G := s0_at hn hs ha (fun F1 e1 => by
      have := k F1 (by rw [e1]; exact cS_at hs)
      rw [eB, sg20]
      exact this)
    refine s0_more hn (by omega) hs (fun hl => s0_sees (c := 43) hn hs (by omega) (by decide) (fun _ => ⟨fun _ => op, fun q => absurd q (by decide)⟩) (fun n1 => ⟨fun q => absurd rfl q, fun _ => s0_sees (c := 45) hn hs (by omega) (by decide) (fun _ => ⟨fun q => absurd q (by decide), fun _ => op⟩) (fun n2 => ?_)⟩)) (fun e => absurd ha (by omega))
    rcases hc with rfl | rfl
    · exact absurd (lk_of ha eB) n1
    · exact absurd (lk_of ha eB) n2
  · intro a T F G Q j ha st hs q
    refine s7_look b hs ha ⟨fun e => absurd ⟨43, Or.inl rfl, e⟩ st, fun _ => s7_look b hs ha ⟨fun _ => q, fun e => absurd ⟨45, Or.inr rfl, e⟩ st⟩⟩
  · intro a c T F G Q j ha hc eB hs k
    have op : qX7_sum_27 R Q (fun F G => qX7_sum_9 R Q j F G) F G := s7_look b hs (by omega) (fun F1 e1 => by
      have := k F1 (by rw [e1]; exact rT_at hs)
      rw [lk_of ha eB]
      exact this)
    refine s7_look b hs (by omega) ⟨fun _ => op, fun n1 => s7_look b hs (by omega) ⟨fun n2 => ?_, fun _ => op⟩⟩
    rcases hc with rfl | rfl
    · exact absurd (lk_of ha eB) n1
    · exact absurd (lk_of ha eB) n2
/-- multiplied: * / % -/
theorem p_prod {o : Nat} (hn : n ≤ 60) (b : hB n B G0) {W : Int32 → xF → xA → (Int32 → xF → xA → Prop) → Prop} {R : xF → xA → (Int32 → xF → xA → Prop) → Prop} (sub : ∀ a T, T.length ≤ a → a ≤ n → pOk u n B F0 G0 o a T (W (nI o)) R) : ∀ a T, T.length ≤ a → a ≤ n → pOk u n B F0 G0 o a T (qX0_multiplied W (nI o)) (qX7_product R) := fun a T hT ha => by
  refine lv_all hT (sub a T hT ha) (LC := fun Q j => qX0_multiplied_10 W Q j (nI o)) (LR := fun Q j => qX7_product_9 R Q j) (fun a T hT ha => lp_all hn (S := fun c => c = 42 ∨ c = 47 ∨ c = 37) (fun c hc => by unfold tkSign; omega) sub ?_ ?_ ?_ ?_ (n - a) a T (Nat.le_refl _) hT ha) (fun _ _ _ h => h) (fun _ _ _ h => h)
  · intro a T F G Q j ha st hs q
    exact s0_more hn ha hs (fun hl => s0_sees (c := 42) hn hs ha (by decide) (fun e => absurd ⟨42, Or.inl rfl, e⟩ st) (fun _ => ⟨fun c => absurd rfl c, fun _ => s0_sees (c := 47) hn hs ha (by decide) (fun e => absurd ⟨47, Or.inr (Or.inl rfl), e⟩ st) (fun _ => ⟨fun c => absurd rfl c, fun _ => s0_sees (c := 37) hn hs ha (by decide) (fun e => absurd ⟨37, Or.inr (Or.inr rfl), e⟩ st) (fun _ => ⟨fun _ => q, fun c => absurd rfl c⟩)⟩)⟩)) (fun _ => q)
  · intro a c T F G Q j ha hc eB hs k
    have op : qX0_multiplied_51 W Q (fun x1 F G => qX0_multiplied_10 W Q j x1 F G) (nI o) F G := s0_at hn hs ha (fun F1 e1 => by
      have := k F1 (by rw [e1]; exact cS_at hs)
      rw [eB, sg20]
      exact this)
    refine s0_more hn (by omega) hs (fun hl => s0_sees (c := 42) hn hs (by omega) (by decide) (fun _ => ⟨fun _ => op, fun q => absurd q (by decide)⟩) (fun n1 => ⟨fun q => absurd rfl q, fun _ => s0_sees (c := 47) hn hs (by omega) (by decide) (fun _ => ⟨fun _ => op, fun q => absurd q (by decide)⟩) (fun n2 => ⟨fun q => absurd rfl q, fun _ => s0_sees (c := 37) hn hs (by omega) (by decide) (fun _ => ⟨fun q => absurd q (by decide), fun _ => op⟩) (fun n3 => ?_)⟩)⟩)) (fun e => absurd ha (by omega))
    rcases hc with rfl | rfl | rfl
    · exact absurd (lk_of ha eB) n1
    · exact absurd (lk_of ha eB) n2
    · exact absurd (lk_of ha eB) n3
  · intro a T F G Q j ha st hs q
    refine s7_look b hs ha ⟨fun e => absurd ⟨42, Or.inl rfl, e⟩ st, fun _ => s7_look b hs ha ⟨fun e => absurd ⟨47, Or.inr (Or.inl rfl), e⟩ st, fun _ => s7_look b hs ha ⟨fun _ => q, fun e => absurd ⟨37, Or.inr (Or.inr rfl), e⟩ st⟩⟩⟩
  · intro a c T F G Q j ha hc eB hs k
    have op : qX7_product_36 R Q (fun F G => qX7_product_9 R Q j F G) F G := s7_look b hs (by omega) (fun F1 e1 => by
      have := k F1 (by rw [e1]; exact rT_at hs)
      rw [lk_of ha eB]
      exact this)
    refine s7_look b hs (by omega) ⟨fun _ => op, fun n1 => s7_look b hs (by omega) ⟨fun _ => op, fun n2 => s7_look b hs (by omega) ⟨fun n3 => ?_, fun _ => op⟩⟩⟩
    rcases hc with rfl | rfl | rfl
    · exact absurd (lk_of ha eB) n1
    · exact absurd (lk_of ha eB) n2
    · exact absurd (lk_of ha eB) n3
/-- compared: one of < = >, at most once -/
theorem p_comp {o : Nat} (hn : n ≤ 60) (b : hB n B G0) {W : Int32 → xF → xA → (Int32 → xF → xA → Prop) → Prop} {R : xF → xA → (Int32 → xF → xA → Prop) → Prop} (sub : ∀ a T, T.length ≤ a → a ≤ n → pOk u n B F0 G0 o a T (W (nI o)) R) : ∀ a T, T.length ≤ a → a ≤ n → pOk u n B F0 G0 o a T (qX0_compared W (nI o)) (qX7_compared R) := fun a T hT ha => by
  rcases sub a T hT ha with ⟨a1, X1, ok1, c1, r1⟩ | ⟨a1, b1, c1, r1⟩
  rotate_left
  · exact Or.inr ⟨a1, b1, fun F G Q hs h => c1 F G _ hs (fun F2 G2 h2 => ⟨fun q => absurd rfl q, fun _ => h F2 G2 h2⟩), fun F G Q hs h => r1 F G _ hs (fun F2 G2 h2 => ⟨fun q => absurd rfl q, fun _ => h F2 G2 h2⟩)⟩
  obtain ⟨p1, p2, p3, p4, p5⟩ := id ok1
  have hl1 : (T ++ X1).length ≤ a1 := by rw [List.length_append]; omega
  by_cases st : ∃ c, (c = 60 ∨ c = 61 ∨ c = 62) ∧ lkB B n a1 = nI c
  · obtain ⟨c, hc, e⟩ := st
    have hcs : tkSign c := by unfold tkSign; omega
    obtain ⟨hlt, eB⟩ := lk_lt (by omega) e
    have c3 : tkC u (3, c) = 20000 + c := rfl
    -- the sign is there: one more piece
    have opC : ∀ F G Q, cS u n B a1 (T ++ X1) F G → (∀ F1, cS u n B (a1 + 1) (T ++ X1) F1 G → W (nI o) F1 G (fun r F' G' => ((¬ r = 0 → qX1_append 60 (nI (20000 + c)) (xsub F' 2) (xsub G' 0) (fun F92 G92 => (∀ E92 : xF, E92 = (xspl F' 2 1 F92) → (∀ H92 : xA, H92 = (xspl G' 0 1 G92) → Q (1 : Int32) E92 H92)))) ∧ (r = 0 → Q 0 F' G')))) → ((¬ (1 : Int32) = 0 → qX0_sees (60 : Int32) F G (fun r13 F13 G13 => ((¬ r13 = 0 → qX0_compared_37 W Q (nI o) F13 G13) ∧ (r13 = 0 → qX0_sees (61 : Int32) F13 G13 (fun r22 F22 G22 => ((¬ r22 = 0 → qX0_compared_37 W Q (nI o) F22 G22) ∧ (r22 = 0 → qX0_sees (62 : Int32) F22 G22 (fun r31 F31 G31 => ((r31 = 0 → Q (1 : Int32) F31 G31) ∧ (¬ r31 = 0 → qX0_compared_37 W Q (nI o) F31 G31)))))))))) ∧ ((1 : Int32) = 0 → Q (0 : Int32) F G)) := by
      intro F G Q hs k
      have op : qX0_compared_37 W Q (nI o) F G := s0_at hn hs hlt (fun F1 e1 => by
        have := k F1 (by rw [e1]; exact cS_at hs)
        rw [eB, sg20]
        exact this)
      refine ⟨fun _ => s0_sees (c := 60) hn hs p2 (by decide) (fun _ => ⟨fun _ => op, fun q => absurd q (by decide)⟩) (fun n1 => ⟨fun q => absurd rfl q, fun _ => s0_sees (c := 61) hn hs p2 (by decide) (fun _ => ⟨fun _ => op, fun q => absurd q (by decide)⟩) (fun n2 => ⟨fun q => absurd rfl q, fun _ => s0_sees (c := 62) hn hs p2 (by decide) (fun _ => ⟨fun q => absurd q (by decide), fun _ => op⟩) (fun n3 => ?_)⟩)⟩), fun q => absurd q (by decide)⟩
      rcases hc with rfl | rfl | rfl
      · exact absurd e n1
      · exact absurd e n2
      · exact absurd e n3
    have opR : ∀ F G Q, rT u F0 G0 o a1 (T ++ X1) F G → (∀ F1, rT u F0 G0 o (a1 + 1) (T ++ X1) F1 G → R F1 G (fun r F' G' => ((¬ r = 0 → qX7_step1 (3 : Int32) (nI c) F' G' (fun F63 G63 => Q 1 F63 G63)) ∧ (r = 0 → Q 0 F' G')))) → ((¬ (1 : Int32) = 0 → qX7_look F G (fun r10 F10 G10 => ((r10 = (60 : Int32) → qX7_compared_34 R Q r10 F10 G10) ∧ (¬ r10 = (60 : Int32) → ((r10 = (61 : Int32) → qX7_compared_34 R Q r10 F10 G10) ∧ (¬ r10 = (61 : Int32) → ((r10 = (62 : Int32) → qX7_compared_34 R Q r10 F10 G10) ∧ (¬ r10 = (62 : Int32) → Q (1 : Int32) F10 G10)))))))) ∧ ((1 : Int32) = 0 → Q (0 : Int32) F G)) := by
      intro F G Q hs k
      have op : qX7_compared_34 R Q (lkB B n a1) F G := fun F1 e1 => by
        have := k F1 (by rw [e1]; exact rT_at hs)
        rw [e]
        exact this
      refine ⟨fun _ => s7_look b hs p2 ⟨fun _ => op, fun n1 => ⟨fun _ => op, fun n2 => ⟨fun _ => op, fun n3 => ?_⟩⟩⟩, fun q => absurd q (by decide)⟩
      rcases hc with rfl | rfl | rfl
      · exact absurd e n1
      · exact absurd e n2
      · exact absurd e n3
    rcases sub (a1 + 1) (T ++ X1) (by omega) (by omega) with ⟨a2, X2, ok2, c2, r2⟩ | ⟨a2, b2, c2, r2⟩
    · obtain ⟨q1, q2, q3, q4, q5⟩ := id ok2
      have hl2 : (T ++ X1 ++ X2).length < 60 := by rw [List.length_append]; omega
      have as : T ++ (X1 ++ (X2 ++ [(3, c)] ++ [])) = T ++ X1 ++ X2 ++ [(3, c)] := by
        rw [List.append_nil, ← List.append_assoc, ← List.append_assoc]
      have ok3 := lkX_s ok2 (a2 := a2) (X2 := []) ⟨Nat.le_refl _, q2, wlX_nil, (fun q hq => by cases hq), Nat.le_refl _⟩ hcs
      obtain ⟨s1, s2, s3, s4, s5⟩ := ok3
      refine Or.inl ⟨a2, X1 ++ (X2 ++ [(3, c)] ++ []), ⟨by omega, q2, wfX_l p3 s3, fun q hq => (List.mem_append.mp hq).elim (p4 q) (s4 q), by rw [List.length_append]; omega⟩, fun F G Q hs h => c1 F G _ hs (fun F2 G2 h2 => opC F2 G2 Q h2 (fun F3 h3 => c2 F3 G2 _ h3 (fun F4 G4 h4 => ⟨fun _ => s0_app h4 hl2 (by rw [c3]) (fun E H h5 => h E H (by rw [as]; exact h5)), fun q => absurd q (by decide)⟩))), fun F G Q hs h => r1 F G _ hs (fun F2 G2 h2 => opR F2 G2 Q h2 (fun F3 h3 => r2 F3 G2 _ h3 (fun F4 G4 h4 => ⟨fun _ => s7_step1 (w' := 3) h4 (by omega) (fun E H h5 => h E H (by rw [as]; exact h5)), fun q => absurd q (by decide)⟩)))⟩
    · exact Or.inr ⟨a2, b2, fun F G Q hs h => c1 F G _ hs (fun F2 G2 h2 => opC F2 G2 Q h2 (fun F3 h3 => c2 F3 G2 _ h3 (fun F4 G4 h4 => ⟨fun q => absurd rfl q, fun _ => h F4 G4 h4⟩))), fun F G Q hs h => r1 F G _ hs (fun F2 G2 h2 => opR F2 G2 Q h2 (fun F3 h3 => r2 F3 G2 _ h3 (fun F4 G4 h4 => ⟨fun q => absurd rfl q, fun _ => h F4 G4 h4⟩)))⟩
  · have n1 : ¬ lkB B n a1 = nI 60 := fun e => st ⟨60, Or.inl rfl, e⟩
    have n2 : ¬ lkB B n a1 = nI 61 := fun e => st ⟨61, Or.inr (Or.inl rfl), e⟩
    have n3 : ¬ lkB B n a1 = nI 62 := fun e => st ⟨62, Or.inr (Or.inr rfl), e⟩
    refine Or.inl ⟨a1, X1, ok1, fun F G Q hs h => c1 F G _ hs (fun F2 G2 h2 => ⟨fun _ => s0_sees (c := 60) hn h2 p2 (by decide) (fun e => absurd e n1) (fun _ => ⟨fun q => absurd rfl q, fun _ => s0_sees (c := 61) hn h2 p2 (by decide) (fun e => absurd e n2) (fun _ => ⟨fun q => absurd rfl q, fun _ => s0_sees (c := 62) hn h2 p2 (by decide) (fun e => absurd e n3) (fun _ => ⟨fun _ => h F2 G2 h2, fun q => absurd rfl q⟩)⟩)⟩), fun q => absurd q (by decide)⟩), fun F G Q hs h => r1 F G _ hs (fun F2 G2 h2 => ⟨fun _ => s7_look b h2 p2 ⟨fun e => absurd e n1, fun _ => ⟨fun e => absurd e n2, fun _ => ⟨fun e => absurd e n3, fun _ => h F2 G2 h2⟩⟩⟩, fun q => absurd q (by decide)⟩)⟩
end READS
