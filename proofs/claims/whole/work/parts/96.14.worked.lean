/-! the reference works a text: its steps are the tokens -/
theorem xst_up {G0 : xA} {m d : Nat} {p : Nat → Int32} {x : Int32} : xst (va_up G0 m p) m d x = va_up G0 m (upd p d x) := by
  funext j
  by_cases h : j = m
  · subst h; simp [xst, va_up]
  · simp [xst, va_up, h]
theorem s7_worked_loop {Q : Int32 → xF → xA → Prop} {F : xF} {G0 : xA} {b len u : Nat} (hb : b ≤ 246) (hl : G0 0 b = nI len) (hlen : len ≤ 60) :
    ∀ (rest : List (Nat × Nat)) (k : Nat) (st : List Int32) (p : Nat → Int32), k + rest.length = len → (∀ i, i < rest.length → G0 0 (b + 1 + 2 * (k + i)) = nI (rest.getD i (0, 0)).1 ∧ G0 0 (b + 2 + 2 * (k + i)) = nI (rest.getD i (0, 0)).2) → (∀ q ∈ rest, tkV u q) → tkP p st → tkOk rest st.length = true → st.length + rest.length ≤ 62 → (∀ p', Q ((tkEv (G0 5) rest st).headD 0) F (va_up G0 6 p')) → qX7_worked_13 Q (rest.length + 1) (nI b) (nI st.length) (nI k) F (va_up G0 6 p) := by
  intro rest
  induction rest with
  | nil =>
    intro k st p hk _ _ hp ho _ hq
    have hk : k = len := hk
    subst hk
    rw [qX7_worked_13]
    have e0 : va_up G0 6 p 0 = G0 0 := rfl
    have e6 : va_up G0 6 p 6 = p := rfl
    rw [e0, e6, nI_clamp (by omega), hl]
    refine ⟨xvin (by omega) (by omega), fun _ => ?_, fun c => absurd (nI_le (Nat.le_refl _) (by omega)) c⟩
    match st, hp, ho with
    | [x], hp, _ =>
      have h0 : p 0 = x := hp.1
      rw [h0]
      exact hq p
    | [], _, ho => cases ho
    | _ :: _ :: _, _, ho => simp [tkOk] at ho
  | cons q t ih =>
    intro k st p hk hs hv hp ho hr hq
    obtain ⟨w, v⟩ := q
    have hk' : k + (t.length + 1) = len := hk
    have hr' : st.length + (t.length + 1) ≤ 62 := hr
    have e1 : nI b + (1 : Int32) + (2 : Int32) * nI k = nI (b + 1 + 2 * k) := by
      rw [nI_1, show (2 : Int32) = nI 2 from rfl, pk_mul, nI_add]
    have e2 : nI b + (2 : Int32) + (2 : Int32) * nI k = nI (b + 2 + 2 * k) := by
      rw [show (2 : Int32) = nI 2 from rfl, nI_add, pk_mul, nI_add]
    have h0 := hs 0 (by simp)
    have hw : G0 0 (b + 1 + 2 * k) = nI w := h0.1
    have hvv : G0 0 (b + 2 + 2 * k) = nI v := h0.2
    have hs' : ∀ i, i < t.length → G0 0 (b + 1 + 2 * (k + 1 + i)) = nI (t.getD i (0, 0)).1 ∧ G0 0 (b + 2 + 2 * (k + 1 + i)) = nI (t.getD i (0, 0)).2 := by
      intro i hi
      have h := hs (i + 1) (by simp; omega)
      rw [show k + (i + 1) = k + 1 + i by omega] at h
      exact h
    have hv' : ∀ q ∈ t, tkV u q := fun q hq => hv q (List.mem_cons_of_mem _ hq)
    have e0 : va_up G0 6 p 0 = G0 0 := rfl
    have e5 : va_up G0 6 p 5 = G0 5 := rfl
    have e6 : va_up G0 6 p 6 = p := rfl
    rw [List.length_cons, qX7_worked_13]
    rw [e1, e2, e0, e6, nI_clamp (show b < 2 ^ 31 by omega), nI_clamp (show b + 1 + 2 * k < 2 ^ 31 by omega), nI_clamp (show b + 2 + 2 * k < 2 ^ 31 by omega), hl, hw, hvv, show nI k + (1 : Int32) = nI (k + 1) from nI_1 k]
    refine ⟨xvin (by omega) (by omega), fun c => absurd c (nI_ge (by omega) (by omega)), fun _ => ⟨xvin (by omega) (by omega), xvin (by omega) (by omega), ?_⟩⟩
    have ht : tkV u (w, v) := hv _ List.mem_cons_self
    rcases ht with ⟨rfl, hv9⟩ | ⟨rfl, hvn⟩ | ⟨rfl, rfl⟩ | ⟨rfl, hvs⟩
    · refine ⟨fun _ => ⟨fun c => absurd nI_0 c, fun _ => ⟨xvin (by omega) (by omega), fun _ e => ?_⟩⟩, fun c => absurd nI_0 c⟩
      rw [e, nI_clamp (by omega), xst_up, show nI st.length + (1 : Int32) = nI (st.length + 1) from nI_1 _, show nI k + (1 : Int32) = nI (k + 1) from nI_1 k]
      exact ih (k + 1) (nI v :: st) _ (by omega) hs' hv' (tkP_push hp) ho (by simp; omega) hq
    · have hlt := tkName_lt hvn
      refine ⟨fun c => absurd c (nI_ne0 (by omega) (by omega)), fun _ => ⟨fun c => absurd rfl c, fun _ => ⟨fun _ => ⟨xvin (by omega) (by omega), xvin (by omega) (by omega), fun _ e => ?_⟩, fun c => absurd c (nI_ne0 (by omega) (by omega))⟩⟩⟩
      rw [e, nI_clamp (show st.length < 2 ^ 31 by omega), nI_clamp (show v < 2 ^ 31 by omega), e5, xst_up, show nI st.length + (1 : Int32) = nI (st.length + 1) from nI_1 _, show nI k + (1 : Int32) = nI (k + 1) from nI_1 k]
      exact ih (k + 1) (G0 5 v :: st) _ (by omega) hs' hv' (tkP_push hp) ho (by simp; omega) hq
    · match st, hp, ho with
      | x :: r, hp, ho =>
        have hrl : r.length + 1 + (t.length + 1) ≤ 62 := hr'
        have hx : p r.length = x := hp.1
        have em : nI (x :: r).length - (1 : Int32) = nI r.length := nI_pred r.length
        refine ⟨fun c => absurd c (nI_ne0 (by omega) (by omega)), fun _ => ⟨fun _ => ⟨fun c => absurd rfl c, fun _ => ?_⟩, fun c => absurd c (by decide)⟩⟩
        rw [em, nI_clamp (by omega), hx]
        have ho' : tkOk t (r.length + 1) = true := by simpa [tkOk] using ho
        refine ⟨xvin (by omega) (by omega), fun c => ⟨xvin (by omega) (by omega), fun _ e => ?_⟩, fun c => ⟨xvin (by omega) (by omega), fun _ e => ?_⟩⟩
        · rw [e, xst_up]
          refine ih (k + 1) (0 :: r) _ (by omega) hs' hv' (tkP_push hp.2) ho' (by simp; omega) (fun p' => ?_)
          have h : Q ((tkEv (G0 5) t ((if x = 0 then 1 else 0) :: r)).headD 0) F (va_up G0 6 p') := hq p'
          rw [if_neg c] at h
          exact h
        · rw [e, xst_up]
          refine ih (k + 1) (1 :: r) _ (by omega) hs' hv' (tkP_push hp.2) ho' (by simp; omega) (fun p' => ?_)
          have h : Q ((tkEv (G0 5) t ((if x = 0 then 1 else 0) :: r)).headD 0) F (va_up G0 6 p') := hq p'
          rw [if_pos c] at h
          exact h
      | [], _, ho => simp [tkOk] at ho
    · match st, hp, ho with
      | y :: x :: r, hp, ho =>
        have hrl : r.length + 2 + (t.length + 1) ≤ 62 := hr'
        have hy : p (r.length + 1) = y := hp.1
        have hx : p r.length = x := hp.2.1
        have em : nI (y :: x :: r).length + (-1 : Int32) = nI (r.length + 1) := pk_m1 (r.length + 1)
        have em2 : nI (r.length + 1) - (1 : Int32) = nI r.length := nI_pred r.length
        refine ⟨fun c => absurd c (nI_ne0 (by omega) (by omega)), fun _ => ⟨fun _ => ⟨fun _ => ?_, fun c => absurd c (by decide)⟩, fun c => absurd c (by decide)⟩⟩
        rw [em, em2, nI_clamp (show r.length < 2 ^ 31 by omega), nI_clamp (show r.length + 1 < 2 ^ 31 by omega), hx, hy]
        have ho' : tkOk t (r.length + 1) = true := by simpa [tkOk] using ho
        refine ⟨xvin (by omega) (by omega), xvin (by omega) (by omega), s7_joined (tkSign_c hvs) ⟨xvin (by omega) (by omega), fun _ e => ?_⟩⟩
        rw [e, xst_up]
        exact ih (k + 1) (jn (nI v) x y :: r) _ (by omega) hs' hv' (tkP_push hp.2.2) ho' (by simp; omega) hq
      | [], _, ho => simp [tkOk] at ho
      | [_], _, ho => simp [tkOk] at ho

/-- the tokens of a text in the reference's row, from b on -/
def tkS (u : Nat) (s : Nat → Int32) (b : Nat) (t : List (Nat × Nat)) : Prop := s b = nI t.length ∧ t.length ≤ 60 ∧ (∀ q ∈ t, tkV u q) ∧ ∀ i, i < t.length → s (b + 1 + 2 * i) = nI (t.getD i (0, 0)).1 ∧ s (b + 2 + 2 * i) = nI (t.getD i (0, 0)).2
theorem s7_worked {Q : Int32 → xF → xA → Prop} {F : xF} {G : xA} {u : Nat} (hu : u < 2) {t : List (Nat × Nat)} (ht : tkS u (G 0) (121 + 125 * u) t) (ho : tkOk t 0 = true) (hq : ∀ p, Q ((tkEv (G 5) t []).headD 0) F (va_up G 6 p)) : qX7_worked (nI u) F G Q := by
  have e : (121 : Int32) + (125 : Int32) * nI u = nI (121 + 125 * u) := by
    rw [show (121 : Int32) = nI 121 from rfl, show (125 : Int32) = nI 125 from rfl, pk_mul, nI_add]
  refine ⟨t.length + 1, ?_⟩
  rw [e]
  have h := s7_worked_loop (Q := Q) (F := F) (G0 := G) (u := u) (by omega) ht.1 ht.2.1 t 0 [] (G 6) (by omega) (fun i hi => by rw [Nat.zero_add]; exact ht.2.2.2 i hi) ht.2.2.1 trivial ho (by have := ht.2.1; simp; omega) hq
  have eg : va_up G 6 (G 6) = G := by
    funext j
    by_cases h : j = 6
    · subst h; simp [va_up]
    · simp [va_up, h]
  rw [eg] at h
  exact h
