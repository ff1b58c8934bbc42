/-! the class works a text: its codes are the tokens -/
theorem xspl_sub {α : Type} (f : Nat → α) (o n : Nat) : xspl f o n (xsub f o) = f := by
  funext k
  unfold xspl xsub
  by_cases h1 : k < o
  · rw [if_pos h1]
  · rw [if_neg h1]
    by_cases h2 : k < o + n
    · rw [if_pos h2, show o + (k - o) = k by omega]
    · rw [if_neg h2]
theorem s1_at {N len k : Nat} (hk : k < len) (hlen : len ≤ N) (hN : N < 2 ^ 31) {F : xF} {G : xA} {Q : Int32 → xF → xA → Prop} (hF : F 0 = nI len) (h : Q (G 0 k) F G) : qX1_at N (nI k) F G Q := by
  refine ⟨fun c => absurd c (nI_pos (by omega)), fun _ => ⟨fun c => ?_, fun _ => ?_⟩⟩
  · rw [hF] at c
    exact absurd c (nI_ge hk (by omega))
  · rw [nI_clamp (by omega)]
    exact ⟨xvin (by omega) hN, h⟩
def tkN (u : Nat) (x1 x2 x3 : Int32) (v : Nat) : Int32 := if tkNm u v = 0 then x1 else if tkNm u v = 1 then x2 else x3
theorem tkNm_lt (u v : Nat) : tkNm u v = 0 ∨ tkNm u v = 1 ∨ tkNm u v = 2 := by
  unfold tkNm
  split <;> split <;> first | exact Or.inl rfl | (split <;> first | exact Or.inr (Or.inl rfl) | exact Or.inr (Or.inr rfl))
theorem s3_named_num {v : Nat} (hv : v ≤ 9999) {x1 x2 x3 : Int32} {Q : Int32 → Prop} (h : Q (nI v)) : qX3_named (nI v) x1 x2 x3 Q := by
  have ne : ∀ c : Nat, 10000 ≤ c → c < 20000 → ¬ nI v = nI c := fun c h1 h2 q => by
    have := (nI_eq (by omega) (by omega)).mp q
    omega
  exact ⟨fun c => absurd c (ne 10000 (by omega) (by omega)), fun _ => ⟨fun c => absurd c (ne 10001 (by omega) (by omega)), fun _ => ⟨fun c => absurd c (ne 10002 (by omega) (by omega)), fun _ => h⟩⟩⟩
theorem s3_named_nm {u v : Nat} {x1 x2 x3 : Int32} {Q : Int32 → Prop} (h : Q (tkN u x1 x2 x3 v)) : qX3_named (nI (10000 + tkNm u v)) x1 x2 x3 Q := by
  unfold tkN at h
  rcases tkNm_lt u v with e | e | e <;> rw [e] at h ⊢
  · exact ⟨fun _ => h, fun c => absurd rfl c⟩
  · exact ⟨fun c => absurd c (by decide), fun _ => ⟨fun _ => h, fun c => absurd rfl c⟩⟩
  · exact ⟨fun c => absurd c (by decide), fun _ => ⟨fun c => absurd c (by decide), fun _ => ⟨fun _ => h, fun c => absurd rfl c⟩⟩⟩
theorem s3_value_loop {Q : Int32 → xF → xA → Prop} {F : xF} {G0 : xA} {len u : Nat} {x1 x2 x3 : Int32} (hl : F 0 = nI len) (hlen : len ≤ 60) :
    ∀ (rest : List (Nat × Nat)) (k : Nat) (st : List Int32) (p : Nat → Int32), k + rest.length = len → (∀ i, i < rest.length → G0 1 (k + i) = nI (tkC u (rest.getD i (0, 0)))) → (∀ q ∈ rest, tkV u q) → tkP p st → tkOk rest st.length = true → st.length + rest.length ≤ 60 → (∀ p', Q ((tkEv (tkN u x1 x2 x3) rest st).headD 0) F (va_up G0 0 p')) → qX3_value_6 Q (rest.length + 1) x1 x2 x3 (nI st.length) (nI k) F (va_up G0 0 p) := by
  intro rest
  induction rest with
  | nil =>
    intro k st p hk _ _ hp ho _ hq
    have hk : k = len := hk
    subst hk
    rw [qX3_value_6]
    have e0 : va_up G0 0 p 0 = p := rfl
    rw [hl, e0]
    refine ⟨fun _ => ?_, fun c => absurd (nI_le (Nat.le_refl _) (by omega)) c⟩
    match st, hp, ho with
    | [x], hp, _ =>
      have h0 : p 0 = x := hp.1
      refine ⟨fun c => absurd (show nI 1 < nI 1 from c) (nI_nlt (Nat.le_refl _) (by omega)), fun _ => ?_⟩
      rw [show nI [x].length - (1 : Int32) = nI 0 from nI_pred 0, nI_clamp (by omega), h0]
      exact ⟨xvin (by omega) (by omega), hq p⟩
    | [], _, ho => cases ho
    | _ :: _ :: _, _, ho => simp [tkOk] at ho
  | cons q t ih =>
    intro k st p hk hs hv hp ho hr hq
    obtain ⟨w, v⟩ := q
    have hk' : k + (t.length + 1) = len := hk
    have hr' : st.length + (t.length + 1) ≤ 60 := hr
    have hw : G0 1 k = nI (tkC u (w, v)) := hs 0 (by simp)
    have hs' : ∀ i, i < t.length → G0 1 (k + 1 + i) = nI (tkC u (t.getD i (0, 0))) := by
      intro i hi
      have h := hs (i + 1) (by simp; omega)
      rw [show k + (i + 1) = k + 1 + i by omega] at h
      exact h
    have hv' : ∀ q ∈ t, tkV u q := fun q hq => hv q (List.mem_cons_of_mem _ hq)
    have e0 : va_up G0 0 p 0 = p := rfl
    rw [List.length_cons, qX3_value_6]
    refine ⟨fun c => ?_, fun _ => ?_⟩
    · rw [hl] at c
      exact absurd c (nI_ge (by omega) (by omega))
    refine s1_at (N := 60) (len := len) (by omega) hlen (by omega) (by show F (0 + 0) = _; exact hl) ?_
    intro E eE H eH
    rw [xspl_sub] at eE eH
    rw [eE, eH]
    rw [show xsub (va_up G0 0 p) 1 0 k = G0 1 k from rfl, hw, e0, show nI k + (1 : Int32) = nI (k + 1) from nI_1 k]
    have ht : tkV u (w, v) := hv _ List.mem_cons_self
    rcases ht with ⟨rfl, hv9⟩ | ⟨rfl, hvn⟩ | ⟨rfl, rfl⟩ | ⟨rfl, hvs⟩
    · have hv9 : v ≤ 9999 := hv9
      rw [show tkC u (0, v) = v from rfl]
      refine ⟨fun c => absurd (show nI 20000 ≤ nI v from c) (nI_ge (by omega) (by omega)), fun _ => ⟨fun c => absurd (show nI 60 ≤ nI st.length from c) (nI_ge (by omega) (by omega)), fun _ => s3_named_num hv9 ⟨xvin (by omega) (by omega), fun _ e => ?_⟩⟩⟩
      rw [e, nI_clamp (by omega), xst_up, show nI st.length + (1 : Int32) = nI (st.length + 1) from nI_1 _]
      exact ih (k + 1) (nI v :: st) _ (by omega) hs' hv' (tkP_push hp) ho (by simp; omega) hq
    · have h3 := tkNm_lt u v
      rw [show tkC u (1, v) = 10000 + tkNm u v from rfl]
      refine ⟨fun c => absurd (show nI 20000 ≤ nI (10000 + tkNm u v) from c) (nI_ge (by omega) (by omega)), fun _ => ⟨fun c => absurd (show nI 60 ≤ nI st.length from c) (nI_ge (by omega) (by omega)), fun _ => s3_named_nm (u := u) ⟨xvin (by omega) (by omega), fun _ e => ?_⟩⟩⟩
      rw [e, nI_clamp (by omega), xst_up, show nI st.length + (1 : Int32) = nI (st.length + 1) from nI_1 _]
      exact ih (k + 1) (tkN u x1 x2 x3 v :: st) _ (by omega) hs' hv' (tkP_push hp) ho (by simp; omega) hq
    · rw [show tkC u (2, 0) = 20033 from rfl]
      match st, hp, ho with
      | x :: r, hp, ho =>
        have hrl : r.length + 1 + (t.length + 1) ≤ 60 := hr'
        have hx : p r.length = x := hp.1
        have em : nI (x :: r).length - (1 : Int32) = nI r.length := nI_pred r.length
        refine ⟨fun _ => ⟨fun c => absurd rfl c, fun _ => ⟨fun c => absurd (show nI (r.length + 1) < nI 1 from c) (nI_nlt (by omega) (by omega)), fun _ => ?_⟩⟩, fun c => absurd (show nI 20000 ≤ nI 20033 from nI_le (by omega) (by omega)) c⟩
        rw [em, nI_clamp (by omega), hx]
        have ho' : tkOk t (r.length + 1) = true := by simpa [tkOk] using ho
        refine ⟨xvin (by omega) (by omega), fun c => ⟨xvin (by omega) (by omega), fun _ e => ?_⟩, fun c => ⟨xvin (by omega) (by omega), fun _ e => ?_⟩⟩
        · rw [e, xst_up]
          refine ih (k + 1) (0 :: r) _ (by omega) hs' hv' (tkP_push hp.2) ho' (by simp; omega) (fun p' => ?_)
          have h : Q ((tkEv (tkN u x1 x2 x3) t ((if x = 0 then 1 else 0) :: r)).headD 0) F (va_up G0 0 p') := hq p'
          rw [if_neg c] at h
          exact h
        · rw [e, xst_up]
          refine ih (k + 1) (1 :: r) _ (by omega) hs' hv' (tkP_push hp.2) ho' (by simp; omega) (fun p' => ?_)
          have h : Q ((tkEv (tkN u x1 x2 x3) t ((if x = 0 then 1 else 0) :: r)).headD 0) F (va_up G0 0 p') := hq p'
          rw [if_pos c] at h
          exact h
      | [], _, ho => simp [tkOk] at ho
    · rw [show tkC u (3, v) = 20000 + v from rfl]
      have hv3 : v ≤ 124 ∧ ¬ v = 33 := by unfold tkSign at hvs; omega
      match st, hp, ho with
      | y :: x :: r, hp, ho =>
        have hrl : r.length + 2 + (t.length + 1) ≤ 60 := hr'
        have hy : p (r.length + 1) = y := hp.1
        have hx : p r.length = x := hp.2.1
        have em : nI (y :: x :: r).length + (-1 : Int32) = nI (r.length + 1) := pk_m1 (r.length + 1)
        have em2 : nI (r.length + 1) - (1 : Int32) = nI r.length := nI_pred r.length
        have em3 : nI (20000 + v) - (20000 : Int32) = nI v := by
          rw [show (20000 : Int32) = nI 20000 from rfl, pk_sub (by omega), Nat.add_sub_cancel_left]
        have n33 : ¬ nI (20000 + v) = (20033 : Int32) := fun c => by
          have := (nI_eq (by omega) (by omega)).mp (show nI (20000 + v) = nI 20033 from c)
          omega
        refine ⟨fun _ => ⟨fun _ => ⟨fun c => absurd (show nI (r.length + 2) < nI 2 from c) (nI_nlt (by omega) (by omega)), fun _ => ?_⟩, fun c => absurd c n33⟩, fun c => absurd (show nI 20000 ≤ nI (20000 + v) from nI_le (by omega) (by omega)) c⟩
        rw [em, em2, em3, nI_clamp (show r.length < 2 ^ 31 by omega), nI_clamp (show r.length + 1 < 2 ^ 31 by omega), hx, hy]
        have ho' : tkOk t (r.length + 1) = true := by simpa [tkOk] using ho
        refine ⟨xvin (by omega) (by omega), xvin (by omega) (by omega), s3_joined ⟨xvin (by omega) (by omega), fun _ e => ?_⟩⟩
        rw [e, xst_up]
        exact ih (k + 1) (jn (nI v) x y :: r) _ (by omega) hs' hv' (tkP_push hp.2.2) ho' (by simp; omega) hq
      | [], _, ho => simp [tkOk] at ho
      | [_], _, ho => simp [tkOk] at ho

/-- the codes of a text in the class's row -/
def tkCd (u : Nat) (n : Int32) (g : Nat → Int32) (t : List (Nat × Nat)) : Prop := n = nI t.length ∧ t.length ≤ 60 ∧ (∀ q ∈ t, tkV u q) ∧ ∀ i, i < t.length → g i = nI (tkC u (t.getD i (0, 0)))
theorem xup_self {α : Type} (G : Nat → α) (k : Nat) : va_up G k (G k) = G := by
  funext j
  by_cases h : j = k
  · subst h; simp [va_up]
  · simp [va_up, h]
theorem s3_value {Q : Int32 → xF → xA → Prop} {F : xF} {G : xA} {u : Nat} {x1 x2 x3 : Int32} {t : List (Nat × Nat)} (ht : tkCd u (F 0) (G 1) t) (ho : tkOk t 0 = true) (hq : ∀ p, Q ((tkEv (tkN u x1 x2 x3) t []).headD 0) F (va_up G 0 p)) : qX3_value x1 x2 x3 F G Q := by
  refine ⟨t.length + 1, ?_⟩
  have h := s3_value_loop (Q := Q) (F := F) (G0 := G) (u := u) (x1 := x1) (x2 := x2) (x3 := x3) ht.1 ht.2.1 t 0 [] (G 0) (by omega) (fun i hi => by rw [Nat.zero_add]; exact ht.2.2.2 i hi) ht.2.2.1 trivial ho (by have := ht.2.1; simp; omega) hq
  rw [xup_self] at h
  exact h
/-- what a text gives depends on its names' values alone -/
theorem tkEv_congr {u : Nat} {n1 n2 : Nat → Int32} (hn : ∀ v, tkName u v → n1 v = n2 v) : ∀ (t : List (Nat × Nat)) (st : List Int32), (∀ q ∈ t, tkV u q) → tkEv n1 t st = tkEv n2 t st := by
  intro t
  induction t with
  | nil => intro st _; rfl
  | cons q t ih =>
    intro st hv
    obtain ⟨w, v⟩ := q
    have hv' : ∀ q ∈ t, tkV u q := fun q hq => hv q (List.mem_cons_of_mem _ hq)
    rcases hv _ List.mem_cons_self with ⟨rfl, _⟩ | ⟨rfl, h⟩ | ⟨rfl, _⟩ | ⟨rfl, _⟩
    · exact ih _ hv'
    · show tkEv n1 t (n1 v :: st) = tkEv n2 t (n2 v :: st)
      rw [hn v h]
      exact ih _ hv'
    · exact ih _ hv'
    · exact ih _ hv'
