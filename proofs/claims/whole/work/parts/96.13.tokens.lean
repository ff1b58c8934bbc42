/-! a text as tokens (what, v): 0 a number, 1 a name, 2 not, 3 a sign; worked on a pile, the top first -/
def tkOk : List (Nat × Nat) → Nat → Bool
  | [], d => d == 1
  | (w, _) :: t, d => if w ≤ 1 then tkOk t (d + 1) else if w = 2 then decide (1 ≤ d) && tkOk t d else decide (2 ≤ d) && tkOk t (d - 1)
def tkSign (v : Nat) : Prop := v = 38 ∨ v = 42 ∨ v = 43 ∨ v = 45 ∨ v = 47 ∨ v = 60 ∨ v = 61 ∨ v = 62 ∨ v = 124 ∨ v = 37
/-- the names of a use, as places 0, 1, 2: f h m; u a h -/
def tkNm (u : Nat) (v : Nat) : Nat := if u = 0 then (if v = 102 then 0 else if v = 104 then 1 else 2) else (if v = 117 then 0 else if v = 97 then 1 else 2)
def tkName (u v : Nat) : Prop := if u = 0 then (v = 102 ∨ v = 104 ∨ v = 109) else (v = 117 ∨ v = 97 ∨ v = 104)
def tkV (u : Nat) (q : Nat × Nat) : Prop := (q.1 = 0 ∧ q.2 ≤ 9999) ∨ (q.1 = 1 ∧ tkName u q.2) ∨ (q.1 = 2 ∧ q.2 = 0) ∨ (q.1 = 3 ∧ tkSign q.2)
/-- the class's code of a token -/
def tkC (u : Nat) (q : Nat × Nat) : Nat := if q.1 = 0 then q.2 else if q.1 = 1 then 10000 + tkNm u q.2 else if q.1 = 2 then 20033 else 20000 + q.2
def tkEv (nm : Nat → Int32) : List (Nat × Nat) → List Int32 → List Int32
  | [], st => st
  | (w, v) :: t, st => if w = 0 then tkEv nm t (nI v :: st) else if w = 1 then tkEv nm t (nm v :: st) else if w = 2 then tkEv nm t ((if st.headD 0 = 0 then 1 else 0) :: st.drop 1) else tkEv nm t (jn (nI v) ((st.drop 1).headD 0) (st.headD 0) :: st.drop 2)
/-- a row holds a pile: the bottom at 0 -/
def tkP : (Nat → Int32) → List Int32 → Prop
  | _, [] => True
  | p, x :: r => p r.length = x ∧ tkP p r
theorem tkP_upd {p : Nat → Int32} {k : Nat} {x : Int32} : ∀ {r : List Int32}, r.length ≤ k → tkP p r → tkP (upd p k x) r
  | [], _, _ => trivial
  | y :: r, h, q => by
    have h' : r.length + 1 ≤ k := h
    exact ⟨by rw [upd_ne (by omega)]; exact q.1, tkP_upd (by omega) q.2⟩
theorem tkP_push {p : Nat → Int32} {x : Int32} {r : List Int32} (h : tkP p r) : tkP (upd p r.length x) (x :: r) := ⟨upd_at _ _ _, tkP_upd (Nat.le_refl _) h⟩
theorem tkSign_c {v : Nat} (h : tkSign v) : nI v = 38 ∨ nI v = 42 ∨ nI v = 43 ∨ nI v = 45 ∨ nI v = 47 ∨ nI v = 60 ∨ nI v = 61 ∨ nI v = 62 ∨ nI v = 124 ∨ nI v = 37 := by
  rcases h with rfl | rfl | rfl | rfl | rfl | rfl | rfl | rfl | rfl | rfl <;> simp [xlit]
theorem tkName_lt {u v : Nat} (h : tkName u v) : v < 128 := by
  unfold tkName at h
  split at h <;> omega
