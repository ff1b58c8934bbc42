/-! numbers: int literals as nI, ranges -/
theorem xlit (n : Nat) : (OfNat.ofNat n : Int32) = nI n := rfl
theorem xvin {k N : Nat} (h : k < N) (hN : N < 2 ^ 31) : vp_in (nI k) N := vp_in_nI h hN
theorem xst_eq (G : xA) (k j : Nat) (x : Int32) : xst G k j x k j = x := by simp [xst, va_up, upd]
theorem xst_at (G : xA) (k j : Nat) (x : Int32) : xst G k j x k = upd (G k) j x := by simp [xst, va_up]
theorem xst_ne {G : xA} {k j m : Nat} {x : Int32} (h : m ≠ k) : xst G k j x m = G m := by simp [xst, va_up, h]
theorem upd_at (f : Nat → Int32) (k : Nat) (x : Int32) : upd f k x k = x := by simp [upd]
theorem upd_ne {f : Nat → Int32} {k j : Nat} {x : Int32} (h : j ≠ k) : upd f k x j = f j := by simp [upd, h]
/-! the reference's smallest methods -/
theorem s7_in {x lo hi : Int32} {Q : Int32 → Prop} (h : Q (if x < lo then 0 else if hi < x then 0 else 1)) : qX7_in x lo hi Q := by
  refine ⟨fun c => ?_, fun c => ⟨fun d => ?_, fun d => ?_⟩⟩
  · rw [if_pos c] at h; exact h
  · rw [if_neg c, if_pos d] at h; exact h
  · rw [if_neg c, if_neg d] at h; exact h
theorem s7_held {x lo hi : Int32} {Q : Int32 → Prop} (h : Q (if lo ≤ x then (if x ≤ hi then x else hi) else lo)) : qX7_held x lo hi Q := by
  refine ⟨fun c => ⟨fun d => ?_, fun d => ?_⟩, fun c => ?_⟩
  · rw [if_pos c, if_pos d] at h; exact h
  · rw [if_pos c, if_neg d] at h; exact h
  · rw [if_neg c] at h; exact h
theorem s6_within {x lo hi : Int32} {Q : Int32 → Prop} (h : Q (if x < lo then 0 else if hi < x then 0 else 1)) : qX6_within x lo hi Q := by
  refine ⟨fun c => ?_, fun c => ⟨fun d => ?_, fun d => ?_⟩⟩
  · rw [if_pos c] at h; exact h
  · rw [if_neg c, if_pos d] at h; exact h
  · rw [if_neg c, if_neg d] at h; exact h
theorem s7_its {f what : Nat} (hf : f < 9) (hw : what < 9) {F : xF} {G : xA} {Q : Int32 → xF → xA → Prop} (h : Q (G 0 (40 + 9 * f + what)) F G) : qX7_its (nI f) (nI what) F G Q := by
  have e : ((40 : Int32) + (9 : Int32) * nI f) + nI what = nI (40 + 9 * f + what) := by
    rw [show (40 : Int32) = nI 40 from rfl, show (9 : Int32) = nI 9 from rfl, pk_mul, nI_add, nI_add]
  unfold qX7_its
  rw [e, nI_clamp (by omega)]
  exact ⟨xvin (by omega) (by omega), h⟩
theorem s7_lays1 {f what : Nat} (hf : f < 9) (hw : what < 9) {x : Int32} {F : xF} {G : xA} {Q : xF → xA → Prop} (h : Q F (xst G 0 (40 + 9 * f + what) x)) : qX7_lays1 (nI f) (nI what) x F G Q := by
  have e : ((40 : Int32) + (9 : Int32) * nI f) + nI what = nI (40 + 9 * f + what) := by
    rw [show (40 : Int32) = nI 40 from rfl, show (9 : Int32) = nI 9 from rfl, pk_mul, nI_add, nI_add]
  unfold qX7_lays1
  rw [e, nI_clamp (by omega)]
  exact ⟨xvin (by omega) (by omega), fun _ e => by rw [e]; exact h⟩

/-- a range asked of an int: it lies in it, or the answer is no, on both sides -/
theorem xrng (x : Int32) (n : Nat) (hn : n < 2 ^ 31) : (x < 0 ∨ nI n < x) ∨ ∃ k : Nat, k ≤ n ∧ x = nI k := by
  rcases pk_ix x hn with h | h | ⟨j, hj, e⟩
  · exact Or.inl (Or.inl h)
  · by_cases he : x = nI n
    · exact Or.inr ⟨n, Nat.le_refl n, he⟩
    · refine Or.inl (Or.inr ?_)
      rw [Int32.lt_iff_toInt_lt]
      rw [Int32.le_iff_toInt_le] at h
      have h1 : x.toInt ≠ (nI n).toInt := fun q => he (Int32.toInt_inj.mp q)
      omega
  · exact Or.inr ⟨j, by omega, e⟩
theorem s7_in_no {x : Int32} {n : Nat} {Q : Int32 → Prop} (h : x < 0 ∨ nI n < x) (q : Q 0) : qX7_in x 0 (nI n) Q := s7_in (by
  by_cases c : x < 0
  · rw [if_pos c]; exact q
  · rcases h with h | h
    · exact absurd h c
    · rw [if_neg c, if_pos h]; exact q)
theorem s7_in_yes {k n : Nat} {Q : Int32 → Prop} (hk : k ≤ n) (hn : n < 2 ^ 31) (q : Q 1) : qX7_in (nI k) 0 (nI n) Q := s7_in (by
  rw [if_neg (nI_pos (by omega)), if_neg (nI_nlt hk hn)]; exact q)
theorem s6_within_no {x : Int32} {n : Nat} {Q : Int32 → Prop} (h : x < 0 ∨ nI n < x) (q : Q 0) : qX6_within x 0 (nI n) Q := s6_within (by
  by_cases c : x < 0
  · rw [if_pos c]; exact q
  · rcases h with h | h
    · exact absurd h c
    · rw [if_neg c, if_pos h]; exact q)
theorem s6_within_yes {k n : Nat} {Q : Int32 → Prop} (hk : k ≤ n) (hn : n < 2 ^ 31) (q : Q 1) : qX6_within (nI k) 0 (nI n) Q := s6_within (by
  rw [if_neg (nI_pos (by omega)), if_neg (nI_nlt hk hn)]; exact q)
/-- an error: its number's count grows, the answer is LOW less the number -/
theorem s7_error {k : Nat} (hk : k < 7) {F : xF} {G : xA} {Q : Int32 → xF → xA → Prop} (h : Q ((-1000000000 : Int32) - nI k) F (xst G 3 k (G 3 k + 1))) : qX7_error (nI k) F G Q := by
  unfold qX7_error
  rw [nI_clamp (by omega)]
  exact ⟨xvin hk (by omega), xvin hk (by omega), fun _ e => by rw [e]; exact h⟩
theorem s6_error {k : Nat} (hk : k < 7) {F : xF} {G : xA} {Q : Int32 → xF → xA → Prop} (h : Q ((-1000000000 : Int32) - nI k) F (xst G 62 k (G 62 k + 1))) : qX6_error (nI k) F G Q := by
  unfold qX6_error
  rw [nI_clamp (by omega)]
  exact ⟨xvin hk (by omega), xvin hk (by omega), fun _ e => by rw [e]; exact h⟩
theorem s7_change1 {k : Nat} (hk : k < 455) {x : Int32} {F : xF} {G : xA} {Q : Int32 → xF → xA → Prop} (h : Q (G 0 k) F (xst G 0 k x)) : qX7_change1 (nI k) x F G Q := by
  unfold qX7_change1
  rw [nI_clamp (by omega)]
  exact ⟨xvin hk (by omega), xvin hk (by omega), fun _ e => by rw [e]; exact h⟩
