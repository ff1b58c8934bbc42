/-! numbers: int literals as nI, ranges -/
theorem xlit (n : Nat) : (OfNat.ofNat n : Int32) = nI n := rfl
theorem xvin {k N : Nat} (h : k < N) (hN : N < 2 ^ 31) : vp_in (nI k) N := vp_in_nI h hN
theorem xst_eq (G : xA) (k j : Nat) (x : Int32) : xst G k j x k j = x := by simp [xst, va_up, upd]
theorem xst_at (G : xA) (k j : Nat) (x : Int32) : xst G k j x k = upd (G k) j x := by simp [xst, va_up]
theorem xst_ne {G : xA} {k j m : Nat} {x : Int32} (h : m ≠ k) : xst G k j x m = G m := by simp [xst, va_up, h]
theorem upd_at (f : Nat → Int32) (k : Nat) (x : Int32) : upd f k x k = x := by simp [upd]
theorem upd_ne {f : Nat → Int32} {k j : Nat} {x : Int32} (h : j ≠ k) : upd f k x j = f j := by simp [upd, h]
/-! the reference's smallest methods -/
theorem s7_in {x lo hi : Int32} {Q : Int32 → Prop} (h : Q (if x < lo then 0 else if hi < x then 0 else 1)) : qX7_in x lo hi Q := by
  refine ⟨fun c => ?_, fun c => ⟨fun d => ?_, fun d => ?_⟩⟩
  · rw [if_pos c] at h; exact h
  · rw [if_neg c, if_pos d] at h; exact h
  · rw [if_neg c, if_neg d] at h; exact h
theorem s7_held {x lo hi : Int32} {Q : Int32 → Prop} (h : Q (if x < lo then lo else if hi < x then hi else x)) : qX7_held x lo hi Q := by
  refine ⟨fun c => ?_, fun c => ⟨fun d => ?_, fun d => ?_⟩⟩
  · first | (rw [if_pos c] at h; exact h) | (rw [if_neg c] at h; exact h)
  · first | (rw [if_neg c, if_pos d] at h; exact h) | (rw [if_neg c, if_neg d] at h; exact h)
  · first | (rw [if_neg c, if_neg d] at h; exact h) | (rw [if_neg c, if_pos d] at h; exact h)
theorem s7_its {f what : Nat} (hf : f < 9) (hw : what < 9) {F : xF} {G : xA} {Q : Int32 → xF → xA → Prop} (h : Q (G 0 (40 + 9 * f + what)) F G) : qX7_its (nI f) (nI what) F G Q := by
  have e : ((40 : Int32) + (9 : Int32) * nI f) + nI what = nI (40 + 9 * f + what) := by
    rw [show (40 : Int32) = nI 40 from rfl, show (9 : Int32) = nI 9 from rfl, pk_mul, nI_add, nI_add]
  unfold qX7_its
  rw [e, nI_clamp (by omega)]
  exact ⟨xvin (by omega) (by omega), h⟩
theorem s7_lays1 {f what : Nat} (hf : f < 9) (hw : what < 9) {x : Int32} {F : xF} {G : xA} {Q : xF → xA → Prop} (h : Q F (xst G 0 (40 + 9 * f + what) x)) : qX7_lays1 (nI f) (nI what) x F G Q := by
  have e : ((40 : Int32) + (9 : Int32) * nI f) + nI what = nI (40 + 9 * f + what) := by
    rw [show (40 : Int32) = nI 40 from rfl, show (9 : Int32) = nI 9 from rfl, pk_mul, nI_add, nI_add]
  unfold qX7_lays1
  rw [e, nI_clamp (by omega)]
  exact ⟨xvin (by omega) (by omega), fun _ e => by rw [e]; exact h⟩
