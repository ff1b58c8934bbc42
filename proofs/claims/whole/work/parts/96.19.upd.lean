/-! one number of the world stored: both pictures, ranges -/
theorem R5_s_rain {w : wW} {t0 t1 : wT} {F : xF} {G : xA} {v : Nat} (h : R5 w t0 t1 F G) : R5 (wU w 1 v) t0 t1 (va_up F 0 (nI v)) G := by
  obtain ⟨⟨f0, f1, f2, f3⟩, c0, c1, c2, c3, c4, c5, c6, c7, c8, c9⟩ := h
  refine ⟨⟨by rw [vu_at, wU_at], by rw [vu_ne (by omega), wU_ne (by omega)]; exact f1, by rw [vu_ne (by omega), wU_ne (by omega)]; exact f2, by rw [vu_ne (by omega), wU_ne (by omega)]; exact f3⟩, fun b hb => ?_, fun b hb => ?_, fun b hb => ?_, fun b hb => ?_, fun b hb => ?_, fun b hb => ?_, fun b hb => ?_, fun b hb j hj => ?_, by rw [vu_ne (by omega)]; exact c8, by rw [vu_ne (by omega)]; exact c9⟩
  · rw [c0 b hb]; unfold wO; rw [wU_ne (by omega)]
  · rw [c1 b hb]; unfold wD; rw [wU_ne (by omega)]
  · rw [c2 b hb]; unfold wF; rw [wU_ne (by omega)]
  · rw [c3 b hb]; unfold wF; rw [wU_ne (by omega)]
  · rw [c4 b hb]; unfold wF; rw [wU_ne (by omega)]
  · rw [c5 b hb]; unfold wF; rw [wU_ne (by omega)]
  · rw [c6 b hb]; unfold wF; rw [wU_ne (by omega)]
  · rw [c7 b hb j hj]; unfold wF; rw [wU_ne (by omega)]
theorem R5_s_place {w : wW} {t0 t1 : wT} {F : xF} {G : xA} {v : Nat} (h : R5 w t0 t1 F G) : R5 (wU w 2 v) t0 t1 (va_up F 1 (nI v)) G := by
  obtain ⟨⟨f0, f1, f2, f3⟩, c0, c1, c2, c3, c4, c5, c6, c7, c8, c9⟩ := h
  refine ⟨⟨by rw [vu_ne (by omega), wU_ne (by omega)]; exact f0, by rw [vu_at, wU_at], by rw [vu_ne (by omega), wU_ne (by omega)]; exact f2, by rw [vu_ne (by omega), wU_ne (by omega)]; exact f3⟩, fun b hb => ?_, fun b hb => ?_, fun b hb => ?_, fun b hb => ?_, fun b hb => ?_, fun b hb => ?_, fun b hb => ?_, fun b hb j hj => ?_, by rw [vu_ne (by omega)]; exact c8, by rw [vu_ne (by omega)]; exact c9⟩
  · rw [c0 b hb]; unfold wO; rw [wU_ne (by omega)]
  · rw [c1 b hb]; unfold wD; rw [wU_ne (by omega)]
  · rw [c2 b hb]; unfold wF; rw [wU_ne (by omega)]
  · rw [c3 b hb]; unfold wF; rw [wU_ne (by omega)]
  · rw [c4 b hb]; unfold wF; rw [wU_ne (by omega)]
  · rw [c5 b hb]; unfold wF; rw [wU_ne (by omega)]
  · rw [c6 b hb]; unfold wF; rw [wU_ne (by omega)]
  · rw [c7 b hb j hj]; unfold wF; rw [wU_ne (by omega)]
theorem R5_s_hunger {w : wW} {t0 t1 : wT} {F : xF} {G : xA} {v : Nat} (h : R5 w t0 t1 F G) : R5 (wU w 3 v) t0 t1 (va_up F 2 (nI v)) G := by
  obtain ⟨⟨f0, f1, f2, f3⟩, c0, c1, c2, c3, c4, c5, c6, c7, c8, c9⟩ := h
  refine ⟨⟨by rw [vu_ne (by omega), wU_ne (by omega)]; exact f0, by rw [vu_ne (by omega), wU_ne (by omega)]; exact f1, by rw [vu_at, wU_at], by rw [vu_ne (by omega), wU_ne (by omega)]; exact f3⟩, fun b hb => ?_, fun b hb => ?_, fun b hb => ?_, fun b hb => ?_, fun b hb => ?_, fun b hb => ?_, fun b hb => ?_, fun b hb j hj => ?_, by rw [vu_ne (by omega)]; exact c8, by rw [vu_ne (by omega)]; exact c9⟩
  · rw [c0 b hb]; unfold wO; rw [wU_ne (by omega)]
  · rw [c1 b hb]; unfold wD; rw [wU_ne (by omega)]
  · rw [c2 b hb]; unfold wF; rw [wU_ne (by omega)]
  · rw [c3 b hb]; unfold wF; rw [wU_ne (by omega)]
  · rw [c4 b hb]; unfold wF; rw [wU_ne (by omega)]
  · rw [c5 b hb]; unfold wF; rw [wU_ne (by omega)]
  · rw [c6 b hb]; unfold wF; rw [wU_ne (by omega)]
  · rw [c7 b hb j hj]; unfold wF; rw [wU_ne (by omega)]
theorem R5_s_day {w : wW} {t0 t1 : wT} {F : xF} {G : xA} {v : Nat} (h : R5 w t0 t1 F G) : R5 (wU w 0 v) t0 t1 (va_up F 3 (nI v)) G := by
  obtain ⟨⟨f0, f1, f2, f3⟩, c0, c1, c2, c3, c4, c5, c6, c7, c8, c9⟩ := h
  refine ⟨⟨by rw [vu_ne (by omega), wU_ne (by omega)]; exact f0, by rw [vu_ne (by omega), wU_ne (by omega)]; exact f1, by rw [vu_ne (by omega), wU_ne (by omega)]; exact f2, by rw [vu_at, wU_at]⟩, fun b hb => ?_, fun b hb => ?_, fun b hb => ?_, fun b hb => ?_, fun b hb => ?_, fun b hb => ?_, fun b hb => ?_, fun b hb j hj => ?_, by rw [vu_ne (by omega)]; exact c8, by rw [vu_ne (by omega)]; exact c9⟩
  · rw [c0 b hb]; unfold wO; rw [wU_ne (by omega)]
  · rw [c1 b hb]; unfold wD; rw [wU_ne (by omega)]
  · rw [c2 b hb]; unfold wF; rw [wU_ne (by omega)]
  · rw [c3 b hb]; unfold wF; rw [wU_ne (by omega)]
  · rw [c4 b hb]; unfold wF; rw [wU_ne (by omega)]
  · rw [c5 b hb]; unfold wF; rw [wU_ne (by omega)]
  · rw [c6 b hb]; unfold wF; rw [wU_ne (by omega)]
  · rw [c7 b hb j hj]; unfold wF; rw [wU_ne (by omega)]
theorem R5_s_owner {w : wW} {t0 t1 : wT} {F : xF} {G : xA} {v a : Nat} (h : R5 w t0 t1 F G) (hv : a < 16) : R5 (wU w (8 + a) v) t0 t1 F (xst G 0 (a) (nI v)) := by
  obtain ⟨⟨f0, f1, f2, f3⟩, c0, c1, c2, c3, c4, c5, c6, c7, c8, c9⟩ := h
  refine ⟨⟨by rw [wU_ne (by omega)]; exact f0, by rw [wU_ne (by omega)]; exact f1, by rw [wU_ne (by omega)]; exact f2, by rw [wU_ne (by omega)]; exact f3⟩, fun b hb => ?_, fun b hb => ?_, fun b hb => ?_, fun b hb => ?_, fun b hb => ?_, fun b hb => ?_, fun b hb => ?_, fun b hb j hj => ?_, by rw [xst_ne (by omega)]; exact c8, by rw [xst_ne (by omega)]; exact c9⟩
  · rw [xst_at]
    by_cases e : b = a
    · subst e; rw [upd_at]; unfold wO; rw [wU_at]
    · rw [upd_ne e, c0 b hb]; unfold wO; rw [wU_ne (by omega)]
  · rw [xst_ne (by omega), c1 b hb]; unfold wD; rw [wU_ne (by omega)]
  · rw [xst_ne (by omega), c2 b hb]; unfold wF; rw [wU_ne (by omega)]
  · rw [xst_ne (by omega), c3 b hb]; unfold wF; rw [wU_ne (by omega)]
  · rw [xst_ne (by omega), c4 b hb]; unfold wF; rw [wU_ne (by omega)]
  · rw [xst_ne (by omega), c5 b hb]; unfold wF; rw [wU_ne (by omega)]
  · rw [xst_ne (by omega), c6 b hb]; unfold wF; rw [wU_ne (by omega)]
  · rw [xst_ne (by omega), c7 b hb j hj]; unfold wF; rw [wU_ne (by omega)]
theorem R5_s_under {w : wW} {t0 t1 : wT} {F : xF} {G : xA} {v a : Nat} (h : R5 w t0 t1 F G) (hv : a < 16) : R5 (wU w (24 + a) v) t0 t1 F (xst G 1 (a) (nI v)) := by
  obtain ⟨⟨f0, f1, f2, f3⟩, c0, c1, c2, c3, c4, c5, c6, c7, c8, c9⟩ := h
  refine ⟨⟨by rw [wU_ne (by omega)]; exact f0, by rw [wU_ne (by omega)]; exact f1, by rw [wU_ne (by omega)]; exact f2, by rw [wU_ne (by omega)]; exact f3⟩, fun b hb => ?_, fun b hb => ?_, fun b hb => ?_, fun b hb => ?_, fun b hb => ?_, fun b hb => ?_, fun b hb => ?_, fun b hb j hj => ?_, by rw [xst_ne (by omega)]; exact c8, by rw [xst_ne (by omega)]; exact c9⟩
  · rw [xst_ne (by omega), c0 b hb]; unfold wO; rw [wU_ne (by omega)]
  · rw [xst_at]
    by_cases e : b = a
    · subst e; rw [upd_at]; unfold wD; rw [wU_at]
    · rw [upd_ne e, c1 b hb]; unfold wD; rw [wU_ne (by omega)]
  · rw [xst_ne (by omega), c2 b hb]; unfold wF; rw [wU_ne (by omega)]
  · rw [xst_ne (by omega), c3 b hb]; unfold wF; rw [wU_ne (by omega)]
  · rw [xst_ne (by omega), c4 b hb]; unfold wF; rw [wU_ne (by omega)]
  · rw [xst_ne (by omega), c5 b hb]; unfold wF; rw [wU_ne (by omega)]
  · rw [xst_ne (by omega), c6 b hb]; unfold wF; rw [wU_ne (by omega)]
  · rw [xst_ne (by omega), c7 b hb j hj]; unfold wF; rw [wU_ne (by omega)]
theorem R5_s_kind {w : wW} {t0 t1 : wT} {F : xF} {G : xA} {v f : Nat} (h : R5 w t0 t1 F G) (hv : f < 9) : R5 (wU w (40 + 9 * f + 0) v) t0 t1 F (xst G 2 (f) (nI v)) := by
  obtain ⟨⟨f0, f1, f2, f3⟩, c0, c1, c2, c3, c4, c5, c6, c7, c8, c9⟩ := h
  refine ⟨⟨by rw [wU_ne (by omega)]; exact f0, by rw [wU_ne (by omega)]; exact f1, by rw [wU_ne (by omega)]; exact f2, by rw [wU_ne (by omega)]; exact f3⟩, fun b hb => ?_, fun b hb => ?_, fun b hb => ?_, fun b hb => ?_, fun b hb => ?_, fun b hb => ?_, fun b hb => ?_, fun b hb j hj => ?_, by rw [xst_ne (by omega)]; exact c8, by rw [xst_ne (by omega)]; exact c9⟩
  · rw [xst_ne (by omega), c0 b hb]; unfold wO; rw [wU_ne (by omega)]
  · rw [xst_ne (by omega), c1 b hb]; unfold wD; rw [wU_ne (by omega)]
  · rw [xst_at]
    by_cases e : b = f
    · subst e; rw [upd_at]; unfold wF; rw [wU_at]
    · rw [upd_ne e, c2 b hb]; unfold wF; rw [wU_ne (by omega)]
  · rw [xst_ne (by omega), c3 b hb]; unfold wF; rw [wU_ne (by omega)]
  · rw [xst_ne (by omega), c4 b hb]; unfold wF; rw [wU_ne (by omega)]
  · rw [xst_ne (by omega), c5 b hb]; unfold wF; rw [wU_ne (by omega)]
  · rw [xst_ne (by omega), c6 b hb]; unfold wF; rw [wU_ne (by omega)]
  · rw [xst_ne (by omega), c7 b hb j hj]; unfold wF; rw [wU_ne (by omega)]
theorem R5_s_mark {w : wW} {t0 t1 : wT} {F : xF} {G : xA} {v f : Nat} (h : R5 w t0 t1 F G) (hv : f < 9) : R5 (wU w (40 + 9 * f + 1) v) t0 t1 F (xst G 3 (f) (nI v)) := by
  obtain ⟨⟨f0, f1, f2, f3⟩, c0, c1, c2, c3, c4, c5, c6, c7, c8, c9⟩ := h
  refine ⟨⟨by rw [wU_ne (by omega)]; exact f0, by rw [wU_ne (by omega)]; exact f1, by rw [wU_ne (by omega)]; exact f2, by rw [wU_ne (by omega)]; exact f3⟩, fun b hb => ?_, fun b hb => ?_, fun b hb => ?_, fun b hb => ?_, fun b hb => ?_, fun b hb => ?_, fun b hb => ?_, fun b hb j hj => ?_, by rw [xst_ne (by omega)]; exact c8, by rw [xst_ne (by omega)]; exact c9⟩
  · rw [xst_ne (by omega), c0 b hb]; unfold wO; rw [wU_ne (by omega)]
  · rw [xst_ne (by omega), c1 b hb]; unfold wD; rw [wU_ne (by omega)]
  · rw [xst_ne (by omega), c2 b hb]; unfold wF; rw [wU_ne (by omega)]
  · rw [xst_at]
    by_cases e : b = f
    · subst e; rw [upd_at]; unfold wF; rw [wU_at]
    · rw [upd_ne e, c3 b hb]; unfold wF; rw [wU_ne (by omega)]
  · rw [xst_ne (by omega), c4 b hb]; unfold wF; rw [wU_ne (by omega)]
  · rw [xst_ne (by omega), c5 b hb]; unfold wF; rw [wU_ne (by omega)]
  · rw [xst_ne (by omega), c6 b hb]; unfold wF; rw [wU_ne (by omega)]
  · rw [xst_ne (by omega), c7 b hb j hj]; unfold wF; rw [wU_ne (by omega)]
theorem R5_s_purse {w : wW} {t0 t1 : wT} {F : xF} {G : xA} {v f : Nat} (h : R5 w t0 t1 F G) (hv : f < 9) : R5 (wU w (40 + 9 * f + 2) v) t0 t1 F (xst G 4 (f) (nI v)) := by
  obtain ⟨⟨f0, f1, f2, f3⟩, c0, c1, c2, c3, c4, c5, c6, c7, c8, c9⟩ := h
  refine ⟨⟨by rw [wU_ne (by omega)]; exact f0, by rw [wU_ne (by omega)]; exact f1, by rw [wU_ne (by omega)]; exact f2, by rw [wU_ne (by omega)]; exact f3⟩, fun b hb => ?_, fun b hb => ?_, fun b hb => ?_, fun b hb => ?_, fun b hb => ?_, fun b hb => ?_, fun b hb => ?_, fun b hb j hj => ?_, by rw [xst_ne (by omega)]; exact c8, by rw [xst_ne (by omega)]; exact c9⟩
  · rw [xst_ne (by omega), c0 b hb]; unfold wO; rw [wU_ne (by omega)]
  · rw [xst_ne (by omega), c1 b hb]; unfold wD; rw [wU_ne (by omega)]
  · rw [xst_ne (by omega), c2 b hb]; unfold wF; rw [wU_ne (by omega)]
  · rw [xst_ne (by omega), c3 b hb]; unfold wF; rw [wU_ne (by omega)]
  · rw [xst_at]
    by_cases e : b = f
    · subst e; rw [upd_at]; unfold wF; rw [wU_at]
    · rw [upd_ne e, c4 b hb]; unfold wF; rw [wU_ne (by omega)]
  · rw [xst_ne (by omega), c5 b hb]; unfold wF; rw [wU_ne (by omega)]
  · rw [xst_ne (by omega), c6 b hb]; unfold wF; rw [wU_ne (by omega)]
  · rw [xst_ne (by omega), c7 b hb j hj]; unfold wF; rw [wU_ne (by omega)]
theorem R5_s_hid {w : wW} {t0 t1 : wT} {F : xF} {G : xA} {v f : Nat} (h : R5 w t0 t1 F G) (hv : f < 9) : R5 (wU w (40 + 9 * f + 3) v) t0 t1 F (xst G 5 (f) (nI v)) := by
  obtain ⟨⟨f0, f1, f2, f3⟩, c0, c1, c2, c3, c4, c5, c6, c7, c8, c9⟩ := h
  refine ⟨⟨by rw [wU_ne (by omega)]; exact f0, by rw [wU_ne (by omega)]; exact f1, by rw [wU_ne (by omega)]; exact f2, by rw [wU_ne (by omega)]; exact f3⟩, fun b hb => ?_, fun b hb => ?_, fun b hb => ?_, fun b hb => ?_, fun b hb => ?_, fun b hb => ?_, fun b hb => ?_, fun b hb j hj => ?_, by rw [xst_ne (by omega)]; exact c8, by rw [xst_ne (by omega)]; exact c9⟩
  · rw [xst_ne (by omega), c0 b hb]; unfold wO; rw [wU_ne (by omega)]
  · rw [xst_ne (by omega), c1 b hb]; unfold wD; rw [wU_ne (by omega)]
  · rw [xst_ne (by omega), c2 b hb]; unfold wF; rw [wU_ne (by omega)]
  · rw [xst_ne (by omega), c3 b hb]; unfold wF; rw [wU_ne (by omega)]
  · rw [xst_ne (by omega), c4 b hb]; unfold wF; rw [wU_ne (by omega)]
  · rw [xst_at]
    by_cases e : b = f
    · subst e; rw [upd_at]; unfold wF; rw [wU_at]
    · rw [upd_ne e, c5 b hb]; unfold wF; rw [wU_ne (by omega)]
  · rw [xst_ne (by omega), c6 b hb]; unfold wF; rw [wU_ne (by omega)]
  · rw [xst_ne (by omega), c7 b hb j hj]; unfold wF; rw [wU_ne (by omega)]
theorem R5_s_turn {w : wW} {t0 t1 : wT} {F : xF} {G : xA} {v f : Nat} (h : R5 w t0 t1 F G) (hv : f < 9) : R5 (wU w (40 + 9 * f + 4) v) t0 t1 F (xst G 6 (f) (nI v)) := by
  obtain ⟨⟨f0, f1, f2, f3⟩, c0, c1, c2, c3, c4, c5, c6, c7, c8, c9⟩ := h
  refine ⟨⟨by rw [wU_ne (by omega)]; exact f0, by rw [wU_ne (by omega)]; exact f1, by rw [wU_ne (by omega)]; exact f2, by rw [wU_ne (by omega)]; exact f3⟩, fun b hb => ?_, fun b hb => ?_, fun b hb => ?_, fun b hb => ?_, fun b hb => ?_, fun b hb => ?_, fun b hb => ?_, fun b hb j hj => ?_, by rw [xst_ne (by omega)]; exact c8, by rw [xst_ne (by omega)]; exact c9⟩
  · rw [xst_ne (by omega), c0 b hb]; unfold wO; rw [wU_ne (by omega)]
  · rw [xst_ne (by omega), c1 b hb]; unfold wD; rw [wU_ne (by omega)]
  · rw [xst_ne (by omega), c2 b hb]; unfold wF; rw [wU_ne (by omega)]
  · rw [xst_ne (by omega), c3 b hb]; unfold wF; rw [wU_ne (by omega)]
  · rw [xst_ne (by omega), c4 b hb]; unfold wF; rw [wU_ne (by omega)]
  · rw [xst_ne (by omega), c5 b hb]; unfold wF; rw [wU_ne (by omega)]
  · rw [xst_at]
    by_cases e : b = f
    · subst e; rw [upd_at]; unfold wF; rw [wU_at]
    · rw [upd_ne e, c6 b hb]; unfold wF; rw [wU_ne (by omega)]
  · rw [xst_ne (by omega), c7 b hb j hj]; unfold wF; rw [wU_ne (by omega)]
theorem R5_s_leash {w : wW} {t0 t1 : wT} {F : xF} {G : xA} {v f i : Nat} (h : R5 w t0 t1 F G) (hv : f < 9) (hi : i < 4) : R5 (wU w (40 + 9 * f + (5 + i)) v) t0 t1 F (xst G 7 (4 * f + i) (nI v)) := by
  obtain ⟨⟨f0, f1, f2, f3⟩, c0, c1, c2, c3, c4, c5, c6, c7, c8, c9⟩ := h
  refine ⟨⟨by rw [wU_ne (by omega)]; exact f0, by rw [wU_ne (by omega)]; exact f1, by rw [wU_ne (by omega)]; exact f2, by rw [wU_ne (by omega)]; exact f3⟩, fun b hb => ?_, fun b hb => ?_, fun b hb => ?_, fun b hb => ?_, fun b hb => ?_, fun b hb => ?_, fun b hb => ?_, fun b hb j hj => ?_, by rw [xst_ne (by omega)]; exact c8, by rw [xst_ne (by omega)]; exact c9⟩
  · rw [xst_ne (by omega), c0 b hb]; unfold wO; rw [wU_ne (by omega)]
  · rw [xst_ne (by omega), c1 b hb]; unfold wD; rw [wU_ne (by omega)]
  · rw [xst_ne (by omega), c2 b hb]; unfold wF; rw [wU_ne (by omega)]
  · rw [xst_ne (by omega), c3 b hb]; unfold wF; rw [wU_ne (by omega)]
  · rw [xst_ne (by omega), c4 b hb]; unfold wF; rw [wU_ne (by omega)]
  · rw [xst_ne (by omega), c5 b hb]; unfold wF; rw [wU_ne (by omega)]
  · rw [xst_ne (by omega), c6 b hb]; unfold wF; rw [wU_ne (by omega)]
  · rw [xst_at]
    by_cases e : 4 * b + j = 4 * f + i
    · obtain rfl : b = f := by omega
      obtain rfl : j = i := by omega
      rw [upd_at]; unfold wF; rw [wU_at]
    · rw [upd_ne e, c7 b hb j hj]; unfold wF; rw [wU_ne (by omega)]
theorem Wok_s_rain {w : wW} {v : Nat} (h : Wok w) (hx : v ≤ 9) : Wok (wU w (1) v) := by
  obtain ⟨a1, a2, a3, a4, a5, a6, a7⟩ := h
  refine ⟨?_, ?_, ?_, fun b hb => ⟨?_, ?_⟩, fun b hb => ⟨?_, ?_, ?_, ?_, ?_⟩, fun b hb j hj => ?_, fun d hd => ?_⟩
  · rw [wU_at]; exact hx
  · rw [wU_ne (by omega)]; exact a2
  · rw [wU_ne (by omega)]; exact a3
  · unfold wO; rw [wU_ne (by omega)]; exact (a4 b hb).1
  · unfold wD; rw [wU_ne (by omega)]; exact (a4 b hb).2
  · unfold wF; rw [wU_ne (by omega)]; exact (a5 b hb).1
  · unfold wF; rw [wU_ne (by omega)]; exact (a5 b hb).2.1
  · unfold wF; rw [wU_ne (by omega)]; exact (a5 b hb).2.2.1
  · unfold wF; rw [wU_ne (by omega)]; exact (a5 b hb).2.2.2.1
  · unfold wF; rw [wU_ne (by omega)]; exact (a5 b hb).2.2.2.2
  · unfold wF; rw [wU_ne (by omega)]; exact a6 b hb j hj
  · obtain ⟨f', hf', q⟩ := a7 d hd
    exact ⟨f', hf', by unfold wF; rw [wU_ne (by omega)]; exact q⟩
theorem Wok_s_place {w : wW} {v : Nat} (h : Wok w) (hx : v < 16) : Wok (wU w (2) v) := by
  obtain ⟨a1, a2, a3, a4, a5, a6, a7⟩ := h
  refine ⟨?_, ?_, ?_, fun b hb => ⟨?_, ?_⟩, fun b hb => ⟨?_, ?_, ?_, ?_, ?_⟩, fun b hb j hj => ?_, fun d hd => ?_⟩
  · rw [wU_ne (by omega)]; exact a1
  · rw [wU_at]; exact hx
  · rw [wU_ne (by omega)]; exact a3
  · unfold wO; rw [wU_ne (by omega)]; exact (a4 b hb).1
  · unfold wD; rw [wU_ne (by omega)]; exact (a4 b hb).2
  · unfold wF; rw [wU_ne (by omega)]; exact (a5 b hb).1
  · unfold wF; rw [wU_ne (by omega)]; exact (a5 b hb).2.1
  · unfold wF; rw [wU_ne (by omega)]; exact (a5 b hb).2.2.1
  · unfold wF; rw [wU_ne (by omega)]; exact (a5 b hb).2.2.2.1
  · unfold wF; rw [wU_ne (by omega)]; exact (a5 b hb).2.2.2.2
  · unfold wF; rw [wU_ne (by omega)]; exact a6 b hb j hj
  · obtain ⟨f', hf', q⟩ := a7 d hd
    exact ⟨f', hf', by unfold wF; rw [wU_ne (by omega)]; exact q⟩
theorem Wok_s_hunger {w : wW} {v : Nat} (h : Wok w) (hx : v ≤ 9) : Wok (wU w (3) v) := by
  obtain ⟨a1, a2, a3, a4, a5, a6, a7⟩ := h
  refine ⟨?_, ?_, ?_, fun b hb => ⟨?_, ?_⟩, fun b hb => ⟨?_, ?_, ?_, ?_, ?_⟩, fun b hb j hj => ?_, fun d hd => ?_⟩
  · rw [wU_ne (by omega)]; exact a1
  · rw [wU_ne (by omega)]; exact a2
  · rw [wU_at]; exact hx
  · unfold wO; rw [wU_ne (by omega)]; exact (a4 b hb).1
  · unfold wD; rw [wU_ne (by omega)]; exact (a4 b hb).2
  · unfold wF; rw [wU_ne (by omega)]; exact (a5 b hb).1
  · unfold wF; rw [wU_ne (by omega)]; exact (a5 b hb).2.1
  · unfold wF; rw [wU_ne (by omega)]; exact (a5 b hb).2.2.1
  · unfold wF; rw [wU_ne (by omega)]; exact (a5 b hb).2.2.2.1
  · unfold wF; rw [wU_ne (by omega)]; exact (a5 b hb).2.2.2.2
  · unfold wF; rw [wU_ne (by omega)]; exact a6 b hb j hj
  · obtain ⟨f', hf', q⟩ := a7 d hd
    exact ⟨f', hf', by unfold wF; rw [wU_ne (by omega)]; exact q⟩
theorem Wok_s_day {w : wW} {v : Nat} (h : Wok w) : Wok (wU w (0) v) := by
  obtain ⟨a1, a2, a3, a4, a5, a6, a7⟩ := h
  refine ⟨?_, ?_, ?_, fun b hb => ⟨?_, ?_⟩, fun b hb => ⟨?_, ?_, ?_, ?_, ?_⟩, fun b hb j hj => ?_, fun d hd => ?_⟩
  · rw [wU_ne (by omega)]; exact a1
  · rw [wU_ne (by omega)]; exact a2
  · rw [wU_ne (by omega)]; exact a3
  · unfold wO; rw [wU_ne (by omega)]; exact (a4 b hb).1
  · unfold wD; rw [wU_ne (by omega)]; exact (a4 b hb).2
  · unfold wF; rw [wU_ne (by omega)]; exact (a5 b hb).1
  · unfold wF; rw [wU_ne (by omega)]; exact (a5 b hb).2.1
  · unfold wF; rw [wU_ne (by omega)]; exact (a5 b hb).2.2.1
  · unfold wF; rw [wU_ne (by omega)]; exact (a5 b hb).2.2.2.1
  · unfold wF; rw [wU_ne (by omega)]; exact (a5 b hb).2.2.2.2
  · unfold wF; rw [wU_ne (by omega)]; exact a6 b hb j hj
  · obtain ⟨f', hf', q⟩ := a7 d hd
    exact ⟨f', hf', by unfold wF; rw [wU_ne (by omega)]; exact q⟩
theorem Wok_s_owner {w : wW} {v a : Nat} (h : Wok w) (hv : a < 16) (hx : v < 9) : Wok (wU w (8 + a) v) := by
  obtain ⟨a1, a2, a3, a4, a5, a6, a7⟩ := h
  refine ⟨?_, ?_, ?_, fun b hb => ⟨?_, ?_⟩, fun b hb => ⟨?_, ?_, ?_, ?_, ?_⟩, fun b hb j hj => ?_, fun d hd => ?_⟩
  · rw [wU_ne (by omega)]; exact a1
  · rw [wU_ne (by omega)]; exact a2
  · rw [wU_ne (by omega)]; exact a3
  · unfold wO
    by_cases e : b = a
    · subst e; rw [wU_at]; exact hx
    · rw [wU_ne (by omega)]; exact (a4 b hb).1
  · unfold wD; rw [wU_ne (by omega)]; exact (a4 b hb).2
  · unfold wF; rw [wU_ne (by omega)]; exact (a5 b hb).1
  · unfold wF; rw [wU_ne (by omega)]; exact (a5 b hb).2.1
  · unfold wF; rw [wU_ne (by omega)]; exact (a5 b hb).2.2.1
  · unfold wF; rw [wU_ne (by omega)]; exact (a5 b hb).2.2.2.1
  · unfold wF; rw [wU_ne (by omega)]; exact (a5 b hb).2.2.2.2
  · unfold wF; rw [wU_ne (by omega)]; exact a6 b hb j hj
  · obtain ⟨f', hf', q⟩ := a7 d hd
    exact ⟨f', hf', by unfold wF; rw [wU_ne (by omega)]; exact q⟩
theorem Wok_s_under {w : wW} {v a : Nat} (h : Wok w) (hv : a < 16) (hx : v ≤ 999) : Wok (wU w (24 + a) v) := by
  obtain ⟨a1, a2, a3, a4, a5, a6, a7⟩ := h
  refine ⟨?_, ?_, ?_, fun b hb => ⟨?_, ?_⟩, fun b hb => ⟨?_, ?_, ?_, ?_, ?_⟩, fun b hb j hj => ?_, fun d hd => ?_⟩
  · rw [wU_ne (by omega)]; exact a1
  · rw [wU_ne (by omega)]; exact a2
  · rw [wU_ne (by omega)]; exact a3
  · unfold wO; rw [wU_ne (by omega)]; exact (a4 b hb).1
  · unfold wD
    by_cases e : b = a
    · subst e; rw [wU_at]; exact hx
    · rw [wU_ne (by omega)]; exact (a4 b hb).2
  · unfold wF; rw [wU_ne (by omega)]; exact (a5 b hb).1
  · unfold wF; rw [wU_ne (by omega)]; exact (a5 b hb).2.1
  · unfold wF; rw [wU_ne (by omega)]; exact (a5 b hb).2.2.1
  · unfold wF; rw [wU_ne (by omega)]; exact (a5 b hb).2.2.2.1
  · unfold wF; rw [wU_ne (by omega)]; exact (a5 b hb).2.2.2.2
  · unfold wF; rw [wU_ne (by omega)]; exact a6 b hb j hj
  · obtain ⟨f', hf', q⟩ := a7 d hd
    exact ⟨f', hf', by unfold wF; rw [wU_ne (by omega)]; exact q⟩
theorem Wok_s_kind {w : wW} {v f : Nat} (h : Wok w) (hv : f < 9) (hx : v ≤ 6) : Wok (wU w (40 + 9 * f + 0) v) := by
  obtain ⟨a1, a2, a3, a4, a5, a6, a7⟩ := h
  refine ⟨?_, ?_, ?_, fun b hb => ⟨?_, ?_⟩, fun b hb => ⟨?_, ?_, ?_, ?_, ?_⟩, fun b hb j hj => ?_, fun d hd => ?_⟩
  · rw [wU_ne (by omega)]; exact a1
  · rw [wU_ne (by omega)]; exact a2
  · rw [wU_ne (by omega)]; exact a3
  · unfold wO; rw [wU_ne (by omega)]; exact (a4 b hb).1
  · unfold wD; rw [wU_ne (by omega)]; exact (a4 b hb).2
  · unfold wF
    by_cases e : b = f
    · subst e; rw [wU_at]; exact hx
    · rw [wU_ne (by omega)]; exact (a5 b hb).1
  · unfold wF; rw [wU_ne (by omega)]; exact (a5 b hb).2.1
  · unfold wF; rw [wU_ne (by omega)]; exact (a5 b hb).2.2.1
  · unfold wF; rw [wU_ne (by omega)]; exact (a5 b hb).2.2.2.1
  · unfold wF; rw [wU_ne (by omega)]; exact (a5 b hb).2.2.2.2
  · unfold wF; rw [wU_ne (by omega)]; exact a6 b hb j hj
  · obtain ⟨f', hf', q⟩ := a7 d hd
    exact ⟨f', hf', by unfold wF; rw [wU_ne (by omega)]; exact q⟩
theorem Wok_s_mark {w : wW} {v f : Nat} (h : Wok w) (hv : f < 9) (hx : v ≤ 9) : Wok (wU w (40 + 9 * f + 1) v) := by
  obtain ⟨a1, a2, a3, a4, a5, a6, a7⟩ := h
  refine ⟨?_, ?_, ?_, fun b hb => ⟨?_, ?_⟩, fun b hb => ⟨?_, ?_, ?_, ?_, ?_⟩, fun b hb j hj => ?_, fun d hd => ?_⟩
  · rw [wU_ne (by omega)]; exact a1
  · rw [wU_ne (by omega)]; exact a2
  · rw [wU_ne (by omega)]; exact a3
  · unfold wO; rw [wU_ne (by omega)]; exact (a4 b hb).1
  · unfold wD; rw [wU_ne (by omega)]; exact (a4 b hb).2
  · unfold wF; rw [wU_ne (by omega)]; exact (a5 b hb).1
  · unfold wF
    by_cases e : b = f
    · subst e; rw [wU_at]; exact hx
    · rw [wU_ne (by omega)]; exact (a5 b hb).2.1
  · unfold wF; rw [wU_ne (by omega)]; exact (a5 b hb).2.2.1
  · unfold wF; rw [wU_ne (by omega)]; exact (a5 b hb).2.2.2.1
  · unfold wF; rw [wU_ne (by omega)]; exact (a5 b hb).2.2.2.2
  · unfold wF; rw [wU_ne (by omega)]; exact a6 b hb j hj
  · obtain ⟨f', hf', q⟩ := a7 d hd
    exact ⟨f', hf', by unfold wF; rw [wU_ne (by omega)]; exact q⟩
theorem Wok_s_purse {w : wW} {v f : Nat} (h : Wok w) (hv : f < 9) (hx : v ≤ 99999999) : Wok (wU w (40 + 9 * f + 2) v) := by
  obtain ⟨a1, a2, a3, a4, a5, a6, a7⟩ := h
  refine ⟨?_, ?_, ?_, fun b hb => ⟨?_, ?_⟩, fun b hb => ⟨?_, ?_, ?_, ?_, ?_⟩, fun b hb j hj => ?_, fun d hd => ?_⟩
  · rw [wU_ne (by omega)]; exact a1
  · rw [wU_ne (by omega)]; exact a2
  · rw [wU_ne (by omega)]; exact a3
  · unfold wO; rw [wU_ne (by omega)]; exact (a4 b hb).1
  · unfold wD; rw [wU_ne (by omega)]; exact (a4 b hb).2
  · unfold wF; rw [wU_ne (by omega)]; exact (a5 b hb).1
  · unfold wF; rw [wU_ne (by omega)]; exact (a5 b hb).2.1
  · unfold wF
    by_cases e : b = f
    · subst e; rw [wU_at]; exact hx
    · rw [wU_ne (by omega)]; exact (a5 b hb).2.2.1
  · unfold wF; rw [wU_ne (by omega)]; exact (a5 b hb).2.2.2.1
  · unfold wF; rw [wU_ne (by omega)]; exact (a5 b hb).2.2.2.2
  · unfold wF; rw [wU_ne (by omega)]; exact a6 b hb j hj
  · obtain ⟨f', hf', q⟩ := a7 d hd
    exact ⟨f', hf', by unfold wF; rw [wU_ne (by omega)]; exact q⟩
theorem Wok_s_hid {w : wW} {v f : Nat} (h : Wok w) (hv : f < 9) (hx : v ≤ 99999999) : Wok (wU w (40 + 9 * f + 3) v) := by
  obtain ⟨a1, a2, a3, a4, a5, a6, a7⟩ := h
  refine ⟨?_, ?_, ?_, fun b hb => ⟨?_, ?_⟩, fun b hb => ⟨?_, ?_, ?_, ?_, ?_⟩, fun b hb j hj => ?_, fun d hd => ?_⟩
  · rw [wU_ne (by omega)]; exact a1
  · rw [wU_ne (by omega)]; exact a2
  · rw [wU_ne (by omega)]; exact a3
  · unfold wO; rw [wU_ne (by omega)]; exact (a4 b hb).1
  · unfold wD; rw [wU_ne (by omega)]; exact (a4 b hb).2
  · unfold wF; rw [wU_ne (by omega)]; exact (a5 b hb).1
  · unfold wF; rw [wU_ne (by omega)]; exact (a5 b hb).2.1
  · unfold wF; rw [wU_ne (by omega)]; exact (a5 b hb).2.2.1
  · unfold wF
    by_cases e : b = f
    · subst e; rw [wU_at]; exact hx
    · rw [wU_ne (by omega)]; exact (a5 b hb).2.2.2.1
  · unfold wF; rw [wU_ne (by omega)]; exact (a5 b hb).2.2.2.2
  · unfold wF; rw [wU_ne (by omega)]; exact a6 b hb j hj
  · obtain ⟨f', hf', q⟩ := a7 d hd
    exact ⟨f', hf', by unfold wF; rw [wU_ne (by omega)]; exact q⟩
theorem Wok_s_leash {w : wW} {v f i : Nat} (h : Wok w) (hv : f < 9) (hi : i < 4) (hx : v ≤ 4) : Wok (wU w (40 + 9 * f + (5 + i)) v) := by
  obtain ⟨a1, a2, a3, a4, a5, a6, a7⟩ := h
  refine ⟨?_, ?_, ?_, fun b hb => ⟨?_, ?_⟩, fun b hb => ⟨?_, ?_, ?_, ?_, ?_⟩, fun b hb j hj => ?_, fun d hd => ?_⟩
  · rw [wU_ne (by omega)]; exact a1
  · rw [wU_ne (by omega)]; exact a2
  · rw [wU_ne (by omega)]; exact a3
  · unfold wO; rw [wU_ne (by omega)]; exact (a4 b hb).1
  · unfold wD; rw [wU_ne (by omega)]; exact (a4 b hb).2
  · unfold wF; rw [wU_ne (by omega)]; exact (a5 b hb).1
  · unfold wF; rw [wU_ne (by omega)]; exact (a5 b hb).2.1
  · unfold wF; rw [wU_ne (by omega)]; exact (a5 b hb).2.2.1
  · unfold wF; rw [wU_ne (by omega)]; exact (a5 b hb).2.2.2.1
  · unfold wF; rw [wU_ne (by omega)]; exact (a5 b hb).2.2.2.2
  · unfold wF
    by_cases e : 4 * b + j = 4 * f + i
    · obtain rfl : b = f := by omega
      obtain rfl : j = i := by omega
      rw [wU_at]; exact hx
    · rw [wU_ne (by omega)]; exact a6 b hb j hj
  · obtain ⟨f', hf', q⟩ := a7 d hd
    exact ⟨f', hf', by unfold wF; rw [wU_ne (by omega)]; exact q⟩
