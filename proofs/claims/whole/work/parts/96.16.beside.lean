/-! the oak that lies one way from another; -1: none -/
def nxv (a way : Nat) : Int32 := if way = 0 then (if 4 ≤ a then nI (a - 4) else -1) else if way = 1 then (if a % 4 = 3 then -1 else nI (a + 1)) else if way = 2 then (if 12 ≤ a then -1 else nI (a + 4)) else (if a % 4 = 0 then -1 else nI (a - 1))
theorem rem4 {a : Nat} (ha : a < 16) : nI a - nI a / (4 : Int32) * (4 : Int32) = nI (a % 4) := pk_rem (d := 4) (by omega) (by omega) (by omega)
theorem s7_next {a way : Nat} (ha : a < 16) (hw : way < 4) {Q : Int32 → Prop} (h : Q (nxv a way)) : qX7_next (nI a) (nI way) Q := by
  unfold qX7_next
  rw [rem4 ha]
  have hm : a % 4 < 4 := Nat.mod_lt _ (by omega)
  rcases (by omega : way = 0 ∨ way = 1 ∨ way = 2 ∨ way = 3) with rfl | rfl | rfl | rfl
  · refine ⟨fun _ => ⟨fun c => ?_, fun c => ?_⟩, fun c => absurd rfl c⟩
    · have c' : 4 ≤ a := (nI_leI (by omega) (by omega)).mp (show nI 4 ≤ nI a from c)
      rw [show (4 : Int32) = nI 4 from rfl, pk_sub c']
      simpa [nxv, c'] using h
    · have c' : ¬ 4 ≤ a := fun q => c (show nI 4 ≤ nI a from nI_le q (by omega))
      simpa [nxv, c'] using h
  · refine ⟨fun c => absurd c (by decide), fun _ => ⟨fun _ => ⟨fun c => ?_, fun c => ?_⟩, fun c => absurd rfl c⟩⟩
    · have c' : ¬ a % 4 = 3 := fun q => c (by rw [q]; rfl)
      rw [show nI a + (1 : Int32) = nI (a + 1) from nI_1 a]
      simpa [nxv, c'] using h
    · have c' : a % 4 = 3 := (nI_eq (by omega) (by omega)).mp (show nI (a % 4) = nI 3 from c)
      simpa [nxv, c'] using h
  · refine ⟨fun c => absurd c (by decide), fun _ => ⟨fun c => absurd c (by decide), fun _ => ⟨fun _ => ?_, fun c => absurd rfl c⟩⟩⟩
    rw [show nI a + (4 : Int32) = nI (a + 4) from nI_add a 4]
    refine ⟨fun c => ?_, fun c => ?_⟩
    · have c' : 12 ≤ a := by have := (nI_leI (by omega) (by omega)).mp (show nI 16 ≤ nI (a + 4) from c); omega
      simpa [nxv, c'] using h
    · have c' : ¬ 12 ≤ a := fun q => c (show nI 16 ≤ nI (a + 4) from nI_le (by omega) (by omega))
      simpa [nxv, c'] using h
  · refine ⟨fun c => absurd c (by decide), fun _ => ⟨fun c => absurd c (by decide), fun _ => ⟨fun c => absurd c (by decide), fun _ => ⟨fun _ => ⟨fun c => ?_, fun c => ?_⟩, fun c => absurd rfl c⟩⟩⟩⟩
    · have c' : ¬ a % 4 = 0 := fun q => c (by rw [q]; rfl)
      rw [show (1 : Int32) = nI 1 from rfl, pk_sub (show 1 ≤ a by omega)]
      simpa [nxv, c'] using h
    · have c' : a % 4 = 0 := (nI_eq (by omega) (by omega)).mp (show nI (a % 4) = nI 0 from c)
      simpa [nxv, c'] using h
theorem s5_beside {a way : Nat} (ha : a < 16) (hw : way < 4) {Q : Int32 → Prop} (h : Q (nxv a way)) : qX5_beside (nI a) (nI way) Q := by
  unfold qX5_beside
  rw [rem4 ha]
  have hm : a % 4 < 4 := Nat.mod_lt _ (by omega)
  rcases (by omega : way = 0 ∨ way = 1 ∨ way = 2 ∨ way = 3) with rfl | rfl | rfl | rfl
  · refine ⟨fun _ => ⟨fun c => ?_, fun c => ?_⟩, fun c => absurd rfl c⟩
    · have c' : ¬ 4 ≤ a := by have := (nI_ltI (by omega) (by omega)).mp (show nI a < nI 4 from c); omega
      simpa [nxv, c'] using h
    · have c' : 4 ≤ a := by
        have := mt (nI_ltI (a := a) (b := 4) (by omega) (by omega)).mpr (show ¬ nI a < nI 4 from c); omega
      rw [show (4 : Int32) = nI 4 from rfl, pk_sub c']
      simpa [nxv, c'] using h
  · refine ⟨fun c => absurd c (by decide), fun _ => ⟨fun _ => ⟨fun c => ?_, fun c => ?_⟩, fun c => absurd rfl c⟩⟩
    · have c' : a % 4 = 3 := by have := (nI_leI (by omega) (by omega)).mp (show nI 3 ≤ nI (a % 4) from c); omega
      simpa [nxv, c'] using h
    · have c' : ¬ a % 4 = 3 := fun q => c (show nI 3 ≤ nI (a % 4) from nI_le (by omega) (by omega))
      rw [show nI a + (1 : Int32) = nI (a + 1) from nI_1 a]
      simpa [nxv, c'] using h
  · refine ⟨fun c => absurd c (by decide), fun _ => ⟨fun c => absurd c (by decide), fun _ => ⟨fun _ => ⟨fun c => ?_, fun c => ?_⟩, fun c => absurd rfl c⟩⟩⟩
    · have c' : 12 ≤ a := (nI_leI (by omega) (by omega)).mp (show nI 12 ≤ nI a from c)
      simpa [nxv, c'] using h
    · have c' : ¬ 12 ≤ a := fun q => c (show nI 12 ≤ nI a from nI_le q (by omega))
      rw [show nI a + (4 : Int32) = nI (a + 4) from nI_add a 4]
      simpa [nxv, c'] using h
  · refine ⟨fun c => absurd c (by decide), fun _ => ⟨fun c => absurd c (by decide), fun _ => ⟨fun c => absurd c (by decide), fun _ => ⟨fun _ => ⟨fun c => ?_, fun c => ?_⟩, fun c => absurd rfl c⟩⟩⟩⟩
    · have c' : a % 4 = 0 := by have := (nI_leI (by omega) (by omega)).mp (show nI (a % 4) ≤ nI 0 from c); omega
      simpa [nxv, c'] using h
    · have c' : ¬ a % 4 = 0 := fun q => c (show nI (a % 4) ≤ nI 0 from nI_le (by omega) (by omega))
      rw [show (1 : Int32) = nI 1 from rfl, pk_sub (show 1 ≤ a by omega)]
      simpa [nxv, c'] using h
