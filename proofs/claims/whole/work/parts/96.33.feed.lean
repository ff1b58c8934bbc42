/-! calls: bytes come to the tape -/
theorem fd_s1 : ∀ k : Fin 8, ((8 : Int32) * nI k.val).toInt64.toUInt64 &&& Int64.toUInt64 63 = UInt64.ofNat (8 * k.val) := by decide +kernel
theorem fd_s2 : ∀ k : Fin 8, ((8 : Int32) * nI k.val).toInt64 &&& 63 = Int64.ofNat (8 * k.val) := by decide +kernel
theorem fd_bit (v : BitVec 64) (s i : Nat) (hi : i < 32) (hs : s ≤ 56) : ((BitVec.signExtend 32 (v >>> s)).getLsbD i && (255#32).getLsbD i) = ((BitVec.signExtend 32 (v.sshiftRight s)).getLsbD i && (255#32).getLsbD i) := by
  by_cases c : i < 8
  · rw [BitVec.getLsbD_signExtend, BitVec.getLsbD_signExtend, if_pos (by omega), if_pos (by omega), BitVec.getLsbD_ushiftRight, BitVec.getLsbD_sshiftRight]
    simp [show s + i < 64 by omega, show ¬ 64 ≤ i by omega]
  · have h : (255#32).getLsbD i = false := by
      rw [BitVec.getLsbD_ofNat, Nat.testBit_lt_two_pow (Nat.lt_of_lt_of_le (show 255 < 2 ^ 8 by decide) (Nat.pow_le_pow_right (by decide) (by omega)))]
      simp
    rw [h]
    simp
theorem fd_b (x : Int64) {k : Nat} (hk : k < 8) : (((x.toUInt64 >>> (((8 : Int32) * nI k).toInt64.toUInt64 &&& Int64.toUInt64 63)).toInt64).toInt32 &&& (255 : Int32)) = ((x >>> (((8 : Int32) * nI k).toInt64 &&& 63)) &&& (255 : Int64)).toInt32 := by
  have h1 := fd_s1 ⟨k, hk⟩
  have h2 := fd_s2 ⟨k, hk⟩
  simp only at h1 h2
  rw [h1, h2, ← Int32.toBitVec_inj]
  apply BitVec.eq_of_getLsbD_eq
  intro i hi
  rcases (by omega : k = 0 ∨ k = 1 ∨ k = 2 ∨ k = 3 ∨ k = 4 ∨ k = 5 ∨ k = 6 ∨ k = 7) with rfl | rfl | rfl | rfl | rfl | rfl | rfl | rfl
  all_goals simp [Int32.toBitVec_and, Int64.toBitVec_and, UInt64.toBitVec_shiftRight, Int64.toBitVec_shiftRight]
  all_goals exact fd_bit _ _ _ hi (by omega)
def fdB (x : Int64) (i : Nat) : Int32 := ((x >>> (((8 : Int32) * nI i).toInt64 &&& 63)) &&& (255 : Int64)).toInt32
theorem c_feed : oX_feed jo_I := by
  intro x1 x3 F G F' G' hI
  obtain ⟨⟨⟨w, t0, t1, hw, hd, h0, h1, r5, r7, hz⟩, ⟨n, hn, n1, n2, n3⟩, hWt⟩, _, _, _, _, h5⟩ := id hI
  unfold qX6_feed
  rcases xrng1 x3 1 8 (by decide) (by decide) with h | ⟨m, hl, hm, rfl⟩
  · refine s6_inG_no (l := 1) (n := 8) h ?_; (first | refine pN1 ?_ | refine pN2 ?_); refine s6_error (k := 1) (by decide) ?_; unfold qX7_feed; refine s7_inG_no (l := 1) (n := 8) h ?_; (first | refine pN1 ?_ | refine pN2 ?_); exact c_err (k := 1) (by decide) hI
  refine s6_inG (l := 1) (n := 8) hl hm (by decide) ?_; (first | refine pY1 ?_ | refine pY2 ?_)
  rw [n1, nI_add]
  refine le_dec (b := 60) (by omega) (by decide) (fun c => ⟨m + 1, ?_⟩) (fun c => ?_)
  · have keyC : ∀ (Q : Int32 → xF → xA → Prop), (∀ E1 H1, E1 29 = nI (n + m) → (∀ k, k ≠ 29 → E1 k = F k) → (∀ k, k ≠ 56 → H1 k = G k) → (∀ i, i < n → H1 56 i = G 56 i) → (∀ i, i < m → H1 56 (n + i) = fdB x1 i) → Q (nI (n + m)) E1 H1) → ∀ (j k : Nat) (E1 : xF) (H1 : xA), k + j = m → E1 29 = nI (n + k) → (∀ k, k ≠ 29 → E1 k = F k) → (∀ k, k ≠ 56 → H1 k = G k) → (∀ i, i < n → H1 56 i = G 56 i) → (∀ i, i < k → H1 56 (n + i) = fdB x1 i) → qX6_feed_39 Q (j + 1) x1 (nI m) (nI k) E1 H1 := by
      intro Q hQ j
      induction j with
      | zero =>
        intro k E1 H1 hk e29 fE fH q1 q2
        obtain rfl : k = m := by omega
        exact ⟨fun _ => by rw [e29]; exact hQ E1 H1 e29 fE fH q1 q2, fun c => absurd (nI_le (Nat.le_refl _) (by omega)) c⟩
      | succ j ih =>
        intro k E1 H1 hk e29 fE fH q1 q2
        refine ⟨fun c => absurd c (nI_ge (by omega) (by omega)), fun _ => ?_⟩
        rw [fd_b x1 (by omega)]
        have f0 : xsub E1 29 0 = nI (n + k) := e29
        refine ⟨fun q => ?_, fun _ => ?_⟩
        · rw [f0] at q
          exact absurd (show nI 60 ≤ nI (n + k) from q) (nI_ge (by omega) (by omega))
        rw [f0]
        refine ⟨xvin (by omega) (by omega), fun G1 eG F1 eF E eE H eH => ?_⟩
        rw [nI_clamp (show n + k < 2 ^ 31 by omega)] at eG
        have E29 : E 29 = nI (n + (k + 1)) := by
          rw [eE, show xspl E1 29 1 F1 29 = F1 0 from xspl_in (o := 29) (k := 0) (by omega), eF, vu_at, nI_1, Nat.add_assoc]
        have H56 : H 56 = upd (H1 56) (n + k) (fdB x1 k) := by
          rw [eH, show xspl H1 56 1 G1 56 = G1 0 from xspl_in (o := 56) (k := 0) (by omega), eG, xst_at]; rfl
        rw [show nI k + (1 : Int32) = nI (k + 1) from nI_1 k]
        refine ih (k + 1) E H (by omega) E29 (fun i hi => by rw [eE, xspl_out (by omega)]; exact fE i hi) (fun i hi => by rw [eH, xspl_out (by omega)]; exact fH i hi) (fun i hi => by rw [H56, upd_ne (by omega)]; exact q1 i hi) (fun i hi => ?_)
        rw [H56]
        by_cases z : i = k
        · subst z; rw [upd_at]
        · rw [upd_ne (by omega)]; exact q2 i (by omega)
    have seven : ∀ {Q : Int32 → xF → xA → Prop}, (∀ G3, G3 0 4 = nI (n + m) → (∀ j, j ≠ 4 → j < 371 → G3 0 j = G' 0 j) → (∀ j, 431 ≤ j → G3 0 j = G' 0 j) → (∀ k, k ≠ 0 → G3 k = G' k) → (∀ i, i < n → G3 0 (371 + i) = G' 0 (371 + i)) → (∀ i, i < m → G3 0 (371 + (n + i)) = fdB x1 i) → Q (nI (n + m)) F' G3) → qX7_feed x1 (nI m) F' G' Q := by
      intro Q hQ
      unfold qX7_feed
      refine s7_inG (l := 1) (n := 8) hl hm (by decide) ?_; (first | refine pY1 ?_ | refine pY2 ?_)
      rw [n2, nI_add]
      refine le_dec (b := 60) (by omega) (by decide) (fun _ => ⟨m + 1, ?_⟩) (fun q => absurd q (by omega))
      have st : ∀ (j k : Nat) (G2 : xA), k + j = m → G2 0 4 = nI (n + k) → (∀ j, j ≠ 4 → j < 371 → G2 0 j = G' 0 j) → (∀ j, 431 ≤ j → G2 0 j = G' 0 j) → (∀ k, k ≠ 0 → G2 k = G' k) → (∀ i, i < n → G2 0 (371 + i) = G' 0 (371 + i)) → (∀ i, i < k → G2 0 (371 + (n + i)) = fdB x1 i) → qX7_feed_38 Q (j + 1) x1 (nI m) (nI k) F' G2 := by
        intro j
        induction j with
        | zero =>
          intro k G2 hk e4 a1 a2 a3 q1 q2
          obtain rfl : k = m := by omega
          exact ⟨fun _ => by rw [e4]; exact hQ G2 e4 a1 a2 a3 q1 q2, fun c => absurd (nI_le (Nat.le_refl _) (by omega)) c⟩
        | succ j ih =>
          intro k G2 hk e4 a1 a2 a3 q1 q2
          refine ⟨fun c => absurd c (nI_ge (by omega) (by omega)), fun _ => ?_⟩
          rw [e4, show (371 : Int32) + nI (n + k) = nI (371 + (n + k)) from nI_add 371 _, nI_clamp (show 371 + (n + k) < 2 ^ 31 by omega)]
          refine ⟨xvin (by omega) (by omega), fun G3 e3 G5 e5 => ?_⟩
          have z4 : G3 0 4 = nI (n + k) := by rw [e3, xst_at, upd_ne (by omega)]; exact e4
          rw [z4, nI_1, Nat.add_assoc] at e5
          rw [show nI k + (1 : Int32) = nI (k + 1) from nI_1 k]
          have s5 : ∀ j, j ≠ 4 → G5 0 j = upd (G2 0) (371 + (n + k)) (fdB x1 k) j := fun j hj => by rw [e5, xst_at, upd_ne hj, e3, xst_at]; rfl
          refine ih (k + 1) G5 (by omega) (by rw [e5, xst_at, upd_at]) (fun j h4 hj => by rw [s5 j h4, upd_ne (by omega)]; exact a1 j h4 hj) (fun j hj => by rw [s5 j (by omega), upd_ne (by omega)]; exact a2 j hj) (fun i hi => by rw [e5, xst_ne hi, e3, xst_ne hi]; exact a3 i hi) (fun i hi => by rw [s5 _ (by omega), upd_ne (by omega)]; exact q1 i hi) (fun i hi => ?_)
          rw [s5 _ (by omega)]
          by_cases z : i = k
          · subst z; rw [upd_at]
          · rw [upd_ne (by omega)]; exact q2 i (by omega)
      exact st m 0 G' (by omega) n2 (fun _ _ _ => rfl) (fun _ _ => rfl) (fun _ _ => rfl) (fun _ _ => rfl) (fun i hi => by omega)
    refine keyC _ (fun E1 H1 e29 fE fH q1 q2 => seven (fun G3 e4 a1 a2 a3 p1 p2 => ⟨rfl, ?_⟩)) m 0 F G (by omega) n1 (fun _ _ => rfl) (fun _ _ => rfl) (fun _ _ => rfl) (fun i hi => by omega)
    refine jo_of hI ⟨fun k hk => fE k (by omega), fun k hk => fH k (by omega)⟩ ⟨⟨rfl, rfl, rfl⟩, fun k hk => a3 k (by omega)⟩ ⟨⟨w, t0, t1, hw, hd, h0, h1, R5_c r5 (fun k hk _ => fE k (by omega)) (fun k hk => fH k (by omega)), ⟨fun k a b => by rw [a1 k (by omega) (by omega)]; exact r7.1 k a b, tkS_at (fun k a b => a1 k (by omega) (by omega)) r7.2.1, tkS_at (fun k a b => a1 k (by omega) (by omega)) r7.2.2⟩, by rw [fE 4 (by omega), a1 6 (by omega) (by omega)]; exact hz⟩, ⟨n + m, by omega, e29, e4, fun i hi => ?_⟩, ?_⟩
    · by_cases z : i < n
      · rw [q1 i z, p1 i z]; exact n3 i z
      · obtain ⟨j, rfl⟩ : ∃ j, i = n + j := ⟨i - n, by omega⟩
        rw [q2 j (by omega), p2 j (by omega)]
    · obtain ⟨m', a, b, d, e⟩ := hWt
      exact ⟨m', a, by rw [fE 30 (by omega)]; exact b, by rw [a1 5 (by omega) (by omega)]; exact d, fun i hi => by rw [fH 57 (by omega), a2 (431 + i) (by omega)]; exact e i hi⟩
  · refine s6_error (k := 4) (by decide) ?_; unfold qX7_feed; refine s7_inG (l := 1) (n := 8) hl hm (by decide) ?_; (first | refine pY1 ?_ | refine pY2 ?_); rw [n2, nI_add]; refine le_dec (b := 60) (by omega) (by decide) (fun q => absurd q (by omega)) (fun _ => ?_); exact c_err (k := 4) (by decide) hI
