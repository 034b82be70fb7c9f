/-! HOW LIKELY THE HOPPER RUNS DRY: the sums, and that they stay between nought and 2.0 -/
def Bd (x : UInt64) (X e : Nat) : Prop := Nn x ∧ fz x ≤ X ∧ (fz x = 0 ∨ 2 ^ e ≤ fz x)
/-- c endings of N -/
def shr (c N : Nat) : UInt64 := FP.ddiv (FP.i2d (nI c)) (FP.i2d (nI N))
theorem shr_ok {c N : Nat} (h1 : 1 ≤ c) (hc : c ≤ N) (hN : N ≤ 8000) : Nn (shr c N) ∧ fz (shr c N) * N ≤ c * fO + fd * N ∧ 2 ^ 1061 ≤ fz (shr c N) := by
  obtain ⟨a1, a2⟩ := i2d_ok (k := c) (by omega)
  obtain ⟨b1, b2⟩ := i2d_ok (k := N) (by omega)
  rw [fO_def] at a2 b2
  have h0 : 0 < fz (FP.i2d (nI N)) := by rw [b2]; exact Nat.mul_pos (by omega) fO_pos
  have h2 := div_up a1 b1 h0 (by
    rw [a2, b2]
    calc c * fO * fO ≤ N * fO * fO := Nat.mul_le_mul_right _ (Nat.mul_le_mul_right _ hc)
      _ ≤ 2 * (N * fO * fO) := by omega
      _ = 2 * fO * (N * fO) := by simp only [Nat.mul_assoc]; rw [Nat.mul_left_comm N fO fO])
  have h3 := div_ge a1 b1 h0 (k := 1061) (by decide) (by
    rw [a2, b2]
    have h4 : 2 ^ 1061 * N ≤ fO := by
      have h5 : (2 : Nat) ^ 1061 * 2 ^ 13 = fO := by rw [← Nat.pow_add]; rfl
      rw [← h5]; exact Nat.mul_le_mul_left _ (by omega)
    calc 2 ^ 1061 * (N * fO) = 2 ^ 1061 * N * fO := (Nat.mul_assoc _ _ _).symm
      _ ≤ fO * fO := Nat.mul_le_mul_right _ h4
      _ ≤ c * fO * fO := Nat.mul_le_mul_right _ (Nat.le_mul_of_pos_left _ (by omega)))
  refine ⟨h2.1, ?_, h3⟩
  have h6 := h2.2.2
  rw [a2, b2] at h6
  have h7 : fz (shr c N) * N * fO ≤ (c * fO + fd * N) * fO := by
    calc fz (shr c N) * N * fO = fz (FP.ddiv (FP.i2d (nI c)) (FP.i2d (nI N))) * (N * fO) := Nat.mul_assoc _ _ _
      _ ≤ c * fO * fO + fd * (N * fO) := h6
      _ = (c * fO + fd * N) * fO := by rw [Nat.add_mul, Nat.mul_assoc fd]
  exact Nat.le_of_mul_le_mul_right h7 fO_pos
/-- a bound that still leaves room below 2.0 -/
def XOK (X : Nat) : Prop := fO ≤ X ∧ X ≤ fO + 91000 * fd
theorem XOK.two {X : Nat} (h : XOK X) : X + 1820 * fd ≤ 2 * fO := by
  have h1 := fO_eq
  have h2 := h.2
  have h3 : 92820 * fd ≤ 2 ^ 52 * fd := Nat.mul_le_mul_right _ (by decide)
  omega
theorem XOK.mul {X s : Nat} (h : XOK X) (hs : s ≤ fO + fd) : s * X ≤ 2 * fO * fO := by
  have h1 : s ≤ (2 ^ 52 + 1) * fd := by rw [Nat.add_mul, ← fO_eq, Nat.one_mul]; exact hs
  have h2 : X ≤ (2 ^ 52 + 91000) * fd := by rw [Nat.add_mul, ← fO_eq]; exact h.2
  calc s * X ≤ (2 ^ 52 + 1) * fd * ((2 ^ 52 + 91000) * fd) := Nat.mul_le_mul h1 h2
    _ = (2 ^ 52 + 1) * (2 ^ 52 + 91000) * (fd * fd) := Nat.mul_mul_mul_comm _ _ _ _
    _ ≤ (2 * 2 ^ 52 * 2 ^ 52) * (fd * fd) := Nat.mul_le_mul_right _ (by decide)
    _ = 2 * fO * fO := by rw [fO_eq, Nat.mul_assoc 2, Nat.mul_assoc 2, Nat.mul_assoc 2, Nat.mul_mul_mul_comm (2 ^ 52) fd]
theorem prod_ok {s x : UInt64} {c N X e : Nat} (hX : XOK X) (hN : 1 ≤ N) (hc : c ≤ N) (s1 : Nn s) (s2 : fz s * N ≤ c * fO + fd * N) (s3 : 2 ^ 1061 ≤ fz s) (hx : Bd x X e) (he : 13 ≤ e) (he2 : e ≤ 1074) :
    Nn (FP.dmul s x) ∧ fz (FP.dmul s x) * N ≤ c * X + 3 * fd * N ∧ (fz (FP.dmul s x) = 0 ∨ 2 ^ (e - 13) ≤ fz (FP.dmul s x)) := by
  obtain ⟨x1, x2, x3⟩ := hx
  have hs : fz s ≤ fO + fd := by
    have h1 : fz s * N ≤ (fO + fd) * N := by
      rw [Nat.add_mul]
      have := Nat.mul_le_mul_right fO hc
      rw [Nat.mul_comm fO N]; omega
    exact Nat.le_of_mul_le_mul_right h1 (by omega)
  have hm := mul_up s1 x1 (Nat.le_trans (Nat.mul_le_mul_left _ x2) (hX.mul hs))
  refine ⟨hm.1, ?_, ?_⟩
  · have h2 := hm.2.2
    have hX2 : X ≤ 2 * fO := by have := hX.two; omega
    have h3 : fz (FP.dmul s x) * N * fO ≤ (c * X + 3 * fd * N) * fO := by
      calc fz (FP.dmul s x) * N * fO = fz (FP.dmul s x) * fO * N := Nat.mul_right_comm _ _ _
        _ ≤ (fz s * fz x + fd * fO) * N := Nat.mul_le_mul_right _ h2
        _ = fz s * N * fz x + fd * fO * N := by rw [Nat.add_mul, Nat.mul_right_comm]
        _ ≤ (c * fO + fd * N) * X + fd * fO * N := Nat.add_le_add_right (Nat.mul_le_mul s2 x2) _
        _ = c * fO * X + fd * N * X + fd * fO * N := by rw [Nat.add_mul]
        _ ≤ c * fO * X + fd * N * (2 * fO) + fd * fO * N := by have := Nat.mul_le_mul_left (fd * N) hX2; omega
        _ = (c * X + 3 * fd * N) * fO := by
          have e1 : c * fO * X = c * X * fO := Nat.mul_right_comm _ _ _
          have e2 : fd * N * (2 * fO) = 2 * (fd * N * fO) := by rw [Nat.mul_left_comm]
          have e3 : fd * fO * N = fd * N * fO := Nat.mul_right_comm _ _ _
          have e4 : 3 * fd * N * fO = 3 * (fd * N * fO) := by rw [Nat.mul_assoc 3, Nat.mul_assoc 3]
          rw [Nat.add_mul, e1, e2, e3, e4]; omega
    exact Nat.le_of_mul_le_mul_right h3 fO_pos
  · rcases x3 with x3 | x3
    · exact Or.inl (mul_0 s1 x1 (by rw [x3, Nat.mul_zero])).2
    · refine Or.inr (mul_ge s1 x1 (by omega) ?_)
      calc 2 ^ (e - 13) * fO = 2 ^ 1061 * 2 ^ e := by unfold fO; rw [← Nat.pow_add, ← Nat.pow_add]; congr 1; omega
        _ ≤ fz s * fz x := Nat.mul_le_mul s3 x3
/-- the sum over the first i pays: D is what one game less gives, h the coins -/
def dryS (cnt f : Nat → Nat) (N : Nat) (D : Nat → UInt64) (h : Nat) : Nat → UInt64
  | 0 => FP.dconst0
  | i + 1 => FP.dadd (dryS cnt f N D h i) (FP.dmul (shr (cnt (f i)) N) (if h < f i then FP.dconst1 else D (h - f i)))
def dryX (D : Nat → UInt64) (h v : Nat) : UInt64 := if h < v then FP.dconst1 else D (h - v)
theorem dryX_ok {D : Nat → UInt64} {h X e : Nat} (hX : XOK X) (hD : ∀ j, j ≤ h → Bd (D j) X e) (he2 : e ≤ 1074) (v : Nat) : Bd (dryX D h v) X e := by
  unfold dryX
  split
  · exact ⟨one_ok.1, by rw [one_ok.2, fO_def]; exact hX.1, Or.inr (by rw [one_ok.2]; exact Nat.pow_le_pow_right (by decide) he2)⟩
  · exact hD _ (by omega)
theorem dryP_ok {cnt f : Nat → Nat} {N sz : Nat} {D : Nat → UInt64} {h X e i : Nat} (hX : XOK X) (hD : ∀ j, j ≤ h → Bd (D j) X e) (he : 13 ≤ e) (he2 : e ≤ 1074) (hN : 1 ≤ N) (hN2 : N ≤ 8000) (hc1 : ∀ i, i < sz → 1 ≤ cnt (f i)) (hcs : ∀ i, i ≤ sz → sumN (fun j => cnt (f j)) i ≤ N) (hi : i < sz) :
    Nn (shr (cnt (f i)) N) ∧ Nn (FP.dmul (shr (cnt (f i)) N) (dryX D h (f i))) ∧ fz (FP.dmul (shr (cnt (f i)) N) (dryX D h (f i))) * N ≤ cnt (f i) * X + 3 * fd * N ∧ (fz (FP.dmul (shr (cnt (f i)) N) (dryX D h (f i))) = 0 ∨ 2 ^ (e - 13) ≤ fz (FP.dmul (shr (cnt (f i)) N) (dryX D h (f i)))) := by
  have hc : cnt (f i) ≤ N := by have := hcs (i + 1) hi; simp only [sumN] at this; omega
  obtain ⟨s1, s2, s3⟩ := shr_ok (hc1 i hi) hc hN2
  exact ⟨s1, prod_ok hX hN hc s1 s2 s3 (dryX_ok hX hD he2 (f i)) he he2⟩
theorem dryS_ok {cnt f : Nat → Nat} {N sz : Nat} {D : Nat → UInt64} {h X e : Nat} (hX : XOK X) (hD : ∀ j, j ≤ h → Bd (D j) X e) (he : 13 ≤ e) (he2 : e ≤ 1074) (hN : 1 ≤ N) (hN2 : N ≤ 8000) (hsz : sz ≤ 455) (hc1 : ∀ i, i < sz → 1 ≤ cnt (f i)) (hcs : ∀ i, i ≤ sz → sumN (fun j => cnt (f j)) i ≤ N) :
    ∀ i, i ≤ sz → Nn (dryS cnt f N D h i) ∧ fz (dryS cnt f N D h i) * N ≤ sumN (fun j => cnt (f j)) i * X + 4 * i * fd * N ∧ (fz (dryS cnt f N D h i) = 0 ∨ 2 ^ (e - 13) ≤ fz (dryS cnt f N D h i))
  | 0, _ => ⟨zero_ok.1, by unfold dryS; rw [zero_ok.2, Nat.zero_mul]; exact Nat.zero_le _, Or.inl zero_ok.2⟩
  | i + 1, hi => by
    obtain ⟨h1, h2, h3⟩ := dryS_ok hX hD he he2 hN hN2 hsz hc1 hcs i (by omega)
    obtain ⟨-, p1, p2, p3⟩ := dryP_ok (i := i) hX hD he he2 hN hN2 hc1 hcs (by omega)
    have hC := hcs (i + 1) hi
    simp only [sumN] at hC
    have h4 : (fz (dryS cnt f N D h i) + fz (FP.dmul (shr (cnt (f i)) N) (dryX D h (f i)))) * N ≤ (sumN (fun j => cnt (f j)) i + cnt (f i)) * X + (4 * i + 3) * fd * N := by
      have e1 : (4 * i + 3) * fd * N = 4 * i * fd * N + 3 * fd * N := by rw [Nat.add_mul, Nat.add_mul]
      rw [Nat.add_mul, Nat.add_mul, e1]; omega
    have h5 : fz (dryS cnt f N D h i) + fz (FP.dmul (shr (cnt (f i)) N) (dryX D h (f i))) ≤ X + 1820 * fd := by
      have h6 : (sumN (fun j => cnt (f j)) i + cnt (f i)) * X ≤ N * X := Nat.mul_le_mul_right _ hC
      have h7 : (4 * i + 3) * fd * N ≤ 1820 * fd * N := Nat.mul_le_mul_right _ (Nat.mul_le_mul_right _ (by omega))
      have h8 : (fz (dryS cnt f N D h i) + fz (FP.dmul (shr (cnt (f i)) N) (dryX D h (f i)))) * N ≤ (X + 1820 * fd) * N := by
        rw [Nat.add_mul X, Nat.mul_comm X N]; omega
      exact Nat.le_of_mul_le_mul_right h8 (by omega)
    have h9 := add_up h1 p1 (Nat.le_trans h5 hX.two)
    refine ⟨h9.1, ?_, ?_⟩
    · show fz (FP.dadd (dryS cnt f N D h i) (FP.dmul (shr (cnt (f i)) N) (dryX D h (f i)))) * N ≤ (sumN (fun j => cnt (f j)) i + cnt (f i)) * X + 4 * (i + 1) * fd * N
      have e2 : 4 * (i + 1) * fd * N = (4 * i + 3) * fd * N + fd * N := by
        rw [show 4 * (i + 1) = (4 * i + 3) + 1 by omega, Nat.add_mul (4 * i + 3) 1 fd, Nat.one_mul, Nat.add_mul]
      have h10 := Nat.mul_le_mul_right N h9.2.2
      rw [Nat.add_mul] at h10
      omega
    · show fz (FP.dadd (dryS cnt f N D h i) (FP.dmul (shr (cnt (f i)) N) (dryX D h (f i)))) = 0 ∨ _
      rcases h3 with h3 | h3
      · rcases p3 with p3 | p3
        · exact Or.inl (add_0 h1 p1 h3 p3)
        · exact Or.inr (add_ge h1 p1 (by omega) (by omega))
      · exact Or.inr (add_ge h1 p1 (by omega) (by omega))
/-- D(c, t) -/
def dryL (cnt f : Nat → Nat) (sz N L R : Nat) : Nat → Nat → UInt64
  | 0, _ => FP.dconst0
  | t + 1, c => dryS cnt f N (dryL cnt f sz N L R t) (min R (c + L)) sz
theorem dryL_ok {cnt f : Nat → Nat} {N sz L R : Nat} (hN : 1 ≤ N) (hN2 : N ≤ 8000) (hsz : sz ≤ 455) (hc1 : ∀ i, i < sz → 1 ≤ cnt (f i)) (hcs : ∀ i, i ≤ sz → sumN (fun j => cnt (f j)) i ≤ N) :
    ∀ t, t ≤ 50 → ∀ c, Bd (dryL cnt f sz N L R t c) (fO + t * 1820 * fd) (1074 - 13 * t)
  | 0, _, c => ⟨zero_ok.1, by unfold dryL; rw [zero_ok.2]; exact Nat.zero_le _, Or.inl zero_ok.2⟩
  | t + 1, ht, c => by
    have hX : XOK (fO + t * 1820 * fd) := ⟨by omega, by have := Nat.mul_le_mul_right fd (show t * 1820 ≤ 91000 by omega); omega⟩
    have h1 := dryS_ok (D := dryL cnt f sz N L R t) (h := min R (c + L)) hX (fun j _ => dryL_ok (L := L) (R := R) hN hN2 hsz hc1 hcs t (by omega) j) (by omega) (by omega) hN hN2 hsz hc1 hcs sz (Nat.le_refl _)
    refine ⟨h1.1, ?_, ?_⟩
    · have h2 := h1.2.1
      have h3 : sumN (fun j => cnt (f j)) sz * (fO + t * 1820 * fd) ≤ N * (fO + t * 1820 * fd) := Nat.mul_le_mul_right _ (hcs sz (Nat.le_refl _))
      have h4 : 4 * sz * fd * N ≤ 1820 * fd * N := Nat.mul_le_mul_right _ (Nat.mul_le_mul_right _ (by omega))
      have h5 : fz (dryL cnt f sz N L R (t + 1) c) * N ≤ (fO + (t + 1) * 1820 * fd) * N := by
        have e1 : (fO + (t + 1) * 1820 * fd) * N = N * (fO + t * 1820 * fd) + 1820 * fd * N := by
          rw [Nat.mul_comm N, ← Nat.add_mul, Nat.add_assoc, ← Nat.add_mul, show t * 1820 + 1820 = (t + 1) * 1820 by omega]
        rw [e1]
        exact Nat.le_trans h2 (by omega)
      exact Nat.le_of_mul_le_mul_right h5 (by omega)
    · have h6 := h1.2.2
      rw [show 1074 - 13 * t - 13 = 1074 - 13 * (t + 1) by omega] at h6
      exact h6
