/-! BOUNDS: the step of rounding below 2.0 is fd, 2^-52 -/
def fO : Nat := 2 ^ 1074
def fd : Nat := 2 ^ 1022
theorem fO_eq : fO = 2 ^ 52 * fd := by unfold fO fd; rw [← Nat.pow_add]
theorem fO_def : (2 : Nat) ^ 1074 = fO := rfl
theorem fd_pos : 0 < fd := Nat.two_pow_pos _
theorem fO_pos : 0 < fO := Nat.two_pow_pos _
/-- the multiple of fd at or above S * B, by B -/
theorem ceil_ex {S B : Nat} (hB : 0 < B) (h : S ≤ 2 * fO * B) : ∃ m, m ≤ 2 ^ 53 ∧ S ≤ m * fd * B ∧ m * fd * B ≤ S + fd * B := by
  refine ⟨(S + (fd * B - 1)) / (fd * B), ?_, ?_, ?_⟩
  · have hp : 0 < fd * B := Nat.mul_pos fd_pos hB
    have h1 : 2 * fO * B = 2 ^ 53 * (fd * B) := by rw [fO_eq, show (2 : Nat) ^ 53 = 2 * 2 ^ 52 by decide]; simp only [Nat.mul_assoc]
    rw [h1] at h
    have h2 : S + (fd * B - 1) < (2 ^ 53 + 1) * (fd * B) := by rw [Nat.add_mul, Nat.one_mul]; omega
    have h3 := (Nat.div_lt_iff_lt_mul hp).mpr h2
    omega
  · have hp : 0 < fd * B := Nat.mul_pos fd_pos hB
    have h4 := Nat.div_add_mod (S + (fd * B - 1)) (fd * B)
    have h5 := Nat.mod_lt (S + (fd * B - 1)) hp
    rw [Nat.mul_assoc, Nat.mul_comm ((S + (fd * B - 1)) / (fd * B))]
    omega
  · have hp : 0 < fd * B := Nat.mul_pos fd_pos hB
    have h4 := Nat.div_mul_le_self (S + (fd * B - 1)) (fd * B)
    rw [Nat.mul_assoc]
    omega
theorem rr_up {r : UInt64} {A B : Nat} {e e0 : Int} (h : FP.Core.val64 r = FP.Core.roundRatio FP.Core.b64 false A B e) (hB : 0 < B) (h0 : e0 ≤ FP.Core.b64.qmin) (h0e : e0 ≤ e) (hS : FP.Core.inUnits A e e0 ≤ 2 * fO * (2 ^ (FP.Core.b64.qmin - e0).toNat * B)) : Nn r ∧ fz r ≤ 2 * fO ∧ fz r * (2 ^ (FP.Core.b64.qmin - e0).toNat * B) ≤ FP.Core.inUnits A e e0 + fd * (2 ^ (FP.Core.b64.qmin - e0).toNat * B) := by
  have hp : 0 < 2 ^ (FP.Core.b64.qmin - e0).toNat * B := Nat.mul_pos (Nat.two_pow_pos _) hB
  obtain ⟨m, h1, h2, h3⟩ := ceil_ex hp hS
  have hk : Nn r ∧ fz r ≤ m * fd := by
    by_cases hm : m < 2 ^ 53
    · exact rr_le h hB h0 h0e hm (j := 1022) (by decide) (by rw [Nat.mul_assoc (m * 2 ^ 1022)]; exact h2)
    · have hm2 : m = 2 ^ 53 := by omega
      have h4 : m * fd = 1 * 2 ^ 1075 := by rw [hm2]; unfold fd; rw [← Nat.pow_add, Nat.one_mul]
      rw [h4]
      rw [h4] at h2
      exact rr_le h hB h0 h0e (m := 1) (by decide) (j := 1075) (by decide) (by rw [Nat.mul_assoc (1 * 2 ^ 1075)]; exact h2)
  refine ⟨hk.1, Nat.le_trans hk.2 ?_, Nat.le_trans (Nat.mul_le_mul_right _ hk.2) h3⟩
  have h5 : 2 * fO = 2 ^ 53 * fd := by rw [fO_eq, show 2 ^ 53 = 2 * 2 ^ 52 by decide, Nat.mul_assoc]
  rw [h5]; exact Nat.mul_le_mul_right _ h1
/-- sums, differences, products and quotients: from above, and from below by a power of two -/
theorem add_up {x y : UInt64} (hx : Nn x) (hy : Nn y) (h : fz x + fz y ≤ 2 * fO) : Nn (FP.dadd x y) ∧ fz (FP.dadd x y) ≤ 2 * fO ∧ fz (FP.dadd x y) ≤ fz x + fz y + fd := by
  obtain ⟨A, e, h1, h2, h3⟩ := add_rr hx hy
  have h4 := rr_up h1 (by decide) (Int.le_refl _) h2 (by rw [h3, Int.sub_self]; simpa using h)
  rw [h3, Int.sub_self] at h4
  simpa using h4
theorem add_ge {x y : UInt64} (hx : Nn x) (hy : Nn y) {k : Nat} (hk : k ≤ 2045) (h : 2 ^ k ≤ fz x + fz y) : 2 ^ k ≤ fz (FP.dadd x y) := by
  obtain ⟨A, e, h1, h2, h3⟩ := add_rr hx hy
  have h4 := rr_ge h1 (by decide) (Int.le_refl _) h2 (m := 1) (by decide) hk (by rw [h3, Int.sub_self]; simpa using h)
  simpa using h4
theorem add_0 {x y : UInt64} (hx : Nn x) (hy : Nn y) (h1 : fz x = 0) (h2 : fz y = 0) : fz (FP.dadd x y) = 0 := by
  obtain ⟨A, e, h3, h4, h5⟩ := add_rr hx hy
  have h6 := rr_le h3 (by decide) (Int.le_refl _) h4 (m := 0) (by decide) (j := 0) (by decide) (by rw [h5, h1, h2]; exact Nat.zero_le _)
  have := h6.2
  omega
theorem sub_up {x y : UInt64} (hx : Nn x) (hy : Nn y) (hle : fz y ≤ fz x) (h : fz x - fz y ≤ 2 * fO) : Nn (FP.dsub x y) ∧ fz (FP.dsub x y) ≤ 2 * fO ∧ fz (FP.dsub x y) ≤ fz x - fz y + fd := by
  obtain ⟨A, e, h1, h2, h3⟩ := sub_rr hx hy hle
  have h4 := rr_up h1 (by decide) (Int.le_refl _) h2 (by rw [h3, Int.sub_self]; simpa using h)
  rw [h3, Int.sub_self] at h4
  simpa using h4
theorem sub_ge {x y : UInt64} (hx : Nn x) (hy : Nn y) (hle : fz y ≤ fz x) {k : Nat} (hk : k ≤ 2045) (h : 2 ^ k ≤ fz x - fz y) : 2 ^ k ≤ fz (FP.dsub x y) := by
  obtain ⟨A, e, h1, h2, h3⟩ := sub_rr hx hy hle
  have h4 := rr_ge h1 (by decide) (Int.le_refl _) h2 (m := 1) (by decide) hk (by rw [h3, Int.sub_self]; simpa using h)
  simpa using h4
/-- a difference that is a double -/
theorem sub_eq {x y : UInt64} (hx : Nn x) (hy : Nn y) (hle : fz y ≤ fz x) {m j : Nat} (hm : m < 2 ^ 53) (hj : j ≤ 2045) (h : fz x - fz y = m * 2 ^ j) : Nn (FP.dsub x y) ∧ fz (FP.dsub x y) = m * 2 ^ j := by
  obtain ⟨A, e, h1, h2, h3⟩ := sub_rr hx hy hle
  have h4 := rr_le h1 (by decide) (Int.le_refl _) h2 hm hj (by rw [h3, Int.sub_self, h]; simp)
  have h5 := rr_ge h1 (by decide) (Int.le_refl _) h2 hm hj (by rw [h3, Int.sub_self, h]; simp)
  exact ⟨h4.1, Nat.le_antisymm h4.2 h5⟩
theorem fq2 : (FP.Core.b64.qmin - 2 * FP.Core.b64.qmin).toNat = 1074 := by rw [fp_qmin]; decide
theorem mul_up {x y : UInt64} (hx : Nn x) (hy : Nn y) (h : fz x * fz y ≤ 2 * fO * fO) : Nn (FP.dmul x y) ∧ fz (FP.dmul x y) ≤ 2 * fO ∧ fz (FP.dmul x y) * fO ≤ fz x * fz y + fd * fO := by
  obtain ⟨A, e, h1, h2, h3⟩ := mul_rr hx hy
  have h4 := rr_up h1 (by decide) (by rw [fp_qmin]; decide) h2 (by rw [h3, fq2, Nat.mul_one, fO_def]; exact h)
  rw [h3, fq2, Nat.mul_one, fO_def] at h4
  exact h4
theorem mul_ge {x y : UInt64} (hx : Nn x) (hy : Nn y) {k : Nat} (hk : k ≤ 2045) (h : 2 ^ k * fO ≤ fz x * fz y) : 2 ^ k ≤ fz (FP.dmul x y) := by
  obtain ⟨A, e, h1, h2, h3⟩ := mul_rr hx hy
  have h4 := rr_ge h1 (by decide) (by rw [fp_qmin]; decide) h2 (m := 1) (by decide) hk (by rw [h3, fq2, Nat.mul_one, Nat.one_mul]; exact h)
  simpa using h4
theorem mul_0 {x y : UInt64} (hx : Nn x) (hy : Nn y) (h : fz x * fz y = 0) : Nn (FP.dmul x y) ∧ fz (FP.dmul x y) = 0 := by
  obtain ⟨A, e, h1, h2, h3⟩ := mul_rr hx hy
  have h4 := rr_le h1 (by decide) (by rw [fp_qmin]; decide) h2 (m := 0) (by decide) (j := 0) (by decide) (by rw [h3, h]; exact Nat.zero_le _)
  exact ⟨h4.1, by have := h4.2; omega⟩
theorem mul_eq {x y : UInt64} (hx : Nn x) (hy : Nn y) {m j : Nat} (hm : m < 2 ^ 53) (hj : j ≤ 2045) (h : fz x * fz y = m * 2 ^ j * fO) : Nn (FP.dmul x y) ∧ fz (FP.dmul x y) = m * 2 ^ j := by
  obtain ⟨A, e, h1, h2, h3⟩ := mul_rr hx hy
  have h4 := rr_le h1 (by decide) (by rw [fp_qmin]; decide) h2 hm hj (by rw [h3, fq2, Nat.mul_one, h]; exact Nat.le_refl _)
  have h5 := rr_ge h1 (by decide) (by rw [fp_qmin]; decide) h2 hm hj (by rw [h3, fq2, Nat.mul_one, h]; exact Nat.le_refl _)
  exact ⟨h4.1, Nat.le_antisymm h4.2 h5⟩
theorem fq0 : ((0 : Int) - FP.Core.b64.qmin).toNat = 1074 := by rw [fp_qmin]; decide
theorem div_up {x y : UInt64} (hx : Nn x) (hy : Nn y) (h0 : 0 < fz y) (h : fz x * fO ≤ 2 * fO * fz y) : Nn (FP.ddiv x y) ∧ fz (FP.ddiv x y) ≤ 2 * fO ∧ fz (FP.ddiv x y) * fz y ≤ fz x * fO + fd * fz y := by
  have h1 := div_rr hx hy h0
  have e1 : FP.Core.inUnits (fz x) 0 FP.Core.b64.qmin = fz x * fO := by unfold FP.Core.inUnits; rw [fq0]; rfl
  have h4 := rr_up h1 h0 (Int.le_refl _) (by rw [fp_qmin]; decide) (by rw [e1, Int.sub_self]; simpa using h)
  rw [e1, Int.sub_self] at h4
  simpa using h4
theorem div_ge {x y : UInt64} (hx : Nn x) (hy : Nn y) (h0 : 0 < fz y) {k : Nat} (hk : k ≤ 2045) (h : 2 ^ k * fz y ≤ fz x * fO) : 2 ^ k ≤ fz (FP.ddiv x y) := by
  have h1 := div_rr hx hy h0
  have e1 : FP.Core.inUnits (fz x) 0 FP.Core.b64.qmin = fz x * fO := by unfold FP.Core.inUnits; rw [fq0]; rfl
  have h4 := rr_ge h1 h0 (Int.le_refl _) (by rw [fp_qmin]; decide) (m := 1) (by decide) hk (by rw [e1, Int.sub_self]; simpa using h)
  simpa using h4
/-- 0.0 is the one nought of a + sign -/
theorem fz_0 {x : UInt64} (hx : Nn x) (h : fz x = 0) : x = FP.dconst0 := by
  obtain ⟨c, q, h1⟩ := hx
  have h2 := Nn.fits h1
  have h3 : c * 2 ^ (q - FP.Core.b64.qmin).toNat = 0 := by unfold fz at h; rw [h1] at h; exact h
  have h4 : c = 0 := by
    rcases Nat.mul_eq_zero.mp h3 with h5 | h5
    · exact h5
    · have := Nat.two_pow_pos (q - FP.Core.b64.qmin).toNat; omega
  subst h4
  have h5 := FP.Core.fits_zero_q FP.Core.good_b64 h2
  subst h5
  exact FP.Core.val64_inj (by rw [h1]; intro e; cases e) (h1.trans FP.Core.val64_dconst0.symm)
