/-! DOUBLES THAT ARE 0.0 OR MORE, as whole numbers of the least one -/
def fz (x : UInt64) : Nat := FP.Core.zmag FP.Core.b64 (FP.Core.val64 x)
def Nn (x : UInt64) : Prop := ∃ c q, FP.Core.val64 x = .fin false c q
theorem Nn.ne {x : UInt64} (h : Nn x) : FP.Core.val64 x ≠ .nan := by
  obtain ⟨c, q, h⟩ := h
  rw [h]; exact fun e => by cases e
theorem Nn.n64 {x : UInt64} (h : Nn x) : vf_n64 x := by
  have h1 := (FP.Core.ne_nan x).mp h.ne
  unfold vf_n64
  rw [UInt64.le_iff_toNat_le, FP.Core.mask_toNat]
  exact h1
theorem Nn.z {x : UInt64} (h : Nn x) : FP.Core.zval FP.Core.b64 (FP.Core.val64 x) = (fz x : Int) := by
  obtain ⟨c, q, h⟩ := h
  unfold fz FP.Core.zval
  rw [h]; rfl
theorem Nn.dcmp {x y : UInt64} (hx : Nn x) (hy : Nn y) : FP.dcmp x y = some (compare (fz x : Int) (fz y : Int)) := by
  have h := FP.Core.dcmp_zval hx.ne hy.ne
  rw [hx.z, hy.z] at h
  exact h
theorem fp_qmin : FP.Core.b64.qmin = -1074 := FP.Core.qmin_b64
/-- m * 2^j is a double -/
theorem rep {m j : Nat} (hm : m < 2 ^ 53) (hj : j ≤ 2045) : ∃ V, FP.Core.fits FP.Core.b64 V ∧ V ≠ .nan ∧ FP.Core.zmag FP.Core.b64 V = m * 2 ^ j := by
  obtain ⟨c, q, h1, h2⟩ := FP.Core.round_exact FP.Core.good_b64 false (c := m) (q := FP.Core.b64.qmin + (j : Int)) hm (by omega) (by have := FP.Core.qmax_qmin FP.Core.b64; have h9 : (FP.Core.b64.emax : Int) = 1023 := by decide
                                                                                                                                     omega)
  refine ⟨.fin false c q, h1 ▸ FP.Core.round_fits FP.Core.good_b64 _, (by intro e; cases e), ?_⟩
  show FP.Core.inUnits c q FP.Core.b64.qmin = _
  rw [h2]
  unfold FP.Core.inUnits
  congr 2
  omega
theorem rr_le {r : UInt64} {A B : Nat} {e e0 : Int} (h : FP.Core.val64 r = FP.Core.roundRatio FP.Core.b64 false A B e) (hB : 0 < B) (h0 : e0 ≤ FP.Core.b64.qmin) (h0e : e0 ≤ e) {m j : Nat} (hm : m < 2 ^ 53) (hj : j ≤ 2045) (hle : FP.Core.inUnits A e e0 ≤ m * 2 ^ j * 2 ^ (FP.Core.b64.qmin - e0).toNat * B) : Nn r ∧ fz r ≤ m * 2 ^ j := by
  obtain ⟨V, hV, hn, hz⟩ := rep hm hj
  have h1 := FP.Core.zmag_roundRatio_le FP.Core.good_b64 (s := false) hB hV hn h0 h0e (by rw [hz]; exact hle)
  rw [hz, ← h] at h1
  refine ⟨?_, h1⟩
  rcases FP.Core.roundRatio_cases FP.Core.b64 false A B e with ⟨c, q, hc⟩ | hc
  · exact ⟨c, q, h.trans hc⟩
  · exfalso
    rw [h, hc] at h1
    have h2 : FP.Core.b64.tails * 2 ^ (FP.Core.b64.exps - 2) ≤ m * 2 ^ j := h1
    have h3 : FP.Core.b64.tails * 2 ^ (FP.Core.b64.exps - 2) = 2 ^ 53 * 2 ^ 2045 := by
      rw [show FP.Core.b64.tails = 2 ^ 52 from FP.Core.tails_b64, show FP.Core.b64.exps - 2 = 2046 by decide, ← Nat.pow_add, ← Nat.pow_add]
    rw [h3] at h2
    have h4 : m * 2 ^ j ≤ m * 2 ^ 2045 := Nat.mul_le_mul_left _ (Nat.pow_le_pow_right (by decide) hj)
    have h5 : m * 2 ^ 2045 < 2 ^ 53 * 2 ^ 2045 := Nat.mul_lt_mul_of_pos_right hm (Nat.two_pow_pos _)
    omega
theorem rr_ge {r : UInt64} {A B : Nat} {e e0 : Int} (h : FP.Core.val64 r = FP.Core.roundRatio FP.Core.b64 false A B e) (hB : 0 < B) (h0 : e0 ≤ FP.Core.b64.qmin) (h0e : e0 ≤ e) {m j : Nat} (hm : m < 2 ^ 53) (hj : j ≤ 2045) (hle : m * 2 ^ j * 2 ^ (FP.Core.b64.qmin - e0).toNat * B ≤ FP.Core.inUnits A e e0) : m * 2 ^ j ≤ fz r := by
  obtain ⟨V, hV, hn, hz⟩ := rep hm hj
  have h1 := FP.Core.zmag_roundRatio_ge FP.Core.good_b64 (s := false) hB hV h0 h0e (by rw [hz]; exact hle)
  rw [hz, ← h] at h1
  exact h1
theorem Nn.fits {x : UInt64} {c : Nat} {q : Int} (h : FP.Core.val64 x = .fin false c q) : FP.Core.fits FP.Core.b64 (.fin false c q) := h ▸ FP.Core.val64_fits x
theorem add_rr {x y : UInt64} (hx : Nn x) (hy : Nn y) : ∃ A e, FP.Core.val64 (FP.dadd x y) = FP.Core.roundRatio FP.Core.b64 false A 1 e ∧ FP.Core.b64.qmin ≤ e ∧ FP.Core.inUnits A e FP.Core.b64.qmin = fz x + fz y := by
  obtain ⟨c, q, h1⟩ := hx
  obtain ⟨d, r, h2⟩ := hy
  obtain ⟨sg, n, e, h3, h4, h5⟩ := FP.Core.sum_units (Nn.fits h1) (Nn.fits h2)
  have h6 := FP.Core.val64_dadd x y
  rw [h1, h2, h3] at h6
  have e1 : fz x = FP.Core.zmag FP.Core.b64 (.fin false c q) := by unfold fz; rw [h1]
  have e2 : fz y = FP.Core.zmag FP.Core.b64 (.fin false d r) := by unfold fz; rw [h2]
  have h7 : FP.Core.zval FP.Core.b64 (.fin false c q) = (fz x : Int) := by rw [e1]; rfl
  have h8 : FP.Core.zval FP.Core.b64 (.fin false d r) = (fz y : Int) := by rw [e2]; rfl
  rw [h7, h8] at h5
  have hs : sg = false := by
    have h9 : FP.Core.Datum.fin sg n e = .fin (FP.Core.sumSign false false (FP.Core.sumUnits false c q false d r (min q r))) _ _ := h3.symm
    injection h9 with h9 _ _
    rw [h9]
    unfold FP.Core.sumSign
    split
    · rfl
    · simp only [decide_eq_false_iff_not]
      unfold FP.Core.sumUnits FP.Core.signed
      simp only [Bool.false_eq_true, if_false]
      omega
  subst hs
  refine ⟨n, e, h6, h4, ?_⟩
  have h10 : ((FP.Core.inUnits n e FP.Core.b64.qmin : Nat) : Int) = (fz x : Int) + (fz y : Int) := h5
  omega
theorem sub_rr {x y : UInt64} (hx : Nn x) (hy : Nn y) (hle : fz y ≤ fz x) : ∃ A e, FP.Core.val64 (FP.dsub x y) = FP.Core.roundRatio FP.Core.b64 false A 1 e ∧ FP.Core.b64.qmin ≤ e ∧ FP.Core.inUnits A e FP.Core.b64.qmin = fz x - fz y := by
  obtain ⟨c, q, h1⟩ := hx
  obtain ⟨d, r, h2⟩ := hy
  have hf2 : FP.Core.fits FP.Core.b64 (.fin true d r) := Nn.fits h2
  obtain ⟨sg, n, e, h3, h4, h5⟩ := FP.Core.sum_units (Nn.fits h1) hf2
  have h6 := FP.Core.val64_dsub x y
  rw [h1, h2, show FP.Core.negate (.fin false d r) = .fin true d r from rfl, h3] at h6
  have e1 : fz x = FP.Core.zmag FP.Core.b64 (.fin false c q) := by unfold fz; rw [h1]
  have e2 : fz y = FP.Core.zmag FP.Core.b64 (.fin false d r) := by unfold fz; rw [h2]
  have h7 : FP.Core.zval FP.Core.b64 (.fin false c q) = (fz x : Int) := by rw [e1]; rfl
  have h8 : FP.Core.zval FP.Core.b64 (.fin true d r) = -(fz y : Int) := by rw [e2]; rfl
  rw [h7, h8] at h5
  have hs : sg = false := by
    cases sg with
    | false => rfl
    | true =>
      exfalso
      have h9 : FP.Core.Datum.fin true n e = .fin (FP.Core.sumSign false true (FP.Core.sumUnits false c q true d r (min q r))) (FP.Core.sumUnits false c q true d r (min q r)).natAbs _ := h3.symm
      injection h9 with h9 h10 _
      have h11 : FP.Core.sumUnits false c q true d r (min q r) ≠ 0 ∧ FP.Core.sumUnits false c q true d r (min q r) < 0 := by
        unfold FP.Core.sumSign at h9
        split at h9
        · cases h9
        · rename_i h12; exact ⟨h12, by simpa using h9.symm⟩
      have h12 : 0 < n := by omega
      have h13 : 0 < FP.Core.inUnits n e FP.Core.b64.qmin := Nat.mul_pos h12 (Nat.two_pow_pos _)
      have h14 : -((FP.Core.inUnits n e FP.Core.b64.qmin : Nat) : Int) = (fz x : Int) + -(fz y : Int) := h5
      omega
  subst hs
  refine ⟨n, e, h6, h4, ?_⟩
  have h10 : ((FP.Core.inUnits n e FP.Core.b64.qmin : Nat) : Int) = (fz x : Int) + -(fz y : Int) := h5
  omega
theorem mul_rr {x y : UInt64} (hx : Nn x) (hy : Nn y) : ∃ A e, FP.Core.val64 (FP.dmul x y) = FP.Core.roundRatio FP.Core.b64 false A 1 e ∧ 2 * FP.Core.b64.qmin ≤ e ∧ FP.Core.inUnits A e (2 * FP.Core.b64.qmin) = fz x * fz y := by
  obtain ⟨c, q, h1⟩ := hx
  obtain ⟨d, r, h2⟩ := hy
  obtain ⟨h3, h4, h5⟩ := FP.Core.product_units (Nn.fits h1) (Nn.fits h2)
  have h6 := FP.Core.val64_dmul x y
  rw [h1, h2, h3] at h6
  refine ⟨c * d, q + r, h6, h4, ?_⟩
  unfold fz
  rw [h1, h2]; exact h5
theorem div_rr {x y : UInt64} (hx : Nn x) (hy : Nn y) (h0 : 0 < fz y) : FP.Core.val64 (FP.ddiv x y) = FP.Core.roundRatio FP.Core.b64 false (fz x) (fz y) 0 := by
  obtain ⟨c, q, h1⟩ := hx
  obtain ⟨d, r, h2⟩ := hy
  have e1 : fz x = c * 2 ^ (q - FP.Core.b64.qmin).toNat := by unfold fz; rw [h1]; rfl
  have e2 : fz y = d * 2 ^ (r - FP.Core.b64.qmin).toNat := by unfold fz; rw [h2]; rfl
  have hd : d ≠ 0 := fun e => by rw [e2, e, Nat.zero_mul] at h0; exact absurd h0 (by decide)
  have f1 := (Nn.fits h1).2.1
  have f2 := (Nn.fits h2).2.1
  have h6 := FP.Core.val64_ddiv x y
  rw [h1, h2] at h6
  have h7 : FP.Core.quotient FP.Core.b64 (.fin false c q) (.fin false d r) = FP.Core.roundRatio FP.Core.b64 false c d (q - r) := by
    unfold FP.Core.quotient
    simp only [hd, if_false]
    rfl
  rw [h7] at h6
  refine h6.trans (FP.Core.roundRatio_congr (by omega) h0 ?_)
  rw [e1, e2]
  have h8 : (r - FP.Core.b64.qmin).toNat + (q - r - 0).toNat = (q - FP.Core.b64.qmin).toNat + (0 - (q - r)).toNat := by omega
  calc c * (d * 2 ^ (r - FP.Core.b64.qmin).toNat) * 2 ^ (q - r - 0).toNat = c * d * 2 ^ ((r - FP.Core.b64.qmin).toNat + (q - r - 0).toNat) := by rw [Nat.pow_add]; ac_rfl
    _ = c * d * 2 ^ ((q - FP.Core.b64.qmin).toNat + (0 - (q - r)).toNat) := by rw [h8]
    _ = c * 2 ^ (q - FP.Core.b64.qmin).toNat * d * 2 ^ (0 - (q - r)).toNat := by rw [Nat.pow_add]; ac_rfl
theorem i2d_ok {k : Nat} (hk : k < 2 ^ 31) : Nn (FP.i2d (nI k)) ∧ fz (FP.i2d (nI k)) = k * 2 ^ 1074 := by
  have h1 := FP.Core.val64_i2d (nI k)
  rw [nI_toInt hk] at h1
  have h2 : FP.Core.ofInt (k : Int) = .fin false k 0 := by
    unfold FP.Core.ofInt
    congr 1
  rw [h2] at h1
  obtain ⟨c, q, h3, h4⟩ := FP.Core.round_exact FP.Core.good_b64 false (c := k) (q := 0) (Nat.lt_trans hk (by decide)) (by decide) (by decide)
  have h5 := h1.trans h3
  refine ⟨⟨c, q, h5⟩, ?_⟩
  unfold fz
  rw [show FP.Core.val64 (FP.i2d (nI k)) = _ from h5]
  show FP.Core.inUnits c q FP.Core.b64.qmin = _
  rw [h4]
  unfold FP.Core.inUnits
  rw [fp_qmin]; rfl
theorem one_ok : Nn FP.dconst1 ∧ fz FP.dconst1 = 2 ^ 1074 := by
  have h := FP.Core.val64_dconst1
  refine ⟨⟨_, _, h⟩, ?_⟩
  unfold fz
  rw [show FP.Core.val64 FP.dconst1 = _ from h]
  show (2 ^ 52) * 2 ^ ((-52 : Int) - FP.Core.b64.qmin).toNat = _
  rw [fp_qmin, show ((-52 : Int) - -1074).toNat = 1022 by decide, ← Nat.pow_add]
theorem zero_ok : Nn FP.dconst0 ∧ fz FP.dconst0 = 0 := by
  have h := FP.Core.val64_dconst0
  refine ⟨⟨_, _, h⟩, ?_⟩
  unfold fz
  rw [show FP.Core.val64 FP.dconst0 = _ from h]
  show 0 * _ = 0
  exact Nat.zero_mul _
theorem two_ok : Nn (4611686018427387904 : UInt64) ∧ fz (4611686018427387904 : UInt64) = 2 * 2 ^ 1074 := by
  have h : FP.Core.val64 (4611686018427387904 : UInt64) = .fin false (2 ^ 52) (-51) := by decide +kernel
  refine ⟨⟨_, _, h⟩, ?_⟩
  unfold fz
  rw [h]
  show (2 ^ 52) * 2 ^ ((-51 : Int) - FP.Core.b64.qmin).toNat = _
  rw [fp_qmin, show ((-51 : Int) - -1074).toNat = 1023 by decide, ← Nat.pow_add, show 52 + 1023 = 1074 + 1 by decide, Nat.pow_succ, Nat.mul_comm]
theorem big_ok : Nn (4841369599423283200 : UInt64) ∧ fz (4841369599423283200 : UInt64) = 2 ^ 52 * 2 ^ 1074 := by
  have h : FP.Core.val64 (4841369599423283200 : UInt64) = .fin false (2 ^ 52) 0 := by decide +kernel
  refine ⟨⟨_, _, h⟩, ?_⟩
  unfold fz
  rw [h]
  show (2 ^ 52) * 2 ^ ((0 : Int) - FP.Core.b64.qmin).toNat = _
  rw [fp_qmin, show ((0 : Int) - -1074).toNat = 1074 by decide]
