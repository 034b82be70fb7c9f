/-! HOW ODD: the chances of j of g, and that they stay between nought and 2.0 -/
def hitN (n : Nat) : UInt64 := FP.ddiv FP.dconst1 (FP.i2d (nI n))
def misN (n : Nat) : UInt64 := FP.dsub FP.dconst1 (hitN n)
theorem hit_ok {n : Nat} (h4 : 4 ≤ n) (h20 : n ≤ 20) : Nn (hitN n) ∧ 2 ^ 1069 ≤ fz (hitN n) ∧ 2 * fz (hitN n) ≤ fO := by
  obtain ⟨b1, b2⟩ := i2d_ok (k := n) (by omega)
  have a1 := one_ok.1
  have a2 : fz FP.dconst1 = fO := one_ok.2
  rw [fO_def] at b2
  have h0 : 0 < fz (FP.i2d (nI n)) := by rw [b2]; exact Nat.mul_pos (by omega) fO_pos
  have h2 := div_up a1 b1 h0 (by
    rw [a2, b2]
    calc fO * fO ≤ n * (fO * fO) := Nat.le_mul_of_pos_left _ (by omega)
      _ ≤ 2 * (n * (fO * fO)) := by omega
      _ = 2 * fO * (n * fO) := by simp only [Nat.mul_assoc]; rw [Nat.mul_left_comm n fO fO])
  have h3 := div_ge a1 b1 h0 (k := 1069) (by decide) (by
    rw [a2, b2]
    have h4 : 2 ^ 1069 * n ≤ fO := by
      have h5 : (2 : Nat) ^ 1069 * 2 ^ 5 = fO := by rw [← Nat.pow_add]; rfl
      rw [← h5]; exact Nat.mul_le_mul_left _ (by omega)
    calc 2 ^ 1069 * (n * fO) = 2 ^ 1069 * n * fO := (Nat.mul_assoc _ _ _).symm
      _ ≤ fO * fO := Nat.mul_le_mul_right _ h4)
  refine ⟨h2.1, h3, ?_⟩
  have h6 := h2.2.2
  rw [a2, b2] at h6
  have h7 : fz (hitN n) * n * fO ≤ (fO + fd * n) * fO := by
    calc fz (hitN n) * n * fO = fz (FP.ddiv FP.dconst1 (FP.i2d (nI n))) * (n * fO) := Nat.mul_assoc _ _ _
      _ ≤ fO * fO + fd * (n * fO) := h6
      _ = (fO + fd * n) * fO := by rw [Nat.add_mul, Nat.mul_assoc fd]
  have h8 := Nat.le_of_mul_le_mul_right h7 fO_pos
  have h9 : fz (hitN n) * 4 ≤ fz (hitN n) * n := Nat.mul_le_mul_left _ h4
  have h10 : fd * n ≤ fd * 20 := Nat.mul_le_mul_left _ h20
  have h11 : 20 * fd ≤ 2 ^ 52 * fd := Nat.mul_le_mul_right _ (by decide)
  have h12 := fO_eq
  omega
theorem mis_ok {n : Nat} (h4 : 4 ≤ n) (h20 : n ≤ 20) : Nn (misN n) ∧ 2 ^ 1073 ≤ fz (misN n) ∧ fz (misN n) + fz (hitN n) ≤ fO + fd ∧ fz (misN n) ≤ fO := by
  obtain ⟨h1, h2, h3⟩ := hit_ok h4 h20
  have a1 := one_ok.1
  have a2 : fz FP.dconst1 = fO := one_ok.2
  have h5 := sub_up a1 h1 (by rw [a2]; omega) (by rw [a2]; omega)
  have h6 := sub_ge a1 h1 (by rw [a2]; omega) (k := 1073) (by decide) (by
    have e : (2 : Nat) ^ 1073 * 2 = fO := (Nat.pow_succ 2 1073).symm
    rw [a2]; omega)
  have h7 : fd ≤ 2 ^ 1069 := Nat.pow_le_pow_right (by decide) (by decide)
  have h8 := h5.2.2
  rw [a2] at h8
  have h9 : fz (misN n) ≤ fO - fz (hitN n) + fd := h8
  exact ⟨h5.1, h6, by omega, by omega⟩
def prb (h m : UInt64) : Nat → Nat → UInt64
  | 0, 0 => FP.dconst1
  | 0, _ + 1 => FP.dconst0
  | g + 1, 0 => FP.dmul (prb h m g 0) m
  | g + 1, j + 1 => FP.dadd (FP.dmul (prb h m g (j + 1)) m) (FP.dmul (prb h m g j) h)
theorem sumN_mem {f : Nat → Nat} : ∀ {k j : Nat}, j < k → f j ≤ sumN f k
  | 0, j, h => by omega
  | k + 1, j, h => by
    simp only [sumN]
    by_cases e : j = k
    · subst e; omega
    · have := sumN_mem (f := f) (k := k) (j := j) (by omega); omega
theorem sumN_mem2 {f : Nat → Nat} : ∀ {k j : Nat}, j + 1 < k → f j + f (j + 1) ≤ sumN f k
  | 0, j, h => by omega
  | k + 1, j, h => by
    simp only [sumN]
    by_cases e : j + 1 = k
    · subst e; have := sumN_mem (f := f) (k := j + 1) (j := j) (by omega); omega
    · have := sumN_mem2 (f := f) (k := k) (j := j) (by omega); omega
theorem sumN_add (f g : Nat → Nat) : ∀ k, sumN (fun i => f i + g i) k = sumN f k + sumN g k
  | 0 => rfl
  | k + 1 => by simp only [sumN]; rw [sumN_add f g k]; omega
theorem sumN_mulr (f : Nat → Nat) (c : Nat) : ∀ k, sumN (fun i => f i * c) k = sumN f k * c
  | 0 => by simp [sumN]
  | k + 1 => by simp only [sumN]; rw [sumN_mulr f c k, Nat.add_mul]
theorem sumN_mono {f g : Nat → Nat} : ∀ {k : Nat}, (∀ i, i < k → f i ≤ g i) → sumN f k ≤ sumN g k
  | 0, _ => Nat.le_refl _
  | k + 1, h => by simp only [sumN]; have h1 := sumN_mono (k := k) (fun i hi => h i (by omega)); have h2 := h k (by omega); omega
def shf (f : Nat → Nat) : Nat → Nat
  | 0 => 0
  | j + 1 => f j
theorem sumN_shf (f : Nat → Nat) : ∀ k, sumN (shf f) k ≤ sumN f k
  | 0 => Nat.le_refl _
  | 1 => by simp [sumN, shf]
  | k + 2 => by
    have h : ∀ k, sumN (shf f) (k + 1) = sumN f k := by
      intro k
      induction k with
      | zero => rfl
      | succ k ih => rw [sumN, ih]; rfl
    rw [h]; simp only [sumN]; omega
abbrev msP (h m : UInt64) (g : Nat) : Nat := sumN (fun j => fz (prb h m g j)) 201
/-- one game more -/
theorem prb_step {n g : Nat} (h4 : 4 ≤ n) (h20 : n ≤ 20) (hN : ∀ j, j < 201 → Nn (prb (hitN n) (misN n) g j)) (hM : msP (hitN n) (misN n) g ≤ fO + 121000 * fd) (j : Nat) (hj : j < 201) :
    Nn (FP.dmul (prb (hitN n) (misN n) g j) (misN n)) ∧ Nn (FP.dmul (prb (hitN n) (misN n) g j) (hitN n)) ∧ Nn (prb (hitN n) (misN n) (g + 1) j) ∧ fz (prb (hitN n) (misN n) (g + 1) j) * fO ≤ fz (prb (hitN n) (misN n) g j) * fz (misN n) + shf (fun j => fz (prb (hitN n) (misN n) g j)) j * fz (hitN n) + 3 * fd * fO := by
  obtain ⟨a1, a2, a3⟩ := hit_ok h4 h20
  obtain ⟨b1, b2, b3, b4⟩ := mis_ok h4 h20
  have h2 : fO + 121002 * fd ≤ 2 * fO := by
    have := fO_eq
    have h3 : 121002 * fd ≤ 2 ^ 52 * fd := Nat.mul_le_mul_right _ (by decide)
    omega
  have hP : ∀ i, i < 201 → fz (prb (hitN n) (misN n) g i) ≤ 2 * fO := fun i hi => by
    have h9 : fz (prb (hitN n) (misN n) g i) ≤ msP (hitN n) (misN n) g := sumN_mem (f := fun j => fz (prb (hitN n) (misN n) g j)) hi
    omega
  have hm : ∀ i, i < 201 → Nn (FP.dmul (prb (hitN n) (misN n) g i) (misN n)) ∧ fz (FP.dmul (prb (hitN n) (misN n) g i) (misN n)) * fO ≤ fz (prb (hitN n) (misN n) g i) * fz (misN n) + fd * fO := fun i hi => by
    have h5 := mul_up (hN i hi) b1 (Nat.mul_le_mul (hP i hi) b4)
    exact ⟨h5.1, h5.2.2⟩
  have hh : ∀ i, i < 201 → Nn (FP.dmul (prb (hitN n) (misN n) g i) (hitN n)) ∧ fz (FP.dmul (prb (hitN n) (misN n) g i) (hitN n)) * fO ≤ fz (prb (hitN n) (misN n) g i) * fz (hitN n) + fd * fO := fun i hi => by
    have h5 := mul_up (hN i hi) a1 (Nat.mul_le_mul (hP i hi) (by omega))
    exact ⟨h5.1, h5.2.2⟩
  refine ⟨(hm j hj).1, (hh j hj).1, ?_⟩
  cases j with
  | zero =>
    refine ⟨(hm 0 hj).1, ?_⟩
    have h6 := (hm 0 hj).2
    show fz (FP.dmul (prb (hitN n) (misN n) g 0) (misN n)) * fO ≤ _ + 0 * _ + _
    rw [Nat.zero_mul, Nat.mul_assoc 3]; omega
  | succ j =>
    have p := hm (j + 1) hj
    have q := hh j (by omega)
    have h7 : fz (prb (hitN n) (misN n) g j) + fz (prb (hitN n) (misN n) g (j + 1)) ≤ msP (hitN n) (misN n) g := sumN_mem2 (f := fun j => fz (prb (hitN n) (misN n) g j)) hj
    have h8 : (fz (FP.dmul (prb (hitN n) (misN n) g (j + 1)) (misN n)) + fz (FP.dmul (prb (hitN n) (misN n) g j) (hitN n))) * fO ≤ 2 * fO * fO := by
      have e1 : fz (prb (hitN n) (misN n) g (j + 1)) * fz (misN n) ≤ fz (prb (hitN n) (misN n) g (j + 1)) * fO := Nat.mul_le_mul_left _ b4
      have e2 : fz (prb (hitN n) (misN n) g j) * fz (hitN n) ≤ fz (prb (hitN n) (misN n) g j) * fO := Nat.mul_le_mul_left _ (by omega)
      have e3 : (fz (prb (hitN n) (misN n) g j) + fz (prb (hitN n) (misN n) g (j + 1)) + 2 * fd) * fO ≤ 2 * fO * fO := Nat.mul_le_mul_right _ (by omega)
      rw [Nat.add_mul, Nat.add_mul] at e3
      rw [Nat.add_mul]
      rw [Nat.mul_assoc 2 fd] at e3
      omega
    have h9 := add_up p.1 q.1 (Nat.le_of_mul_le_mul_right h8 fO_pos)
    refine ⟨h9.1, ?_⟩
    have h10 := Nat.mul_le_mul_right fO h9.2.2
    rw [Nat.add_mul, Nat.add_mul] at h10
    have e4 : 3 * fd * fO = 3 * (fd * fO) := Nat.mul_assoc _ _ _
    show fz (FP.dadd (FP.dmul (prb (hitN n) (misN n) g (j + 1)) (misN n)) (FP.dmul (prb (hitN n) (misN n) g j) (hitN n))) * fO ≤ fz (prb (hitN n) (misN n) g (j + 1)) * fz (misN n) + fz (prb (hitN n) (misN n) g j) * fz (hitN n) + 3 * fd * fO
    rw [e4]; omega
theorem prb_ok {n : Nat} (h4 : 4 ≤ n) (h20 : n ≤ 20) : ∀ g, g ≤ 200 → (∀ j, j < 201 → Nn (prb (hitN n) (misN n) g j)) ∧ msP (hitN n) (misN n) g ≤ fO + 605 * g * fd
  | 0, _ => by
    have hz : ∀ k, sumN (fun j => fz (prb (hitN n) (misN n) 0 j)) (k + 1) = fO := by
      intro k
      induction k with
      | zero =>
        show 0 + fz FP.dconst1 = fO
        rw [one_ok.2, Nat.zero_add]; rfl
      | succ k ih =>
        rw [sumN, ih]
        show fO + fz FP.dconst0 = fO
        rw [zero_ok.2, Nat.add_zero]
    refine ⟨fun j _ => ?_, ?_⟩
    · cases j with
      | zero => exact one_ok.1
      | succ j => exact zero_ok.1
    · rw [msP, hz 200]; omega
  | g + 1, hg => by
    obtain ⟨h1, h2⟩ := prb_ok h4 h20 g (by omega)
    have h3 : msP (hitN n) (misN n) g ≤ fO + 121000 * fd := Nat.le_trans h2 (by have := Nat.mul_le_mul_right fd (show 605 * g ≤ 121000 by omega); omega)
    have h5 := prb_step h4 h20 h1 h3
    refine ⟨fun j hj => (h5 j hj).2.2.1, ?_⟩
    obtain ⟨a1, a2, a3⟩ := hit_ok h4 h20
    obtain ⟨b1, b2, b3, b4⟩ := mis_ok h4 h20
    have h6 : msP (hitN n) (misN n) (g + 1) * fO ≤ (msP (hitN n) (misN n) g + 605 * fd) * fO := by
      have e1 : msP (hitN n) (misN n) (g + 1) * fO = sumN (fun j => fz (prb (hitN n) (misN n) (g + 1) j) * fO) 201 := (sumN_mulr _ _ _).symm
      have e2 : sumN (fun j => fz (prb (hitN n) (misN n) (g + 1) j) * fO) 201 ≤ sumN (fun j => fz (prb (hitN n) (misN n) g j) * fz (misN n) + shf (fun j => fz (prb (hitN n) (misN n) g j)) j * fz (hitN n) + 3 * fd * fO) 201 := sumN_mono (fun j hj => (h5 j hj).2.2.2)
      have e3 : sumN (fun j => fz (prb (hitN n) (misN n) g j) * fz (misN n) + shf (fun j => fz (prb (hitN n) (misN n) g j)) j * fz (hitN n) + 3 * fd * fO) 201 = msP (hitN n) (misN n) g * fz (misN n) + sumN (shf (fun j => fz (prb (hitN n) (misN n) g j))) 201 * fz (hitN n) + 201 * (3 * fd * fO) := by
        rw [sumN_add (fun j => fz (prb (hitN n) (misN n) g j) * fz (misN n) + shf (fun j => fz (prb (hitN n) (misN n) g j)) j * fz (hitN n)) (fun _ => 3 * fd * fO), sumN_add (fun j => fz (prb (hitN n) (misN n) g j) * fz (misN n)) (fun j => shf (fun j => fz (prb (hitN n) (misN n) g j)) j * fz (hitN n)), sumN_mulr, sumN_mulr]
        have hc : ∀ c k, sumN (fun _ => c) k = k * c := by
          intro c k
          induction k with
          | zero => simp [sumN]
          | succ k ih => rw [sumN, ih, Nat.succ_mul]
        rw [hc]
      have e4 : sumN (shf (fun j => fz (prb (hitN n) (misN n) g j))) 201 * fz (hitN n) ≤ msP (hitN n) (misN n) g * fz (hitN n) := Nat.mul_le_mul_right _ (sumN_shf _ _)
      have e5 : msP (hitN n) (misN n) g * (fz (misN n) + fz (hitN n)) ≤ msP (hitN n) (misN n) g * (fO + fd) := Nat.mul_le_mul_left _ b3
      have h8 : fO + 121000 * fd ≤ 2 * fO := by
        have := fO_eq
        have h9 : 121000 * fd ≤ 2 ^ 52 * fd := Nat.mul_le_mul_right _ (by decide)
        omega
      have e6 : msP (hitN n) (misN n) g * fd ≤ 2 * fO * fd := Nat.mul_le_mul_right _ (by omega)
      rw [Nat.mul_add, Nat.mul_add] at e5
      have e7 : 201 * (3 * fd * fO) = 603 * (fd * fO) := by rw [Nat.mul_assoc 3, ← Nat.mul_assoc 201]
      have e8 : 2 * fO * fd = 2 * (fd * fO) := by rw [Nat.mul_assoc, Nat.mul_comm fO]
      have e9 : 605 * fd * fO = 605 * (fd * fO) := Nat.mul_assoc _ _ _
      rw [e1, Nat.add_mul, e9]
      rw [e8] at e6
      rw [e3, e7] at e2
      omega
    have h7 := Nat.le_of_mul_le_mul_right h6 fO_pos
    have h8 : 605 * (g + 1) * fd = 605 * g * fd + 605 * fd := by rw [Nat.mul_add, Nat.add_mul]
    omega
theorem prb_bnd {n g : Nat} (h4 : 4 ≤ n) (h20 : n ≤ 20) (hg : g ≤ 200) : (∀ j, j < 201 → Nn (prb (hitN n) (misN n) g j)) ∧ msP (hitN n) (misN n) g ≤ fO + 121000 * fd :=
  ⟨(prb_ok h4 h20 g hg).1, Nat.le_trans (prb_ok h4 h20 g hg).2 (by have := Nat.mul_le_mul_right fd (show 605 * g ≤ 121000 by omega); omega)⟩
theorem prb_lo {n : Nat} (h4 : 4 ≤ n) (h20 : n ≤ 20) : ∀ g, g ≤ 200 → ∀ j, j < 201 → fz (prb (hitN n) (misN n) g j) = 0 ∨ 2 ^ (1074 - 5 * g) ≤ fz (prb (hitN n) (misN n) g j)
  | 0, _, 0, _ => Or.inr (by show 2 ^ 1074 ≤ fz FP.dconst1; rw [one_ok.2]; exact Nat.le_refl _)
  | 0, _, j + 1, _ => Or.inl zero_ok.2
  | g + 1, hg, j, hj => by
    obtain ⟨a1, a2, a3⟩ := hit_ok h4 h20
    obtain ⟨b1, b2, b3, b4⟩ := mis_ok h4 h20
    obtain ⟨h1, h2⟩ := prb_bnd (g := g) h4 h20 (by omega)
    have hs := prb_step h4 h20 h1 h2
    have hm : ∀ i, i < 201 → fz (FP.dmul (prb (hitN n) (misN n) g i) (misN n)) = 0 ∨ 2 ^ (1074 - 5 * (g + 1)) ≤ fz (FP.dmul (prb (hitN n) (misN n) g i) (misN n)) := fun i hi => by
      rcases prb_lo h4 h20 g (by omega) i hi with h3 | h3
      · exact Or.inl (mul_0 (h1 i hi) b1 (by rw [h3, Nat.zero_mul])).2
      · refine Or.inr (mul_ge (h1 i hi) b1 (by omega) ?_)
        calc 2 ^ (1074 - 5 * (g + 1)) * fO = 2 ^ (1074 - 5 * g) * 2 ^ 1069 := by unfold fO; rw [← Nat.pow_add, ← Nat.pow_add]; congr 1; omega
          _ ≤ 2 ^ (1074 - 5 * g) * 2 ^ 1073 := Nat.mul_le_mul_left _ (Nat.pow_le_pow_right (by decide) (by decide))
          _ ≤ _ := Nat.mul_le_mul h3 b2
    have hh : ∀ i, i < 201 → fz (FP.dmul (prb (hitN n) (misN n) g i) (hitN n)) = 0 ∨ 2 ^ (1074 - 5 * (g + 1)) ≤ fz (FP.dmul (prb (hitN n) (misN n) g i) (hitN n)) := fun i hi => by
      rcases prb_lo h4 h20 g (by omega) i hi with h3 | h3
      · exact Or.inl (mul_0 (h1 i hi) a1 (by rw [h3, Nat.zero_mul])).2
      · refine Or.inr (mul_ge (h1 i hi) a1 (by omega) ?_)
        calc 2 ^ (1074 - 5 * (g + 1)) * fO = 2 ^ (1074 - 5 * g) * 2 ^ 1069 := by unfold fO; rw [← Nat.pow_add, ← Nat.pow_add]; congr 1; omega
          _ ≤ _ := Nat.mul_le_mul h3 a2
    cases j with
    | zero => exact hm 0 hj
    | succ j =>
      have p := hm (j + 1) hj
      have q := hh j (by omega)
      have pn := (hs (j + 1) hj).1
      have qn := (hs j (by omega)).2.1
      show fz (FP.dadd _ _) = 0 ∨ _ ≤ fz (FP.dadd _ _)
      rcases p with p | p
      · rcases q with q | q
        · exact Or.inl (add_0 pn qn p q)
        · exact Or.inr (add_ge pn qn (by omega) (by omega))
      · exact Or.inr (add_ge pn qn (by omega) (by omega))
theorem prb_0 {n : Nat} (h4 : 4 ≤ n) (h20 : n ≤ 20) : ∀ g j, g < j → prb (hitN n) (misN n) g j = FP.dconst0
  | 0, 0, h => by omega
  | 0, j + 1, _ => rfl
  | g + 1, 0, h => by omega
  | g + 1, j + 1, h => by
    have b1 := (mis_ok h4 h20).1
    have a1 := (hit_ok h4 h20).1
    show FP.dadd (FP.dmul (prb (hitN n) (misN n) g (j + 1)) (misN n)) (FP.dmul (prb (hitN n) (misN n) g j) (hitN n)) = _
    rw [prb_0 h4 h20 g (j + 1) (by omega), prb_0 h4 h20 g j (by omega)]
    have e1 := mul_0 zero_ok.1 b1 (by rw [zero_ok.2, Nat.zero_mul])
    have e2 := mul_0 zero_ok.1 a1 (by rw [zero_ok.2, Nat.zero_mul])
    rw [fz_0 e1.1 e1.2, fz_0 e2.1 e2.2]
    have e3 := add_0 zero_ok.1 zero_ok.1 zero_ok.2 zero_ok.2
    have e4 := add_up zero_ok.1 zero_ok.1 (by rw [zero_ok.2]; exact Nat.zero_le _)
    exact fz_0 e4.1 e3
/-- the sum of k of them from m on -/
def oddS (p : Nat → UInt64) (m : Nat) : Nat → UInt64
  | 0 => FP.dconst0
  | k + 1 => FP.dadd (oddS p m k) (p (m + k))
theorem sumN_off {f : Nat → Nat} (m : Nat) : ∀ k, sumN (fun i => f (m + i)) k + sumN f m = sumN f (m + k)
  | 0 => by simp [sumN]
  | k + 1 => by
    have := sumN_off (f := f) m k
    rw [show m + (k + 1) = (m + k) + 1 by omega]
    simp only [sumN]; omega
theorem sumN_le_of_le {f : Nat → Nat} {a b : Nat} (h : a ≤ b) : sumN f a ≤ sumN f b := by
  have := sumN_off (f := f) a (b - a)
  rw [show a + (b - a) = b by omega] at this
  omega
theorem oddS_ok {n g m : Nat} (h4 : 4 ≤ n) (h20 : n ≤ 20) (hg : g ≤ 200) : ∀ k, m + k ≤ 201 → Nn (oddS (prb (hitN n) (misN n) g) m k) ∧ fz (oddS (prb (hitN n) (misN n) g) m k) ≤ sumN (fun i => fz (prb (hitN n) (misN n) g (m + i))) k + k * fd ∧ (fz (oddS (prb (hitN n) (misN n) g) m k) = 0 ∨ 2 ^ 74 ≤ fz (oddS (prb (hitN n) (misN n) g) m k))
  | 0, _ => ⟨zero_ok.1, by rw [oddS, zero_ok.2]; exact Nat.zero_le _, Or.inl zero_ok.2⟩
  | k + 1, hk => by
    obtain ⟨h1, h2, h3⟩ := oddS_ok (m := m) h4 h20 hg k (by omega)
    obtain ⟨p1, p2⟩ := prb_bnd (g := g) h4 h20 hg
    have q1 := p1 (m + k) (by omega)
    have q2 := prb_lo h4 h20 g hg (m + k) (by omega)
    have q3 : fz (prb (hitN n) (misN n) g (m + k)) = 0 ∨ 2 ^ 74 ≤ fz (prb (hitN n) (misN n) g (m + k)) := q2.imp id (fun h => Nat.le_trans (Nat.pow_le_pow_right (by decide) (by omega)) h)
    have e1 := sumN_off (f := fun j => fz (prb (hitN n) (misN n) g j)) m (k + 1)
    have e2 : sumN (fun j => fz (prb (hitN n) (misN n) g j)) (m + (k + 1)) ≤ msP (hitN n) (misN n) g := sumN_le_of_le (by omega)
    have e0 : sumN (fun i => fz (prb (hitN n) (misN n) g (m + i))) (k + 1) = sumN (fun i => fz (prb (hitN n) (misN n) g (m + i))) k + fz (prb (hitN n) (misN n) g (m + k)) := rfl
    rw [e0] at e1
    have e3 : (k + 1) * fd = k * fd + fd := Nat.succ_mul _ _
    have e5 : k * fd ≤ 201 * fd := Nat.mul_le_mul_right _ (by omega)
    have e4 : fO + 121202 * fd ≤ 2 * fO := by
      have := fO_eq
      have h9 : 121202 * fd ≤ 2 ^ 52 * fd := Nat.mul_le_mul_right _ (by decide)
      omega
    have h5 := add_up h1 q1 (by omega)
    refine ⟨h5.1, ?_, ?_⟩
    · have h6 := h5.2.2
      show fz (FP.dadd _ _) ≤ (sumN _ k + fz (prb (hitN n) (misN n) g (m + k))) + (k + 1) * fd
      rw [e3]; omega
    · show fz (FP.dadd _ _) = 0 ∨ _ ≤ fz (FP.dadd _ _)
      rcases h3 with h3 | h3
      · rcases q3 with q3 | q3
        · exact Or.inl (add_0 h1 q1 h3 q3)
        · exact Or.inr (add_ge h1 q1 (by decide) (by omega))
      · exact Or.inr (add_ge h1 q1 (by decide) (by omega))
