theorem sumN_mul (f : Nat → Nat) (b : Nat) : ∀ a, sumN f (a * b) = sumN (fun i => sumN (fun j => f (i * b + j)) b) a
  | 0 => by rw [Nat.zero_mul]; rfl
  | a + 1 => by
    have h := sumN_off (f := f) (a * b) b
    rw [Nat.add_mul, Nat.one_mul, ← h, sumN_mul f b a]
    simp only [sumN]; omega
theorem sumN_pick (f : Nat → Nat) (x : Nat) : ∀ k, sumN (fun p => f p * (if decide (x = p) = true then 1 else 0)) k = if x < k then f x else 0
  | 0 => by simp [sumN]
  | k + 1 => by
    simp only [sumN]
    rw [sumN_pick f x k]
    by_cases h1 : x < k
    · rw [if_pos h1, if_pos (show x < k + 1 by omega)]; simp [show ¬ x = k by omega]
    · rw [if_neg h1]
      by_cases h2 : x = k
      · subst h2; simp
      · rw [if_neg (show ¬ x < k + 1 by omega)]; simp [h2]
theorem mid_sum {P : Nat → Nat} (hP : ∀ j, P j < 8) (r : Nat) (f : Nat → Nat) : ∀ k, sumN (fun s => f (P (r * 20 + s))) k = sumN (fun p => f p * cntb (fun s => decide (P (r * 20 + s) = p)) k) 8
  | 0 => by simp only [cntb, Nat.mul_zero]; exact (sumN_zero (fun _ => rfl)).symm
  | k + 1 => by
    have h1 : sumN (fun p => f p * cntb (fun s => decide (P (r * 20 + s) = p)) (k + 1)) 8 = sumN (fun p => f p * cntb (fun s => decide (P (r * 20 + s) = p)) k + f p * (if decide (P (r * 20 + k) = p) = true then 1 else 0)) 8 := sumN_congr (fun p _ => by simp only [cntb]; rw [Nat.mul_add])
    rw [h1, sumN_add, ← mid_sum hP r f k, sumN_pick f (P (r * 20 + k)) 8, if_pos (hP _)]
    rfl
