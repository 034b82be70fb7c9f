theorem sumN_mul (f : Nat → Nat) (b : Nat) : ∀ a, sumN f (a * b) = sumN (fun i => sumN (fun j => f (i * b + j)) b) a
  | 0 => by rw [Nat.zero_mul]; rfl
  | a + 1 => by
    have h := sumN_off (f := f) (a * b) b
    rw [Nat.add_mul, Nat.one_mul, ← h, sumN_mul f b a]
    simp only [sumN]; omega
theorem sumN_pick (f : Nat → Nat) (x : Nat) : ∀ k, sumN (fun p => f p * (if decide (x = p) = true then 1 else 0)) k = if x < k then f x else 0
  | 0 => by simp [sumN]
  | k + 1 => by
    simp only [sumN]
    rw [sumN_pick f x k]
    by_cases h1 : x < k
    · rw [if_pos h1, if_pos (show x < k + 1 by omega)]; simp [show ¬ x = k by omega]
    · rw [if_neg h1]
      by_cases h2 : x = k
      · subst h2; simp
      · rw [if_neg (show ¬ x < k + 1 by omega)]; simp [h2]
theorem mid_sum {P : Nat → Nat} (hP : ∀ j, P j < 8) (r : Nat) (f : Nat → Nat) : ∀ k, sumN (fun s => f (P (r * 20 + s))) k = sumN (fun p => f p * cntb (fun s => decide (P (r * 20 + s) = p)) k) 8
  | 0 => by simp only [cntb, Nat.mul_zero]; exact (sumN_zero (fun _ => rfl)).symm
  | k + 1 => by
    have h1 : sumN (fun p => f p * cntb (fun s => decide (P (r * 20 + s) = p)) (k + 1)) 8 = sumN (fun p => f p * cntb (fun s => decide (P (r * 20 + s) = p)) k + f p * (if decide (P (r * 20 + k) = p) = true then 1 else 0)) 8 := sumN_congr (fun p _ => by simp only [cntb]; rw [Nat.mul_add])
    rw [h1, sumN_add, ← mid_sum hP r f k, sumN_pick f (P (r * 20 + k)) 8, if_pos (hP _)]
    rfl
theorem lin_sum {n P : Nat → Nat} (hP : ∀ j, P j < 8) (F : Nat → Nat) : tot n (fun a b c => F (lin P a b c)) = sumN (fun l => F l * (mid n P 0 (l / 64) * mid n P 1 (l / 8 % 8) * mid n P 2 (l % 8))) 512 := by
  have e1 : ∀ x y, sumN (fun c => F ((x * 8 + y) * 8 + P (2 * 20 + c))) (n 2) = sumN (fun t => F ((x * 8 + y) * 8 + t) * mid n P 2 t) 8 := fun x y => mid_sum hP 2 (fun t => F ((x * 8 + y) * 8 + t)) (n 2)
  have e2 : ∀ x, sumN (fun b => sumN (fun c => F ((x * 8 + P (1 * 20 + b)) * 8 + P (2 * 20 + c))) (n 2)) (n 1) = sumN (fun y => sumN (fun t => F ((x * 8 + y) * 8 + t) * mid n P 2 t) 8 * mid n P 1 y) 8 := fun x => by
    simp only [e1]
    exact mid_sum hP 1 (fun y => sumN (fun t => F ((x * 8 + y) * 8 + t) * mid n P 2 t) 8) (n 1)
  have e3 : tot n (fun a b c => F (lin P a b c)) = sumN (fun x => sumN (fun y => sumN (fun t => F ((x * 8 + y) * 8 + t) * mid n P 2 t) 8 * mid n P 1 y) 8 * mid n P 0 x) 8 := by
    unfold tot lin
    simp only [e2]
    exact mid_sum hP 0 (fun x => sumN (fun y => sumN (fun t => F ((x * 8 + y) * 8 + t) * mid n P 2 t) 8 * mid n P 1 y) 8) (n 0)
  rw [e3, show (512 : Nat) = 8 * 64 from rfl, sumN_mul]
  refine sumN_congr (fun x hx => ?_)
  rw [show (64 : Nat) = 8 * 8 from rfl, sumN_mul, ← sumN_mulr]
  refine sumN_congr (fun y hy => ?_)
  rw [← sumN_mulr, ← sumN_mulr]
  refine sumN_congr (fun t ht => ?_)
  rw [show x * (8 * 8) + (y * 8 + t) = (x * 8 + y) * 8 + t by omega, show ((x * 8 + y) * 8 + t) / (8 * 8) = x by omega, show ((x * 8 + y) * 8 + t) / 8 % 8 = y by omega, show ((x * 8 + y) * 8 + t) % 8 = t by omega]
  ac_rfl
