theorem bestD_due {cnt laid : Nat → Nat} {n s : Nat} : ∀ {k q : Nat}, bestD cnt laid n s k = some q → laid q < cnt q
  | 0, q, h => by simp [bestD] at h
  | k + 1, q, h => by
    simp only [bestD] at h
    cases ho : bestD cnt laid n s k with
    | none =>
      rw [ho] at h; simp only at h
      split at h
      · rename_i h2; cases h; exact h2
      · cases h
    | some b =>
      have hb := bestD_due ho
      rw [ho] at h; simp only at h
      split at h
      · rename_i h2; cases h; exact h2.1
      · cases h; exact hb
theorem bestD_none {cnt laid : Nat → Nat} {n s : Nat} : ∀ {k : Nat}, bestD cnt laid n s k = none → ∀ p, p < k → cnt p ≤ laid p
  | 0, _, p, hp => absurd hp (by omega)
  | k + 1, h, p, hp => by
    simp only [bestD] at h
    cases ho : bestD cnt laid n s k with
    | none =>
      rw [ho] at h; simp only at h
      split at h
      · cases h
      · rename_i h2
        by_cases e : p = k
        · subst e; omega
        · exact bestD_none ho p (by omega)
    | some b =>
      rw [ho] at h; simp only at h
      split at h <;> cases h
