theorem nd_st {f : Nat → Nat → Nat → Nat} {K d0 d1 d2 : Nat} (hf : ∀ x y t, f x y t ≤ 30000) (ih : ∃ bb ss cc, NdI f (lexV K d0 d1 d2) bb ss cc) : ∃ bb ss cc, NdI f (lexV K d0 d1 (d2 + 1)) bb ss cc := by
  obtain ⟨bb, ss, cc, h⟩ := ih
  by_cases hs : d0 + d1 + d2 ≤ K
  · by_cases h1 : bb < nI (f d0 d1 d2)
    · exact ⟨_, _, _, h.new hs hf (Or.inl h1)⟩
    · by_cases h2 : nI (f d0 d1 d2) = bb
      · by_cases h3 : d0 + d1 + d2 < ss
        · exact ⟨_, _, _, h.new hs hf (Or.inr ⟨h2, h3⟩)⟩
        · exact ⟨_, _, _, h.old hf h1 (Or.inr (by omega))⟩
      · exact ⟨_, _, _, h.old hf h1 (Or.inl h2)⟩
  · exact ⟨bb, ss, cc, h.iff (fun x y t => by unfold lexV; omega)⟩
theorem nd_ex {f : Nat → Nat → Nat → Nat} {K : Nat} (hf : ∀ x y t, f x y t ≤ 30000) : ∀ d0 d1 d2, ∃ bb ss cc, NdI f (lexV K d0 d1 d2) bb ss cc := by
  intro d0
  induction d0 with
  | zero =>
    intro d1
    induction d1 with
    | zero =>
      intro d2
      induction d2 with
      | zero => exact ⟨-1, 0, 0, Or.inl ⟨rfl, fun x y t h => by unfold lexV at h; omega⟩⟩
      | succ d2 ih => exact nd_st hf ih
    | succ d1 ih1 =>
      intro d2
      induction d2 with
      | zero =>
        obtain ⟨bb, ss, cc, h⟩ := ih1 (K + 1)
        exact ⟨bb, ss, cc, h.iff (fun x y t => by unfold lexV; omega)⟩
      | succ d2 ih => exact nd_st hf ih
  | succ d0 ih0 =>
    intro d1
    induction d1 with
    | zero =>
      intro d2
      induction d2 with
      | zero =>
        obtain ⟨bb, ss, cc, h⟩ := ih0 (K + 1) 0
        exact ⟨bb, ss, cc, h.iff (fun x y t => by unfold lexV; omega)⟩
      | succ d2 ih => exact nd_st hf ih
    | succ d1 ih1 =>
      intro d2
      induction d2 with
      | zero =>
        obtain ⟨bb, ss, cc, h⟩ := ih1 (K + 1)
        exact ⟨bb, ss, cc, h.iff (fun x y t => by unfold lexV; omega)⟩
      | succ d2 ih => exact nd_st hf ih
theorem Bst.ex {f : Nat → Nat → Nat → Nat} (K : Nat) (hf : ∀ x y t, f x y t ≤ 30000) : ∃ d, Bst f K d := by
  obtain ⟨bb, ss, cc, h⟩ := nd_ex (f := f) (K := K) hf (K + 1) 0 0
  rcases h with ⟨_, h⟩ | ⟨u, v, s, h1, _, _, _, h5⟩
  · exact absurd ⟨by omega, by omega⟩ (h 0 0 0)
  · exact ⟨(u, v, s), h1.1, fun x y t hs => h5 x y t ⟨hs, by omega⟩⟩
theorem enum_ex (cnt : Nat → Nat) : ∀ V : Nat, ∃ (sz : Nat) (f : Nat → Nat), (∀ i j, i < j → j < sz → f i < f j) ∧ (∀ i, i < sz → 0 < cnt (f i) ∧ f i < V) ∧ (∀ u, u < V → 0 < cnt u → ∃ i, i < sz ∧ f i = u)
  | 0 => ⟨0, fun _ => 0, fun i j _ h => absurd h (by omega), fun i h => absurd h (by omega), fun u h => absurd h (by omega)⟩
  | V + 1 => by
    obtain ⟨sz, f, h1, h2, h3⟩ := enum_ex cnt V
    by_cases hc : 0 < cnt V
    · refine ⟨sz + 1, fun i => if i = sz then V else f i, fun i j hij hj => ?_, fun i hi => ?_, fun u hu hcu => ?_⟩
      · dsimp only
        rw [if_neg (show ¬ i = sz by omega)]
        by_cases e : j = sz
        · rw [if_pos e]; exact (h2 i (by omega)).2
        · rw [if_neg e]; exact h1 i j hij (by omega)
      · dsimp only
        by_cases e : i = sz
        · rw [if_pos e]; exact ⟨hc, by omega⟩
        · rw [if_neg e]; have := h2 i (by omega); exact ⟨this.1, by omega⟩
      · by_cases e : u = V
        · exact ⟨sz, by omega, by dsimp only; rw [if_pos rfl, e]⟩
        · obtain ⟨i, hi, e2⟩ := h3 u (by omega) hcu
          exact ⟨i, by omega, by dsimp only; rw [if_neg (by omega)]; exact e2⟩
    · refine ⟨sz, f, h1, fun i hi => ⟨(h2 i hi).1, by have := (h2 i hi).2; omega⟩, fun u hu hcu => ?_⟩
      by_cases e : u = V
      · subst e; exact absurd hcu hc
      · exact h3 u (by omega) hcu
theorem Enum.ex {n : Nat → Nat} {E : Nat → Nat → Nat → Nat} (hE : ∀ a b c, E a b c ≤ 30000) : ∃ sz f, Enum (cT n E) sz f := by
  obtain ⟨sz, f, h1, h2, h3⟩ := enum_ex (cT n E) 30001
  refine ⟨sz, f, h1, fun i hi => (h2 i hi).1, fun u hu => ?_⟩
  by_cases e : u < 30001
  · exact h3 u e hu
  · exfalso
    have h0 : cT n E u = 0 := by
      unfold cT
      rw [← tot_zero n]
      exact congrArg (tot n) (by funext a b c; unfold iw; rw [if_neg (by have := hE a b c; omega)])
    omega
