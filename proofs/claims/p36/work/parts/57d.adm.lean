section ADM
variable {ρ σ : Nat → Nat} {j k i b u v a d n x y z B C : Nat}
/-- a best bid by values there is -/
theorem best_ex (N : Nat) : ∃ t, t < N + 1 ∧ feaC ρ j t ∧ ∀ u, u < N + 1 → feaC ρ j u → gnC ρ j u ≤ gnC ρ j t ∧ (gnC ρ j u = gnC ρ j t → t ≤ u) := by
  induction N with
  | zero =>
    refine ⟨0, by decide, fea_0, fun u hu _ => ?_⟩
    obtain rfl : u = 0 := by omega
    exact ⟨Int.le_refl _, fun _ => Nat.le_refl _⟩
  | succ N ih =>
    obtain ⟨t, h1, h2, h3⟩ := ih
    by_cases hf : feaC ρ j (N + 1) ∧ gnC ρ j t < gnC ρ j (N + 1)
    · refine ⟨N + 1, by omega, hf.1, fun u hu hfu => ?_⟩
      by_cases e : u = N + 1
      · subst e; exact ⟨Int.le_refl _, fun _ => Nat.le_refl _⟩
      · have := (h3 u (by omega) hfu).1
        have := hf.2
        exact ⟨by omega, fun z => by omega⟩
    · refine ⟨t, by omega, h2, fun u hu hfu => ?_⟩
      by_cases e : u = N + 1
      · subst e
        have : ¬ gnC ρ j t < gnC ρ j (N + 1) := fun z => hf ⟨hfu, z⟩
        exact ⟨by omega, fun _ => by omega⟩
      · exact h3 u (by omega) hfu
theorem bsC_is : IsB ρ j (bsC ρ j) := by
  obtain ⟨t, h1, h2, h3⟩ := best_ex (ρ := ρ) (j := j) 999
  have h : IsB ρ j t := ⟨h1, h2, h3⟩
  rw [h.eq]
  exact h
theorem Adm_bid (hA : Adm ρ) : Adm (mBid ρ j) := Adm_dem hA (bsC_is (ρ := ρ) (j := j)).2.1
end ADM
