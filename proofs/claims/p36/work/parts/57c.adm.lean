section ADM
variable {ρ σ : Nat → Nat} {j k i b u v a d n x y z B C : Nat}
/-- demands of one bidder changed to allowed ones -/
theorem Adm_dem (hA : Adm ρ) (h : fea ρ j a b d) : Adm (mDem ρ j a b d) := by
  have o : ∀ q, q ≠ 19 + 21 * j → q ≠ 20 + 21 * j → q ≠ 21 + 21 * j → mDem ρ j a b d q = ρ q := fun q h1 h2 h3 => by
    unfold mDem
    rw [setN_n h3, setN_n h2, setN_n h1]
  have e0 : mDem ρ j a b d (19 + 21 * j) = a := by unfold mDem; rw [setN_n (by omega), setN_n (by omega), setN_s]
  have e1 : mDem ρ j a b d (20 + 21 * j) = b := by unfold mDem; rw [setN_n (by omega), setN_s]
  have e2 : mDem ρ j a b d (21 + 21 * j) = d := by unfold mDem; rw [setN_s]
  have m : ∀ c k, k < 3 → most (mDem ρ j a b d) c k = most ρ c k := fun c k hk => most_cong hk (fun q h1 h2 => o _ (by omega) (by omega) (by omega)) (o _ (by omega) (by omega) (by omega))
  have h4 : mDem ρ j a b d 4 = ρ 4 := o _ (by omega) (by omega) (by omega)
  obtain ⟨f0, f1, f2, f3⟩ := h
  refine ⟨fun c hc k hk => ?_, fun c hc => ?_⟩
  · rw [h4] at hc
    rw [m c k hk]
    by_cases e : c = j
    · subst e
      refine k3 (P := fun k => mDem ρ c a b d (19 + 21 * c + k) ≤ most ρ c k) hk ?_ ?_ ?_
      · show mDem ρ c a b d (19 + 21 * c) ≤ _; rw [e0]; exact f0
      · show mDem ρ c a b d (19 + 21 * c + 1) ≤ _; rw [show 19 + 21 * c + 1 = 20 + 21 * c by omega, e1]; exact f1
      · show mDem ρ c a b d (19 + 21 * c + 2) ≤ _; rw [show 19 + 21 * c + 2 = 21 + 21 * c by omega, e2]; exact f2
    · rw [o _ (by omega) (by omega) (by omega)]
      exact hA.1 c hc k hk
  · rw [h4] at hc
    rw [o (14 + 21 * c) (by omega) (by omega) (by omega)]
    by_cases e : c = j
    · subst e
      unfold act
      rw [e0, e1, e2, o 8 (by omega) (by omega) (by omega), o 9 (by omega) (by omega) (by omega), o 10 (by omega) (by omega) (by omega), Nat.mul_comm (ρ 8), Nat.mul_comm (ρ 9), Nat.mul_comm (ρ 10)]
      exact f3
    · rw [act_cong (ρ := ρ) (fun q h1 h2 => o _ (by omega) (by omega) (by omega)) (fun k hk => o _ (by omega) (by omega) (by omega))]
      exact hA.2 c hc
end ADM
