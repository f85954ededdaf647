section ADM
variable {ρ σ : Nat → Nat} {j k i b u v a d n x y z B C : Nat}
theorem Adm_add (hA : Adm ρ) (hp : ρ (22 + 21 * j) < 3) : Adm (mAdd ρ j a b d v) := by
  have o : ∀ q, q < 22 + 21 * j ∨ 35 + 21 * j ≤ q → mAdd ρ j a b d v q = ρ q := fun q h => by
    unfold mAdd
    rw [setN_n (by omega), setN_n (by omega), setN_n (by omega), setN_n (by omega), setN_n (by omega)]
  exact hA.cong (o _ (by omega)) (fun q h1 h2 => o _ (by omega)) (fun b hb => ⟨o _ (by omega), o _ (by omega)⟩) (fun b hb k2 hk2 => o _ (by omega))
theorem Adm_drop (hA : Adm ρ) (hi : 1 ≤ i ∧ i ≤ 3) : Adm (mDrop ρ j i) := by
  have o : ∀ q, q < 22 + 21 * j ∨ 35 + 21 * j ≤ q → mDrop ρ j i q = ρ q := fun q h => by
    unfold mDrop
    rw [if_neg (by omega), if_neg (by omega), if_neg (by omega)]
  exact hA.cong (o _ (by omega)) (fun q h1 h2 => o _ (by omega)) (fun b hb => ⟨o _ (by omega), o _ (by omega)⟩) (fun b hb k2 hk2 => o _ (by omega))
theorem Adm_join (hI : Inv ρ) (hA : Adm ρ) (hn : ρ 4 < 6) (hv : 1 ≤ v) : Adm (mJoin ρ u v) := by
  have e4 : mJoin ρ u v 4 = ρ 4 + 1 := setN_s
  have o : ∀ q, q ≠ 4 → q ≠ 14 + 21 * ρ 4 → q ≠ 15 + 21 * ρ 4 → mJoin ρ u v q = ρ q := fun q h1 h2 h3 => by
    unfold mJoin
    rw [setN_n h1, setN_n h3, setN_n h2]
  have z : ∀ k, k < 3 → ρ (19 + 21 * ρ 4 + k) = 0 := fun k hk => hI.zer (j := ρ 4) (Nat.le_refl _) hn (by omega) (by omega)
  refine ⟨fun b hb k hk => ?_, fun b hb => ?_⟩
  · rw [o _ (by omega) (by omega) (by omega)]
    rw [e4] at hb
    rcases Nat.lt_or_ge b (ρ 4) with q | q
    · rw [most_cong (σ := mJoin ρ u v) (ρ := ρ) hk (fun q h1 h2 => o _ (by omega) (by omega) (by omega)) (o _ (by omega) (by omega) (by omega))]
      exact hA.1 b q k hk
    · obtain rfl : b = ρ 4 := by omega
      rw [z k hk]
      exact Nat.zero_le _
  · rw [e4] at hb
    rw [act_cong (σ := mJoin ρ u v) (ρ := ρ) (fun q h1 h2 => o _ (by omega) (by omega) (by omega)) (fun k hk => o _ (by omega) (by omega) (by omega))]
    rcases Nat.lt_or_ge b (ρ 4) with q | q
    · rw [o _ (by omega) (by omega) (by omega)]
      exact hA.2 b q
    · obtain rfl : b = ρ 4 := by omega
      have z0 := z 0 (by decide)
      have z1 := z 1 (by decide)
      have z2 := z 2 (by decide)
      unfold act
      rw [show 19 + 21 * ρ 4 = 19 + 21 * ρ 4 + 0 from rfl, show 20 + 21 * ρ 4 = 19 + 21 * ρ 4 + 1 by omega, show 21 + 21 * ρ 4 = 19 + 21 * ρ 4 + 2 by omega, z0, z1, z2]
      exact Nat.zero_le _
end ADM
