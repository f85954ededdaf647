section ADM
variable {ρ σ : Nat → Nat} {j k i b u v a d n x y z B C : Nat}
theorem clR_rgt : ∀ {n : Nat}, b < n → clR ρ n (14 + 21 * b) = min (ρ (14 + 21 * b)) (100 * act ρ b / ρ 2)
  | 0, h => absurd h (Nat.not_lt_zero _)
  | n + 1, h => by
    show setN _ _ _ _ = _
    by_cases e : b = n
    · subst e
      rw [setN_s, clR_o (fun c hc => by omega), clR_o (b := b) (q := 2) (fun c hc => by omega), act_cong (σ := clR ρ b) (ρ := ρ) (fun q h1 h2 => clR_o (fun c hc => by omega)) (fun k hk => clR_o (fun c hc => by omega))]
    · rw [setN_n (by omega)]
      exact clR_rgt (n := n) (by omega)
theorem Adm_cl1 (hI : Inv ρ) (hA : Adm ρ) : Adm (cl1 ρ) := by
  have o : ∀ q, (∀ c, c < ρ 4 → q ≠ 14 + 21 * c) → cl1 ρ q = ρ q := fun q h => clR_o h
  have h4 : cl1 ρ 4 = ρ 4 := o _ (fun c hc => by omega)
  refine ⟨fun b hb k hk => ?_, fun b hb => ?_⟩
  · rw [h4] at hb
    rw [o _ (fun c hc => by omega), most_cong (σ := cl1 ρ) (ρ := ρ) hk (fun q h1 h2 => o _ (fun c hc => by omega)) (o _ (fun c hc => by omega))]
    exact hA.1 b hb k hk
  · rw [h4] at hb
    rw [act_cong (σ := cl1 ρ) (ρ := ρ) (fun q h1 h2 => o _ (fun c hc => by omega)) (fun k hk => o _ (fun c hc => by omega))]
    unfold cl1
    rw [clR_rgt hb]
    have hk := hI.keep
    refine Nat.le_min.mpr ⟨hA.2 b hb, (Nat.le_div_iff_mul_le (by omega)).mpr ?_⟩
    rw [Nat.mul_comm]
    exact Nat.mul_le_mul_right _ hk.2
theorem mClose_o {q : Nat} (h : 2 ≤ q) (h2 : q < 11 ∨ 14 ≤ q) : mClose ρ q = cl1 ρ q := by
  unfold mClose
  rw [setN_n (by omega), setN_n (by omega), clQ_o h2]
theorem Adm_close (hI : Inv ρ) (hA : Adm ρ) : Adm (mClose ρ) := by
  have h4 : cl1 ρ 4 = ρ 4 := clR_4
  exact (Adm_cl1 hI hA).cong (mClose_o (by omega) (by omega)) (fun q h1 h2 => mClose_o (by omega) (by omega)) (fun b hb => ⟨mClose_o (by omega) (by omega), mClose_o (by omega) (by omega)⟩) (fun b hb k hk => mClose_o (by omega) (by omega))
end ADM
