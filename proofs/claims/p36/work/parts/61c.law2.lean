/-! the bidder that 'act' takes -/
def aB (ρ : Nat → Nat) (y : Nat) : Nat := if ρ 4 = 0 then 0 else y % ρ 4
theorem aB_le {ρ : Nat → Nat} {y : Nat} : aB ρ y ≤ y := by unfold aB; split; exact Nat.zero_le _; exact Nat.mod_le _ _
theorem aB_0 {ρ : Nat → Nat} {y : Nat} (h : ρ 4 = 0) : (0 : Nat) = aB ρ y := by unfold aB; rw [if_pos h]
theorem aB_1 {ρ : Nat → Nat} {y : Nat} (h : 0 < ρ 4) : y % ρ 4 = aB ρ y := by unfold aB; rw [if_neg (by omega)]
theorem lt_set {lt : Nat → Nat} {k ch : Nat} (h : ∀ i, i < 120 → lt i < 256) (hc : ch < 256) : ∀ i, i < 120 → setN lt k ch i < 256 := fun i hi => by
  unfold setN
  split
  · exact hc
  · exact h i hi
