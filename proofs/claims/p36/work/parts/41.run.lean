/-! rounds on a copy until it is over -/
def bidN (ρ : Nat → Nat) : Nat → Nat → Nat
  | 0 => ρ
  | b + 1 => mBid (bidN ρ b) b
def rnd (ρ : Nat → Nat) : Nat → Nat := mClose (bidN ρ (ρ 4))
def runE : Nat → (Nat → Nat) → Nat → (Nat → Nat) × Nat
  | 0, ρ, i => (ρ, i)
  | f + 1, ρ, i => if ρ 1 = 0 then runE f (rnd ρ) (1 + i) else (ρ, i)
def endR (ρ : Nat → Nat) : (Nat → Nat) × Nat := runE 200 ρ 0
section RUN
variable {ρ : Nat → Nat} {b i f : Nat}
theorem bid_4 {j : Nat} : mBid ρ j 4 = ρ 4 := mDem_o (by omega)
theorem bidN_4 : bidN ρ b 4 = ρ 4 := by
  induction b with
  | zero => rfl
  | succ b ih => exact bid_4.trans ih
theorem Inv_bidN (h : Inv ρ) : ∀ {b : Nat}, b ≤ ρ 4 → Inv (bidN ρ b)
  | 0, _ => h
  | b + 1, hb => Inv_mBid (Inv_bidN h (b := b) (by omega)) (by rw [bidN_4]; omega)
theorem bidN_1 : bidN ρ (1 + b) = mBid (bidN ρ b) b := by rw [Nat.add_comm]; rfl
theorem Inv_rnd2 (h : Inv ρ) : Inv (rnd ρ) := Inv_close (Inv_bidN h (Nat.le_refl _))
theorem runE_go (h : ρ 1 = 0) (hi : i < 200) : runE (200 - i) ρ i = runE (200 - (1 + i)) (rnd ρ) (1 + i) := by
  rw [show 200 - i = (200 - (1 + i)) + 1 by omega]
  show (if ρ 1 = 0 then _ else _) = _
  rw [if_pos h]
theorem runE_over (h : ρ 1 ≠ 0) : runE f ρ i = (ρ, i) := by
  cases f with
  | zero => rfl
  | succ f => show (if ρ 1 = 0 then _ else _) = _; rw [if_neg h]
theorem Inv_runE : ∀ {f : Nat} {ρ : Nat → Nat} {i : Nat}, Inv ρ → Inv (runE f ρ i).1
  | 0, _, _, h => h
  | f + 1, ρ, i, h => by
    unfold runE; split
    · exact Inv_runE (Inv_rnd2 h)
    · exact h
theorem runE_le : ∀ {f : Nat} {ρ : Nat → Nat} {i : Nat}, (runE f ρ i).2 ≤ i + f
  | 0, _, i => Nat.le_refl _
  | f + 1, ρ, i => by
    unfold runE; split
    · exact Nat.le_trans runE_le (by omega)
    · exact Nat.le_add_right _ _
end RUN
